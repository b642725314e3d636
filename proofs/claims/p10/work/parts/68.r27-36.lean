/-! GraphReaderModel.element(I)V -/
theorem m27 : gm_mt[27]? = some (⟨"GraphReaderModel", "element", "(I)V"⟩, prog_7_method_26_code, 2, none, [], 5, 2) := rfl
theorem f27_0 : gm_ft 27 0 = some (.aload_n 0, 1) := by decide +kernel
theorem r27_0 {E : Nat → Value} {d : Nat} {st : List Value} {h : gm_H} {Q : gm_R → gm_H → Prop} {a1 : Value} {x : Nat} : gm_W E d 27 0 [.ref x, a1] st h Q ↔ gm_W E d 27 1 [.ref x, a1] (.ref x :: st) h Q := gw_loc m27 f27_0 rfl rfl
theorem r27_0n {E : Nat → Value} {d : Nat} {st : List Value} {h : gm_H} {Q : gm_R → gm_H → Prop} {a1 : Value}  : gm_W E d 27 0 [.null, a1] st h Q ↔ gm_W E d 27 1 [.null, a1] (.null :: st) h Q := gw_loc m27 f27_0 rfl rfl
theorem f27_1 : gm_ft 27 1 = some (.getfield 105, 3) := by decide +kernel
theorem r27_1 {E : Nat → Value} {d : Nat} {st : List Value} {h : gm_H} {Q : gm_R → gm_H → Prop} {lv : List Value} {a : Nat} (hk : gm_kd h a = 5) : gm_W E d 27 1 lv (.ref a :: st) h Q ↔ gm_W E d 27 4 lv (gm_fv h a 44 :: st) h Q := gw_rd m27 f27_1 rfl rfl rfl rfl (gs_get k5_105 hk (by decide))
theorem f27_4 : gm_ft 27 4 = some (.iload_n 1, 1) := by decide +kernel
theorem r27_4 {E : Nat → Value} {d : Nat} {st : List Value} {h : gm_H} {Q : gm_R → gm_H → Prop} {a0 : Value} {x : Int32} : gm_W E d 27 4 [a0, .int x] st h Q ↔ gm_W E d 27 5 [a0, .int x] (.int x :: st) h Q := gw_loc m27 f27_4 rfl rfl
theorem f27_5 : gm_ft 27 5 = some (.iaload, 1) := by decide +kernel
theorem r27_5 {E : Nat → Value} {d : Nat} {st : List Value} {h : gm_H} {Q : gm_R → gm_H → Prop} {lv : List Value} {a j : Nat} (hk : gm_kd h a % 100 = 0 ∧ 100 ≤ gm_kd h a ∧ gm_kd h a < 900) (hj : j < gm_ln h a) (hl : gm_ln h a < 2 ^ 31) : gm_W E d 27 5 lv (.int (nI j) :: .ref a :: st) h Q ↔ gm_W E d 27 6 lv (gm_fv h a j :: st) h Q := gw_rd m27 f27_5 rfl rfl rfl rfl (gs_ld (P := fun t => t == 0) hk.2 (by have := hk.1; simp [this] <;> omega) hj hl)
theorem f27_6 : gm_ft 27 6 = some (.aload_n 0, 1) := by decide +kernel
theorem r27_6 {E : Nat → Value} {d : Nat} {st : List Value} {h : gm_H} {Q : gm_R → gm_H → Prop} {a1 : Value} {x : Nat} : gm_W E d 27 6 [.ref x, a1] st h Q ↔ gm_W E d 27 7 [.ref x, a1] (.ref x :: st) h Q := gw_loc m27 f27_6 rfl rfl
theorem r27_6n {E : Nat → Value} {d : Nat} {st : List Value} {h : gm_H} {Q : gm_R → gm_H → Prop} {a1 : Value}  : gm_W E d 27 6 [.null, a1] st h Q ↔ gm_W E d 27 7 [.null, a1] (.null :: st) h Q := gw_loc m27 f27_6 rfl rfl
theorem f27_7 : gm_ft 27 7 = some (.getfield 45, 3) := by decide +kernel
theorem r27_7 {E : Nat → Value} {d : Nat} {st : List Value} {h : gm_H} {Q : gm_R → gm_H → Prop} {lv : List Value} {a : Nat} (hk : gm_kd h a = 5) : gm_W E d 27 7 lv (.ref a :: st) h Q ↔ gm_W E d 27 10 lv (gm_fv h a 20 :: st) h Q := gw_rd m27 f27_7 rfl rfl rfl rfl (gs_get k5_45 hk (by decide))
theorem f27_10 : gm_ft 27 10 = some (.aload_n 0, 1) := by decide +kernel
theorem r27_10 {E : Nat → Value} {d : Nat} {st : List Value} {h : gm_H} {Q : gm_R → gm_H → Prop} {a1 : Value} {x : Nat} : gm_W E d 27 10 [.ref x, a1] st h Q ↔ gm_W E d 27 11 [.ref x, a1] (.ref x :: st) h Q := gw_loc m27 f27_10 rfl rfl
theorem r27_10n {E : Nat → Value} {d : Nat} {st : List Value} {h : gm_H} {Q : gm_R → gm_H → Prop} {a1 : Value}  : gm_W E d 27 10 [.null, a1] st h Q ↔ gm_W E d 27 11 [.null, a1] (.null :: st) h Q := gw_loc m27 f27_10 rfl rfl
theorem f27_11 : gm_ft 27 11 = some (.getfield 102, 3) := by decide +kernel
theorem r27_11 {E : Nat → Value} {d : Nat} {st : List Value} {h : gm_H} {Q : gm_R → gm_H → Prop} {lv : List Value} {a : Nat} (hk : gm_kd h a = 5) : gm_W E d 27 11 lv (.ref a :: st) h Q ↔ gm_W E d 27 14 lv (gm_fv h a 43 :: st) h Q := gw_rd m27 f27_11 rfl rfl rfl rfl (gs_get k5_102 hk (by decide))
theorem f27_14 : gm_ft 27 14 = some (.iload_n 1, 1) := by decide +kernel
theorem r27_14 {E : Nat → Value} {d : Nat} {st : List Value} {h : gm_H} {Q : gm_R → gm_H → Prop} {a0 : Value} {x : Int32} : gm_W E d 27 14 [a0, .int x] st h Q ↔ gm_W E d 27 15 [a0, .int x] (.int x :: st) h Q := gw_loc m27 f27_14 rfl rfl
theorem f27_15 : gm_ft 27 15 = some (.iaload, 1) := by decide +kernel
theorem r27_15 {E : Nat → Value} {d : Nat} {st : List Value} {h : gm_H} {Q : gm_R → gm_H → Prop} {lv : List Value} {a j : Nat} (hk : gm_kd h a % 100 = 0 ∧ 100 ≤ gm_kd h a ∧ gm_kd h a < 900) (hj : j < gm_ln h a) (hl : gm_ln h a < 2 ^ 31) : gm_W E d 27 15 lv (.int (nI j) :: .ref a :: st) h Q ↔ gm_W E d 27 16 lv (gm_fv h a j :: st) h Q := gw_rd m27 f27_15 rfl rfl rfl rfl (gs_ld (P := fun t => t == 0) hk.2 (by have := hk.1; simp [this] <;> omega) hj hl)
theorem f27_16 : gm_ft 27 16 = some (.iaload, 1) := by decide +kernel
theorem r27_16 {E : Nat → Value} {d : Nat} {st : List Value} {h : gm_H} {Q : gm_R → gm_H → Prop} {lv : List Value} {a j : Nat} (hk : gm_kd h a % 100 = 0 ∧ 100 ≤ gm_kd h a ∧ gm_kd h a < 900) (hj : j < gm_ln h a) (hl : gm_ln h a < 2 ^ 31) : gm_W E d 27 16 lv (.int (nI j) :: .ref a :: st) h Q ↔ gm_W E d 27 17 lv (gm_fv h a j :: st) h Q := gw_rd m27 f27_16 rfl rfl rfl rfl (gs_ld (P := fun t => t == 0) hk.2 (by have := hk.1; simp [this] <;> omega) hj hl)
theorem f27_17 : gm_ft 27 17 = some (.if_icmp .ne 16, 3) := by decide +kernel
theorem r27_17 {E : Nat → Value} {d : Nat} {st : List Value} {h : gm_H} {Q : gm_R → gm_H → Prop} {lv : List Value} {x y : Int32} : gm_W E d 27 17 lv (.int y :: .int x :: st) h Q ↔ (if x = y then gm_W E d 27 20 lv st h Q else gm_W E d 27 33 lv st h Q) := (gw_br m27 f27_17 rfl rfl rfl rfl).trans gw_ifn
theorem f27_20 : gm_ft 27 20 = some (.aload_n 0, 1) := by decide +kernel
theorem r27_20 {E : Nat → Value} {d : Nat} {st : List Value} {h : gm_H} {Q : gm_R → gm_H → Prop} {a1 : Value} {x : Nat} : gm_W E d 27 20 [.ref x, a1] st h Q ↔ gm_W E d 27 21 [.ref x, a1] (.ref x :: st) h Q := gw_loc m27 f27_20 rfl rfl
theorem r27_20n {E : Nat → Value} {d : Nat} {st : List Value} {h : gm_H} {Q : gm_R → gm_H → Prop} {a1 : Value}  : gm_W E d 27 20 [.null, a1] st h Q ↔ gm_W E d 27 21 [.null, a1] (.null :: st) h Q := gw_loc m27 f27_20 rfl rfl
theorem f27_21 : gm_ft 27 21 = some (.aload_n 0, 1) := by decide +kernel
theorem r27_21 {E : Nat → Value} {d : Nat} {st : List Value} {h : gm_H} {Q : gm_R → gm_H → Prop} {a1 : Value} {x : Nat} : gm_W E d 27 21 [.ref x, a1] st h Q ↔ gm_W E d 27 22 [.ref x, a1] (.ref x :: st) h Q := gw_loc m27 f27_21 rfl rfl
theorem r27_21n {E : Nat → Value} {d : Nat} {st : List Value} {h : gm_H} {Q : gm_R → gm_H → Prop} {a1 : Value}  : gm_W E d 27 21 [.null, a1] st h Q ↔ gm_W E d 27 22 [.null, a1] (.null :: st) h Q := gw_loc m27 f27_21 rfl rfl
theorem f27_22 : gm_ft 27 22 = some (.getfield 102, 3) := by decide +kernel
theorem r27_22 {E : Nat → Value} {d : Nat} {st : List Value} {h : gm_H} {Q : gm_R → gm_H → Prop} {lv : List Value} {a : Nat} (hk : gm_kd h a = 5) : gm_W E d 27 22 lv (.ref a :: st) h Q ↔ gm_W E d 27 25 lv (gm_fv h a 43 :: st) h Q := gw_rd m27 f27_22 rfl rfl rfl rfl (gs_get k5_102 hk (by decide))
theorem f27_25 : gm_ft 27 25 = some (.iload_n 1, 1) := by decide +kernel
theorem r27_25 {E : Nat → Value} {d : Nat} {st : List Value} {h : gm_H} {Q : gm_R → gm_H → Prop} {a0 : Value} {x : Int32} : gm_W E d 27 25 [a0, .int x] st h Q ↔ gm_W E d 27 26 [a0, .int x] (.int x :: st) h Q := gw_loc m27 f27_25 rfl rfl
theorem f27_26 : gm_ft 27 26 = some (.iaload, 1) := by decide +kernel
theorem r27_26 {E : Nat → Value} {d : Nat} {st : List Value} {h : gm_H} {Q : gm_R → gm_H → Prop} {lv : List Value} {a j : Nat} (hk : gm_kd h a % 100 = 0 ∧ 100 ≤ gm_kd h a ∧ gm_kd h a < 900) (hj : j < gm_ln h a) (hl : gm_ln h a < 2 ^ 31) : gm_W E d 27 26 lv (.int (nI j) :: .ref a :: st) h Q ↔ gm_W E d 27 27 lv (gm_fv h a j :: st) h Q := gw_rd m27 f27_26 rfl rfl rfl rfl (gs_ld (P := fun t => t == 0) hk.2 (by have := hk.1; simp [this] <;> omega) hj hl)
theorem f27_27 : gm_ft 27 27 = some (.invokevirtual 182, 3) := by decide +kernel
theorem c27_27 {E : Nat → Value} {d : Nat} {st : List Value} {h : gm_H} {Q : gm_R → gm_H → Prop} {lv : List Value} {b0 : Int32} {a : Nat} {Qc : gm_R → gm_H → Prop} (hs : (st.map fun v => v.category).sum ≤ 8) (hr : gm_kd h a = 5) (hd : 1 ≤ d) (hc : gm_Ca E (d - 1) 16 [.ref a, .int b0] h Qc) (kn : ∀ (v9 : Option Value) (h9 : gm_H), Qc (.inl v9) h9 → gm_W E d 27 30 lv (v9.toList ++ st) h9 Q) (kx : ∀ (x9 : Nat) (h9 : gm_H), Qc (.inr x9) h9 → Q (.inr x9) h9) : gm_W E d 27 27 lv (.int b0 :: .ref a :: st) h Q := gw_call (gn_call m27 f27_27 rfl rfl rfl rfl rfl rfl rfl (gs_virt (bs := [.int b0]) (w := 872) (L := 2) rfl rfl rfl rfl hs (by simp [gm_en1]) hr (by decide)) (by decide)) m27 rfl rfl hd hc kn kx
theorem f27_30 : gm_ft 27 30 = some (.goto 18, 3) := by decide +kernel
theorem r27_30 {E : Nat → Value} {d : Nat} {st : List Value} {h : gm_H} {Q : gm_R → gm_H → Prop} {lv : List Value} : gm_W E d 27 30 lv st h Q ↔ gm_W E d 27 48 lv st h Q := gw_brT m27 f27_30 rfl rfl rfl rfl
theorem f27_33 : gm_ft 27 33 = some (.aload_n 0, 1) := by decide +kernel
theorem r27_33 {E : Nat → Value} {d : Nat} {st : List Value} {h : gm_H} {Q : gm_R → gm_H → Prop} {a1 : Value} {x : Nat} : gm_W E d 27 33 [.ref x, a1] st h Q ↔ gm_W E d 27 34 [.ref x, a1] (.ref x :: st) h Q := gw_loc m27 f27_33 rfl rfl
theorem r27_33n {E : Nat → Value} {d : Nat} {st : List Value} {h : gm_H} {Q : gm_R → gm_H → Prop} {a1 : Value}  : gm_W E d 27 33 [.null, a1] st h Q ↔ gm_W E d 27 34 [.null, a1] (.null :: st) h Q := gw_loc m27 f27_33 rfl rfl
theorem f27_34 : gm_ft 27 34 = some (.iconst 1, 1) := by decide +kernel
theorem r27_34 {E : Nat → Value} {d : Nat} {st : List Value} {h : gm_H} {Q : gm_R → gm_H → Prop} {lv : List Value} : gm_W E d 27 34 lv st h Q ↔ gm_W E d 27 35 lv (.int (1 : Int32) :: st) h Q := gw_pure m27 f27_34 rfl
theorem f27_35 : gm_ft 27 35 = some (.aload_n 0, 1) := by decide +kernel
theorem r27_35 {E : Nat → Value} {d : Nat} {st : List Value} {h : gm_H} {Q : gm_R → gm_H → Prop} {a1 : Value} {x : Nat} : gm_W E d 27 35 [.ref x, a1] st h Q ↔ gm_W E d 27 36 [.ref x, a1] (.ref x :: st) h Q := gw_loc m27 f27_35 rfl rfl
theorem r27_35n {E : Nat → Value} {d : Nat} {st : List Value} {h : gm_H} {Q : gm_R → gm_H → Prop} {a1 : Value}  : gm_W E d 27 35 [.null, a1] st h Q ↔ gm_W E d 27 36 [.null, a1] (.null :: st) h Q := gw_loc m27 f27_35 rfl rfl
theorem f27_36 : gm_ft 27 36 = some (.getfield 99, 3) := by decide +kernel
theorem r27_36 {E : Nat → Value} {d : Nat} {st : List Value} {h : gm_H} {Q : gm_R → gm_H → Prop} {lv : List Value} {a : Nat} (hk : gm_kd h a = 5) : gm_W E d 27 36 lv (.ref a :: st) h Q ↔ gm_W E d 27 39 lv (gm_fv h a 42 :: st) h Q := gw_rd m27 f27_36 rfl rfl rfl rfl (gs_get k5_99 hk (by decide))
theorem f27_39 : gm_ft 27 39 = some (.iload_n 1, 1) := by decide +kernel
theorem r27_39 {E : Nat → Value} {d : Nat} {st : List Value} {h : gm_H} {Q : gm_R → gm_H → Prop} {a0 : Value} {x : Int32} : gm_W E d 27 39 [a0, .int x] st h Q ↔ gm_W E d 27 40 [a0, .int x] (.int x :: st) h Q := gw_loc m27 f27_39 rfl rfl
theorem f27_40 : gm_ft 27 40 = some (.iaload, 1) := by decide +kernel
theorem r27_40 {E : Nat → Value} {d : Nat} {st : List Value} {h : gm_H} {Q : gm_R → gm_H → Prop} {lv : List Value} {a j : Nat} (hk : gm_kd h a % 100 = 0 ∧ 100 ≤ gm_kd h a ∧ gm_kd h a < 900) (hj : j < gm_ln h a) (hl : gm_ln h a < 2 ^ 31) : gm_W E d 27 40 lv (.int (nI j) :: .ref a :: st) h Q ↔ gm_W E d 27 41 lv (gm_fv h a j :: st) h Q := gw_rd m27 f27_40 rfl rfl rfl rfl (gs_ld (P := fun t => t == 0) hk.2 (by have := hk.1; simp [this] <;> omega) hj hl)
theorem f27_41 : gm_ft 27 41 = some (.iconst 1, 1) := by decide +kernel
theorem r27_41 {E : Nat → Value} {d : Nat} {st : List Value} {h : gm_H} {Q : gm_R → gm_H → Prop} {lv : List Value} : gm_W E d 27 41 lv st h Q ↔ gm_W E d 27 42 lv (.int (1 : Int32) :: st) h Q := gw_pure m27 f27_41 rfl
theorem f27_42 : gm_ft 27 42 = some (.iadd, 1) := by decide +kernel
theorem r27_42 {E : Nat → Value} {d : Nat} {st : List Value} {h : gm_H} {Q : gm_R → gm_H → Prop} {lv : List Value} {x y : Int32} : gm_W E d 27 42 lv (.int y :: .int x :: st) h Q ↔ gm_W E d 27 43 lv (.int (x + y) :: st) h Q := gw_pure m27 f27_42 rfl
theorem f27_43 : gm_ft 27 43 = some (.iconst 0, 1) := by decide +kernel
theorem r27_43 {E : Nat → Value} {d : Nat} {st : List Value} {h : gm_H} {Q : gm_R → gm_H → Prop} {lv : List Value} : gm_W E d 27 43 lv st h Q ↔ gm_W E d 27 44 lv (.int (0 : Int32) :: st) h Q := gw_pure m27 f27_43 rfl
theorem f27_44 : gm_ft 27 44 = some (.iconst 0, 1) := by decide +kernel
theorem r27_44 {E : Nat → Value} {d : Nat} {st : List Value} {h : gm_H} {Q : gm_R → gm_H → Prop} {lv : List Value} : gm_W E d 27 44 lv st h Q ↔ gm_W E d 27 45 lv (.int (0 : Int32) :: st) h Q := gw_pure m27 f27_44 rfl
theorem f27_45 : gm_ft 27 45 = some (.invokevirtual 200, 3) := by decide +kernel
theorem c27_45 {E : Nat → Value} {d : Nat} {st : List Value} {h : gm_H} {Q : gm_R → gm_H → Prop} {lv : List Value} {b0 : Int32} {b1 : Int32} {b2 : Int32} {b3 : Int32} {a : Nat} {Qc : gm_R → gm_H → Prop} (hs : (st.map fun v => v.category).sum ≤ 8) (hr : gm_kd h a = 5) (hd : 1 ≤ d) (hc : gm_Ca E (d - 1) 15 [.ref a, .int b0, .int b1, .int b2, .int b3] h Qc) (kn : ∀ (v9 : Option Value) (h9 : gm_H), Qc (.inl v9) h9 → gm_W E d 27 48 lv (v9.toList ++ st) h9 Q) (kx : ∀ (x9 : Nat) (h9 : gm_H), Qc (.inr x9) h9 → Q (.inr x9) h9) : gm_W E d 27 45 lv (.int b3 :: .int b2 :: .int b1 :: .int b0 :: .ref a :: st) h Q := gw_call (gn_call m27 f27_45 rfl rfl rfl rfl rfl rfl rfl (gs_virt (bs := [.int b3, .int b2, .int b1, .int b0]) (w := 856) (L := 5) rfl rfl rfl rfl hs (by simp [gm_en1]) hr (by decide)) (by decide)) m27 rfl rfl hd hc kn kx
theorem f27_48 : gm_ft 27 48 = some (.return_, 1) := by decide +kernel
theorem r27_48 {E : Nat → Value} {d : Nat} {h : gm_H} {Q : gm_R → gm_H → Prop} {lv : List Value} : gm_W E d 27 48 lv [] h Q ↔ Q (.inl none) h := gw_ret m27 f27_48 rfl rfl rfl rfl rfl rfl rfl rfl rfl
/-! GraphReaderModel.newConstant(I)V -/
theorem m28 : gm_mt[28]? = some (⟨"GraphReaderModel", "newConstant", "(I)V"⟩, prog_7_method_27_code, 3, none, [], 5, 2) := rfl
theorem f28_0 : gm_ft 28 0 = some (.aload_n 0, 1) := by decide +kernel
theorem r28_0 {E : Nat → Value} {d : Nat} {st : List Value} {h : gm_H} {Q : gm_R → gm_H → Prop} {a1 a2 : Value} {x : Nat} : gm_W E d 28 0 [.ref x, a1, a2] st h Q ↔ gm_W E d 28 1 [.ref x, a1, a2] (.ref x :: st) h Q := gw_loc m28 f28_0 rfl rfl
theorem r28_0n {E : Nat → Value} {d : Nat} {st : List Value} {h : gm_H} {Q : gm_R → gm_H → Prop} {a1 a2 : Value}  : gm_W E d 28 0 [.null, a1, a2] st h Q ↔ gm_W E d 28 1 [.null, a1, a2] (.null :: st) h Q := gw_loc m28 f28_0 rfl rfl
theorem f28_1 : gm_ft 28 1 = some (.getfield 178, 3) := by decide +kernel
theorem r28_1 {E : Nat → Value} {d : Nat} {st : List Value} {h : gm_H} {Q : gm_R → gm_H → Prop} {lv : List Value} {a : Nat} (hk : gm_kd h a = 5) : gm_W E d 28 1 lv (.ref a :: st) h Q ↔ gm_W E d 28 4 lv (gm_fv h a 9 :: st) h Q := gw_rd m28 f28_1 rfl rfl rfl rfl (gs_get k5_178 hk (by decide))
theorem f28_4 : gm_ft 28 4 = some (.istore_n 2, 1) := by decide +kernel
theorem r28_4 {E : Nat → Value} {d : Nat} {st : List Value} {h : gm_H} {Q : gm_R → gm_H → Prop} {a0 a1 a2 : Value} {x : Int32} : gm_W E d 28 4 [a0, a1, a2] (.int x :: st) h Q ↔ gm_W E d 28 5 [a0, gm_k a1, .int x] st h Q := gw_loc m28 f28_4 rfl rfl
theorem f28_5 : gm_ft 28 5 = some (.iload_n 2, 1) := by decide +kernel
theorem r28_5 {E : Nat → Value} {d : Nat} {st : List Value} {h : gm_H} {Q : gm_R → gm_H → Prop} {a0 a1 : Value} {x : Int32} : gm_W E d 28 5 [a0, a1, .int x] st h Q ↔ gm_W E d 28 6 [a0, a1, .int x] (.int x :: st) h Q := gw_loc m28 f28_5 rfl rfl
theorem f28_6 : gm_ft 28 6 = some (.bipush (-2), 2) := by decide +kernel
theorem r28_6 {E : Nat → Value} {d : Nat} {st : List Value} {h : gm_H} {Q : gm_R → gm_H → Prop} {lv : List Value} : gm_W E d 28 6 lv st h Q ↔ gm_W E d 28 8 lv (.int (-2 : Int32) :: st) h Q := gw_pure m28 f28_6 rfl
theorem f28_8 : gm_ft 28 8 = some (.if_icmp .ne 9, 3) := by decide +kernel
theorem r28_8 {E : Nat → Value} {d : Nat} {st : List Value} {h : gm_H} {Q : gm_R → gm_H → Prop} {lv : List Value} {x y : Int32} : gm_W E d 28 8 lv (.int y :: .int x :: st) h Q ↔ (if x = y then gm_W E d 28 11 lv st h Q else gm_W E d 28 17 lv st h Q) := (gw_br m28 f28_8 rfl rfl rfl rfl).trans gw_ifn
theorem f28_11 : gm_ft 28 11 = some (.aload_n 0, 1) := by decide +kernel
theorem r28_11 {E : Nat → Value} {d : Nat} {st : List Value} {h : gm_H} {Q : gm_R → gm_H → Prop} {a1 a2 : Value} {x : Nat} : gm_W E d 28 11 [.ref x, a1, a2] st h Q ↔ gm_W E d 28 12 [.ref x, a1, a2] (.ref x :: st) h Q := gw_loc m28 f28_11 rfl rfl
theorem r28_11n {E : Nat → Value} {d : Nat} {st : List Value} {h : gm_H} {Q : gm_R → gm_H → Prop} {a1 a2 : Value}  : gm_W E d 28 11 [.null, a1, a2] st h Q ↔ gm_W E d 28 12 [.null, a1, a2] (.null :: st) h Q := gw_loc m28 f28_11 rfl rfl
theorem f28_12 : gm_ft 28 12 = some (.bipush (-4), 2) := by decide +kernel
theorem r28_12 {E : Nat → Value} {d : Nat} {st : List Value} {h : gm_H} {Q : gm_R → gm_H → Prop} {lv : List Value} : gm_W E d 28 12 lv st h Q ↔ gm_W E d 28 14 lv (.int (-4 : Int32) :: st) h Q := gw_pure m28 f28_12 rfl
theorem f28_14 : gm_ft 28 14 = some (.invokevirtual 151, 3) := by decide +kernel
theorem c28_14 {E : Nat → Value} {d : Nat} {st : List Value} {h : gm_H} {Q : gm_R → gm_H → Prop} {lv : List Value} {b0 : Int32} {a : Nat} {Qc : gm_R → gm_H → Prop} (hs : (st.map fun v => v.category).sum ≤ 8) (hr : gm_kd h a = 5) (hd : 1 ≤ d) (hc : gm_Ca E (d - 1) 10 [.ref a, .int b0] h Qc) (kn : ∀ (v9 : Option Value) (h9 : gm_H), Qc (.inl v9) h9 → gm_W E d 28 17 lv (v9.toList ++ st) h9 Q) (kx : ∀ (x9 : Nat) (h9 : gm_H), Qc (.inr x9) h9 → Q (.inr x9) h9) : gm_W E d 28 14 lv (.int b0 :: .ref a :: st) h Q := gw_call (gn_call m28 f28_14 rfl rfl rfl rfl rfl rfl rfl (gs_virt (bs := [.int b0]) (w := 844) (L := 2) rfl rfl rfl rfl hs (by simp [gm_en1]) hr (by decide)) (by decide)) m28 rfl rfl hd hc kn kx
theorem f28_17 : gm_ft 28 17 = some (.aload_n 0, 1) := by decide +kernel
theorem r28_17 {E : Nat → Value} {d : Nat} {st : List Value} {h : gm_H} {Q : gm_R → gm_H → Prop} {a1 a2 : Value} {x : Nat} : gm_W E d 28 17 [.ref x, a1, a2] st h Q ↔ gm_W E d 28 18 [.ref x, a1, a2] (.ref x :: st) h Q := gw_loc m28 f28_17 rfl rfl
theorem r28_17n {E : Nat → Value} {d : Nat} {st : List Value} {h : gm_H} {Q : gm_R → gm_H → Prop} {a1 a2 : Value}  : gm_W E d 28 17 [.null, a1, a2] st h Q ↔ gm_W E d 28 18 [.null, a1, a2] (.null :: st) h Q := gw_loc m28 f28_17 rfl rfl
theorem f28_18 : gm_ft 28 18 = some (.getfield 145, 3) := by decide +kernel
theorem r28_18 {E : Nat → Value} {d : Nat} {st : List Value} {h : gm_H} {Q : gm_R → gm_H → Prop} {lv : List Value} {a : Nat} (hk : gm_kd h a = 5) : gm_W E d 28 18 lv (.ref a :: st) h Q ↔ gm_W E d 28 21 lv (gm_fv h a 8 :: st) h Q := gw_rd m28 f28_18 rfl rfl rfl rfl (gs_get k5_145 hk (by decide))
theorem f28_21 : gm_ft 28 21 = some (.ifCond .ne 18, 3) := by decide +kernel
theorem r28_21 {E : Nat → Value} {d : Nat} {st : List Value} {h : gm_H} {Q : gm_R → gm_H → Prop} {lv : List Value} {x : Int32} : gm_W E d 28 21 lv (.int x :: st) h Q ↔ (if x = 0 then gm_W E d 28 24 lv st h Q else gm_W E d 28 39 lv st h Q) := (gw_br m28 f28_21 rfl rfl rfl rfl).trans gw_ifn
theorem f28_24 : gm_ft 28 24 = some (.aload_n 0, 1) := by decide +kernel
theorem r28_24 {E : Nat → Value} {d : Nat} {st : List Value} {h : gm_H} {Q : gm_R → gm_H → Prop} {a1 a2 : Value} {x : Nat} : gm_W E d 28 24 [.ref x, a1, a2] st h Q ↔ gm_W E d 28 25 [.ref x, a1, a2] (.ref x :: st) h Q := gw_loc m28 f28_24 rfl rfl
theorem r28_24n {E : Nat → Value} {d : Nat} {st : List Value} {h : gm_H} {Q : gm_R → gm_H → Prop} {a1 a2 : Value}  : gm_W E d 28 24 [.null, a1, a2] st h Q ↔ gm_W E d 28 25 [.null, a1, a2] (.null :: st) h Q := gw_loc m28 f28_24 rfl rfl
theorem f28_25 : gm_ft 28 25 = some (.aload_n 0, 1) := by decide +kernel
theorem r28_25 {E : Nat → Value} {d : Nat} {st : List Value} {h : gm_H} {Q : gm_R → gm_H → Prop} {a1 a2 : Value} {x : Nat} : gm_W E d 28 25 [.ref x, a1, a2] st h Q ↔ gm_W E d 28 26 [.ref x, a1, a2] (.ref x :: st) h Q := gw_loc m28 f28_25 rfl rfl
theorem r28_25n {E : Nat → Value} {d : Nat} {st : List Value} {h : gm_H} {Q : gm_R → gm_H → Prop} {a1 a2 : Value}  : gm_W E d 28 25 [.null, a1, a2] st h Q ↔ gm_W E d 28 26 [.null, a1, a2] (.null :: st) h Q := gw_loc m28 f28_25 rfl rfl
theorem f28_26 : gm_ft 28 26 = some (.getfield 99, 3) := by decide +kernel
theorem r28_26 {E : Nat → Value} {d : Nat} {st : List Value} {h : gm_H} {Q : gm_R → gm_H → Prop} {lv : List Value} {a : Nat} (hk : gm_kd h a = 5) : gm_W E d 28 26 lv (.ref a :: st) h Q ↔ gm_W E d 28 29 lv (gm_fv h a 42 :: st) h Q := gw_rd m28 f28_26 rfl rfl rfl rfl (gs_get k5_99 hk (by decide))
theorem f28_29 : gm_ft 28 29 = some (.iload_n 1, 1) := by decide +kernel
theorem r28_29 {E : Nat → Value} {d : Nat} {st : List Value} {h : gm_H} {Q : gm_R → gm_H → Prop} {a0 a2 : Value} {x : Int32} : gm_W E d 28 29 [a0, .int x, a2] st h Q ↔ gm_W E d 28 30 [a0, .int x, a2] (.int x :: st) h Q := gw_loc m28 f28_29 rfl rfl
theorem f28_30 : gm_ft 28 30 = some (.iaload, 1) := by decide +kernel
theorem r28_30 {E : Nat → Value} {d : Nat} {st : List Value} {h : gm_H} {Q : gm_R → gm_H → Prop} {lv : List Value} {a j : Nat} (hk : gm_kd h a % 100 = 0 ∧ 100 ≤ gm_kd h a ∧ gm_kd h a < 900) (hj : j < gm_ln h a) (hl : gm_ln h a < 2 ^ 31) : gm_W E d 28 30 lv (.int (nI j) :: .ref a :: st) h Q ↔ gm_W E d 28 31 lv (gm_fv h a j :: st) h Q := gw_rd m28 f28_30 rfl rfl rfl rfl (gs_ld (P := fun t => t == 0) hk.2 (by have := hk.1; simp [this] <;> omega) hj hl)
theorem f28_31 : gm_ft 28 31 = some (.iconst 0, 1) := by decide +kernel
theorem r28_31 {E : Nat → Value} {d : Nat} {st : List Value} {h : gm_H} {Q : gm_R → gm_H → Prop} {lv : List Value} : gm_W E d 28 31 lv st h Q ↔ gm_W E d 28 32 lv (.int (0 : Int32) :: st) h Q := gw_pure m28 f28_31 rfl
theorem f28_32 : gm_ft 28 32 = some (.iload_n 2, 1) := by decide +kernel
theorem r28_32 {E : Nat → Value} {d : Nat} {st : List Value} {h : gm_H} {Q : gm_R → gm_H → Prop} {a0 a1 : Value} {x : Int32} : gm_W E d 28 32 [a0, a1, .int x] st h Q ↔ gm_W E d 28 33 [a0, a1, .int x] (.int x :: st) h Q := gw_loc m28 f28_32 rfl rfl
theorem f28_33 : gm_ft 28 33 = some (.invokevirtual 204, 3) := by decide +kernel
theorem c28_33 {E : Nat → Value} {d : Nat} {st : List Value} {h : gm_H} {Q : gm_R → gm_H → Prop} {lv : List Value} {b0 : Int32} {b1 : Int32} {b2 : Int32} {a : Nat} {Qc : gm_R → gm_H → Prop} (hs : (st.map fun v => v.category).sum ≤ 8) (hr : gm_kd h a = 5) (hd : 1 ≤ d) (hc : gm_Ca E (d - 1) 19 [.ref a, .int b0, .int b1, .int b2] h Qc) (kn : ∀ (v9 : Option Value) (h9 : gm_H), Qc (.inl v9) h9 → gm_W E d 28 36 lv (v9.toList ++ st) h9 Q) (kx : ∀ (x9 : Nat) (h9 : gm_H), Qc (.inr x9) h9 → Q (.inr x9) h9) : gm_W E d 28 33 lv (.int b2 :: .int b1 :: .int b0 :: .ref a :: st) h Q := gw_call (gn_call m28 f28_33 rfl rfl rfl rfl rfl rfl rfl (gs_virt (bs := [.int b2, .int b1, .int b0]) (w := 901) (L := 5) rfl rfl rfl rfl hs (by simp [gm_en1]) hr (by decide)) (by decide)) m28 rfl rfl hd hc kn kx
theorem f28_36 : gm_ft 28 36 = some (.ifCond .ne 4, 3) := by decide +kernel
theorem r28_36 {E : Nat → Value} {d : Nat} {st : List Value} {h : gm_H} {Q : gm_R → gm_H → Prop} {lv : List Value} {x : Int32} : gm_W E d 28 36 lv (.int x :: st) h Q ↔ (if x = 0 then gm_W E d 28 39 lv st h Q else gm_W E d 28 40 lv st h Q) := (gw_br m28 f28_36 rfl rfl rfl rfl).trans gw_ifn
theorem f28_39 : gm_ft 28 39 = some (.return_, 1) := by decide +kernel
theorem r28_39 {E : Nat → Value} {d : Nat} {h : gm_H} {Q : gm_R → gm_H → Prop} {lv : List Value} : gm_W E d 28 39 lv [] h Q ↔ Q (.inl none) h := gw_ret m28 f28_39 rfl rfl rfl rfl rfl rfl rfl rfl rfl
theorem f28_40 : gm_ft 28 40 = some (.aload_n 0, 1) := by decide +kernel
theorem r28_40 {E : Nat → Value} {d : Nat} {st : List Value} {h : gm_H} {Q : gm_R → gm_H → Prop} {a1 a2 : Value} {x : Nat} : gm_W E d 28 40 [.ref x, a1, a2] st h Q ↔ gm_W E d 28 41 [.ref x, a1, a2] (.ref x :: st) h Q := gw_loc m28 f28_40 rfl rfl
theorem r28_40n {E : Nat → Value} {d : Nat} {st : List Value} {h : gm_H} {Q : gm_R → gm_H → Prop} {a1 a2 : Value}  : gm_W E d 28 40 [.null, a1, a2] st h Q ↔ gm_W E d 28 41 [.null, a1, a2] (.null :: st) h Q := gw_loc m28 f28_40 rfl rfl
theorem f28_41 : gm_ft 28 41 = some (.getfield 75, 3) := by decide +kernel
theorem r28_41 {E : Nat → Value} {d : Nat} {st : List Value} {h : gm_H} {Q : gm_R → gm_H → Prop} {lv : List Value} {a : Nat} (hk : gm_kd h a = 5) : gm_W E d 28 41 lv (.ref a :: st) h Q ↔ gm_W E d 28 44 lv (gm_fv h a 33 :: st) h Q := gw_rd m28 f28_41 rfl rfl rfl rfl (gs_get k5_75 hk (by decide))
theorem f28_44 : gm_ft 28 44 = some (.iload_n 2, 1) := by decide +kernel
theorem r28_44 {E : Nat → Value} {d : Nat} {st : List Value} {h : gm_H} {Q : gm_R → gm_H → Prop} {a0 a1 : Value} {x : Int32} : gm_W E d 28 44 [a0, a1, .int x] st h Q ↔ gm_W E d 28 45 [a0, a1, .int x] (.int x :: st) h Q := gw_loc m28 f28_44 rfl rfl
theorem f28_45 : gm_ft 28 45 = some (.iaload, 1) := by decide +kernel
theorem r28_45 {E : Nat → Value} {d : Nat} {st : List Value} {h : gm_H} {Q : gm_R → gm_H → Prop} {lv : List Value} {a j : Nat} (hk : gm_kd h a % 100 = 0 ∧ 100 ≤ gm_kd h a ∧ gm_kd h a < 900) (hj : j < gm_ln h a) (hl : gm_ln h a < 2 ^ 31) : gm_W E d 28 45 lv (.int (nI j) :: .ref a :: st) h Q ↔ gm_W E d 28 46 lv (gm_fv h a j :: st) h Q := gw_rd m28 f28_45 rfl rfl rfl rfl (gs_ld (P := fun t => t == 0) hk.2 (by have := hk.1; simp [this] <;> omega) hj hl)
theorem f28_46 : gm_ft 28 46 = some (.bipush 16, 2) := by decide +kernel
theorem r28_46 {E : Nat → Value} {d : Nat} {st : List Value} {h : gm_H} {Q : gm_R → gm_H → Prop} {lv : List Value} : gm_W E d 28 46 lv st h Q ↔ gm_W E d 28 48 lv (.int (16 : Int32) :: st) h Q := gw_pure m28 f28_46 rfl
theorem f28_48 : gm_ft 28 48 = some (.iand, 1) := by decide +kernel
theorem r28_48 {E : Nat → Value} {d : Nat} {st : List Value} {h : gm_H} {Q : gm_R → gm_H → Prop} {lv : List Value} {x y : Int32} : gm_W E d 28 48 lv (.int y :: .int x :: st) h Q ↔ gm_W E d 28 49 lv (.int (x &&& y) :: st) h Q := gw_pure m28 f28_48 rfl
theorem f28_49 : gm_ft 28 49 = some (.ifCond .ne 12, 3) := by decide +kernel
theorem r28_49 {E : Nat → Value} {d : Nat} {st : List Value} {h : gm_H} {Q : gm_R → gm_H → Prop} {lv : List Value} {x : Int32} : gm_W E d 28 49 lv (.int x :: st) h Q ↔ (if x = 0 then gm_W E d 28 52 lv st h Q else gm_W E d 28 61 lv st h Q) := (gw_br m28 f28_49 rfl rfl rfl rfl).trans gw_ifn
theorem f28_52 : gm_ft 28 52 = some (.aload_n 0, 1) := by decide +kernel
theorem r28_52 {E : Nat → Value} {d : Nat} {st : List Value} {h : gm_H} {Q : gm_R → gm_H → Prop} {a1 a2 : Value} {x : Nat} : gm_W E d 28 52 [.ref x, a1, a2] st h Q ↔ gm_W E d 28 53 [.ref x, a1, a2] (.ref x :: st) h Q := gw_loc m28 f28_52 rfl rfl
theorem r28_52n {E : Nat → Value} {d : Nat} {st : List Value} {h : gm_H} {Q : gm_R → gm_H → Prop} {a1 a2 : Value}  : gm_W E d 28 52 [.null, a1, a2] st h Q ↔ gm_W E d 28 53 [.null, a1, a2] (.null :: st) h Q := gw_loc m28 f28_52 rfl rfl
theorem f28_53 : gm_ft 28 53 = some (.bipush (-5), 2) := by decide +kernel
theorem r28_53 {E : Nat → Value} {d : Nat} {st : List Value} {h : gm_H} {Q : gm_R → gm_H → Prop} {lv : List Value} : gm_W E d 28 53 lv st h Q ↔ gm_W E d 28 55 lv (.int (-5 : Int32) :: st) h Q := gw_pure m28 f28_53 rfl
theorem f28_55 : gm_ft 28 55 = some (.invokevirtual 151, 3) := by decide +kernel
theorem c28_55 {E : Nat → Value} {d : Nat} {st : List Value} {h : gm_H} {Q : gm_R → gm_H → Prop} {lv : List Value} {b0 : Int32} {a : Nat} {Qc : gm_R → gm_H → Prop} (hs : (st.map fun v => v.category).sum ≤ 8) (hr : gm_kd h a = 5) (hd : 1 ≤ d) (hc : gm_Ca E (d - 1) 10 [.ref a, .int b0] h Qc) (kn : ∀ (v9 : Option Value) (h9 : gm_H), Qc (.inl v9) h9 → gm_W E d 28 58 lv (v9.toList ++ st) h9 Q) (kx : ∀ (x9 : Nat) (h9 : gm_H), Qc (.inr x9) h9 → Q (.inr x9) h9) : gm_W E d 28 55 lv (.int b0 :: .ref a :: st) h Q := gw_call (gn_call m28 f28_55 rfl rfl rfl rfl rfl rfl rfl (gs_virt (bs := [.int b0]) (w := 844) (L := 2) rfl rfl rfl rfl hs (by simp [gm_en1]) hr (by decide)) (by decide)) m28 rfl rfl hd hc kn kx
theorem f28_58 : gm_ft 28 58 = some (.goto 18, 3) := by decide +kernel
theorem r28_58 {E : Nat → Value} {d : Nat} {st : List Value} {h : gm_H} {Q : gm_R → gm_H → Prop} {lv : List Value} : gm_W E d 28 58 lv st h Q ↔ gm_W E d 28 76 lv st h Q := gw_brT m28 f28_58 rfl rfl rfl rfl
theorem f28_61 : gm_ft 28 61 = some (.aload_n 0, 1) := by decide +kernel
theorem r28_61 {E : Nat → Value} {d : Nat} {st : List Value} {h : gm_H} {Q : gm_R → gm_H → Prop} {a1 a2 : Value} {x : Nat} : gm_W E d 28 61 [.ref x, a1, a2] st h Q ↔ gm_W E d 28 62 [.ref x, a1, a2] (.ref x :: st) h Q := gw_loc m28 f28_61 rfl rfl
theorem r28_61n {E : Nat → Value} {d : Nat} {st : List Value} {h : gm_H} {Q : gm_R → gm_H → Prop} {a1 a2 : Value}  : gm_W E d 28 61 [.null, a1, a2] st h Q ↔ gm_W E d 28 62 [.null, a1, a2] (.null :: st) h Q := gw_loc m28 f28_61 rfl rfl
theorem f28_62 : gm_ft 28 62 = some (.getfield 69, 3) := by decide +kernel
theorem r28_62 {E : Nat → Value} {d : Nat} {st : List Value} {h : gm_H} {Q : gm_R → gm_H → Prop} {lv : List Value} {a : Nat} (hk : gm_kd h a = 5) : gm_W E d 28 62 lv (.ref a :: st) h Q ↔ gm_W E d 28 65 lv (gm_fv h a 31 :: st) h Q := gw_rd m28 f28_62 rfl rfl rfl rfl (gs_get k5_69 hk (by decide))
theorem f28_65 : gm_ft 28 65 = some (.iload_n 2, 1) := by decide +kernel
theorem r28_65 {E : Nat → Value} {d : Nat} {st : List Value} {h : gm_H} {Q : gm_R → gm_H → Prop} {a0 a1 : Value} {x : Int32} : gm_W E d 28 65 [a0, a1, .int x] st h Q ↔ gm_W E d 28 66 [a0, a1, .int x] (.int x :: st) h Q := gw_loc m28 f28_65 rfl rfl
theorem f28_66 : gm_ft 28 66 = some (.iaload, 1) := by decide +kernel
theorem r28_66 {E : Nat → Value} {d : Nat} {st : List Value} {h : gm_H} {Q : gm_R → gm_H → Prop} {lv : List Value} {a j : Nat} (hk : gm_kd h a % 100 = 0 ∧ 100 ≤ gm_kd h a ∧ gm_kd h a < 900) (hj : j < gm_ln h a) (hl : gm_ln h a < 2 ^ 31) : gm_W E d 28 66 lv (.int (nI j) :: .ref a :: st) h Q ↔ gm_W E d 28 67 lv (gm_fv h a j :: st) h Q := gw_rd m28 f28_66 rfl rfl rfl rfl (gs_ld (P := fun t => t == 0) hk.2 (by have := hk.1; simp [this] <;> omega) hj hl)
theorem f28_67 : gm_ft 28 67 = some (.ifCond .ge 9, 3) := by decide +kernel
theorem r28_67 {E : Nat → Value} {d : Nat} {st : List Value} {h : gm_H} {Q : gm_R → gm_H → Prop} {lv : List Value} {x : Int32} : gm_W E d 28 67 lv (.int x :: st) h Q ↔ (if 0 ≤ x then gm_W E d 28 76 lv st h Q else gm_W E d 28 70 lv st h Q) := (gw_br m28 f28_67 rfl rfl rfl rfl).trans gw_if
theorem f28_70 : gm_ft 28 70 = some (.aload_n 0, 1) := by decide +kernel
theorem r28_70 {E : Nat → Value} {d : Nat} {st : List Value} {h : gm_H} {Q : gm_R → gm_H → Prop} {a1 a2 : Value} {x : Nat} : gm_W E d 28 70 [.ref x, a1, a2] st h Q ↔ gm_W E d 28 71 [.ref x, a1, a2] (.ref x :: st) h Q := gw_loc m28 f28_70 rfl rfl
theorem r28_70n {E : Nat → Value} {d : Nat} {st : List Value} {h : gm_H} {Q : gm_R → gm_H → Prop} {a1 a2 : Value}  : gm_W E d 28 70 [.null, a1, a2] st h Q ↔ gm_W E d 28 71 [.null, a1, a2] (.null :: st) h Q := gw_loc m28 f28_70 rfl rfl
theorem f28_71 : gm_ft 28 71 = some (.bipush (-9), 2) := by decide +kernel
theorem r28_71 {E : Nat → Value} {d : Nat} {st : List Value} {h : gm_H} {Q : gm_R → gm_H → Prop} {lv : List Value} : gm_W E d 28 71 lv st h Q ↔ gm_W E d 28 73 lv (.int (-9 : Int32) :: st) h Q := gw_pure m28 f28_71 rfl
theorem f28_73 : gm_ft 28 73 = some (.invokevirtual 151, 3) := by decide +kernel
theorem c28_73 {E : Nat → Value} {d : Nat} {st : List Value} {h : gm_H} {Q : gm_R → gm_H → Prop} {lv : List Value} {b0 : Int32} {a : Nat} {Qc : gm_R → gm_H → Prop} (hs : (st.map fun v => v.category).sum ≤ 8) (hr : gm_kd h a = 5) (hd : 1 ≤ d) (hc : gm_Ca E (d - 1) 10 [.ref a, .int b0] h Qc) (kn : ∀ (v9 : Option Value) (h9 : gm_H), Qc (.inl v9) h9 → gm_W E d 28 76 lv (v9.toList ++ st) h9 Q) (kx : ∀ (x9 : Nat) (h9 : gm_H), Qc (.inr x9) h9 → Q (.inr x9) h9) : gm_W E d 28 73 lv (.int b0 :: .ref a :: st) h Q := gw_call (gn_call m28 f28_73 rfl rfl rfl rfl rfl rfl rfl (gs_virt (bs := [.int b0]) (w := 844) (L := 2) rfl rfl rfl rfl hs (by simp [gm_en1]) hr (by decide)) (by decide)) m28 rfl rfl hd hc kn kx
theorem f28_76 : gm_ft 28 76 = some (.aload_n 0, 1) := by decide +kernel
theorem r28_76 {E : Nat → Value} {d : Nat} {st : List Value} {h : gm_H} {Q : gm_R → gm_H → Prop} {a1 a2 : Value} {x : Nat} : gm_W E d 28 76 [.ref x, a1, a2] st h Q ↔ gm_W E d 28 77 [.ref x, a1, a2] (.ref x :: st) h Q := gw_loc m28 f28_76 rfl rfl
theorem r28_76n {E : Nat → Value} {d : Nat} {st : List Value} {h : gm_H} {Q : gm_R → gm_H → Prop} {a1 a2 : Value}  : gm_W E d 28 76 [.null, a1, a2] st h Q ↔ gm_W E d 28 77 [.null, a1, a2] (.null :: st) h Q := gw_loc m28 f28_76 rfl rfl
theorem f28_77 : gm_ft 28 77 = some (.getfield 145, 3) := by decide +kernel
theorem r28_77 {E : Nat → Value} {d : Nat} {st : List Value} {h : gm_H} {Q : gm_R → gm_H → Prop} {lv : List Value} {a : Nat} (hk : gm_kd h a = 5) : gm_W E d 28 77 lv (.ref a :: st) h Q ↔ gm_W E d 28 80 lv (gm_fv h a 8 :: st) h Q := gw_rd m28 f28_77 rfl rfl rfl rfl (gs_get k5_145 hk (by decide))
theorem f28_80 : gm_ft 28 80 = some (.ifCond .eq 4, 3) := by decide +kernel
theorem r28_80 {E : Nat → Value} {d : Nat} {st : List Value} {h : gm_H} {Q : gm_R → gm_H → Prop} {lv : List Value} {x : Int32} : gm_W E d 28 80 lv (.int x :: st) h Q ↔ (if x = 0 then gm_W E d 28 84 lv st h Q else gm_W E d 28 83 lv st h Q) := (gw_br m28 f28_80 rfl rfl rfl rfl).trans gw_if
theorem f28_83 : gm_ft 28 83 = some (.return_, 1) := by decide +kernel
theorem r28_83 {E : Nat → Value} {d : Nat} {h : gm_H} {Q : gm_R → gm_H → Prop} {lv : List Value} : gm_W E d 28 83 lv [] h Q ↔ Q (.inl none) h := gw_ret m28 f28_83 rfl rfl rfl rfl rfl rfl rfl rfl rfl
theorem f28_84 : gm_ft 28 84 = some (.aload_n 0, 1) := by decide +kernel
theorem r28_84 {E : Nat → Value} {d : Nat} {st : List Value} {h : gm_H} {Q : gm_R → gm_H → Prop} {a1 a2 : Value} {x : Nat} : gm_W E d 28 84 [.ref x, a1, a2] st h Q ↔ gm_W E d 28 85 [.ref x, a1, a2] (.ref x :: st) h Q := gw_loc m28 f28_84 rfl rfl
theorem r28_84n {E : Nat → Value} {d : Nat} {st : List Value} {h : gm_H} {Q : gm_R → gm_H → Prop} {a1 a2 : Value}  : gm_W E d 28 84 [.null, a1, a2] st h Q ↔ gm_W E d 28 85 [.null, a1, a2] (.null :: st) h Q := gw_loc m28 f28_84 rfl rfl
theorem f28_85 : gm_ft 28 85 = some (.getfield 102, 3) := by decide +kernel
theorem r28_85 {E : Nat → Value} {d : Nat} {st : List Value} {h : gm_H} {Q : gm_R → gm_H → Prop} {lv : List Value} {a : Nat} (hk : gm_kd h a = 5) : gm_W E d 28 85 lv (.ref a :: st) h Q ↔ gm_W E d 28 88 lv (gm_fv h a 43 :: st) h Q := gw_rd m28 f28_85 rfl rfl rfl rfl (gs_get k5_102 hk (by decide))
theorem f28_88 : gm_ft 28 88 = some (.iload_n 1, 1) := by decide +kernel
theorem r28_88 {E : Nat → Value} {d : Nat} {st : List Value} {h : gm_H} {Q : gm_R → gm_H → Prop} {a0 a2 : Value} {x : Int32} : gm_W E d 28 88 [a0, .int x, a2] st h Q ↔ gm_W E d 28 89 [a0, .int x, a2] (.int x :: st) h Q := gw_loc m28 f28_88 rfl rfl
theorem f28_89 : gm_ft 28 89 = some (.aload_n 0, 1) := by decide +kernel
theorem r28_89 {E : Nat → Value} {d : Nat} {st : List Value} {h : gm_H} {Q : gm_R → gm_H → Prop} {a1 a2 : Value} {x : Nat} : gm_W E d 28 89 [.ref x, a1, a2] st h Q ↔ gm_W E d 28 90 [.ref x, a1, a2] (.ref x :: st) h Q := gw_loc m28 f28_89 rfl rfl
theorem r28_89n {E : Nat → Value} {d : Nat} {st : List Value} {h : gm_H} {Q : gm_R → gm_H → Prop} {a1 a2 : Value}  : gm_W E d 28 89 [.null, a1, a2] st h Q ↔ gm_W E d 28 90 [.null, a1, a2] (.null :: st) h Q := gw_loc m28 f28_89 rfl rfl
theorem f28_90 : gm_ft 28 90 = some (.iconst 3, 1) := by decide +kernel
theorem r28_90 {E : Nat → Value} {d : Nat} {st : List Value} {h : gm_H} {Q : gm_R → gm_H → Prop} {lv : List Value} : gm_W E d 28 90 lv st h Q ↔ gm_W E d 28 91 lv (.int (3 : Int32) :: st) h Q := gw_pure m28 f28_90 rfl
theorem f28_91 : gm_ft 28 91 = some (.iconst 0, 1) := by decide +kernel
theorem r28_91 {E : Nat → Value} {d : Nat} {st : List Value} {h : gm_H} {Q : gm_R → gm_H → Prop} {lv : List Value} : gm_W E d 28 91 lv st h Q ↔ gm_W E d 28 92 lv (.int (0 : Int32) :: st) h Q := gw_pure m28 f28_91 rfl
theorem f28_92 : gm_ft 28 92 = some (.invokevirtual 189, 3) := by decide +kernel
theorem c28_92 {E : Nat → Value} {d : Nat} {st : List Value} {h : gm_H} {Q : gm_R → gm_H → Prop} {lv : List Value} {b0 : Int32} {b1 : Int32} {a : Nat} {Qc : gm_R → gm_H → Prop} (hs : (st.map fun v => v.category).sum ≤ 8) (hr : gm_kd h a = 5) (hd : 1 ≤ d) (hc : gm_Ca E (d - 1) 17 [.ref a, .int b0, .int b1] h Qc) (kn : ∀ (v9 : Option Value) (h9 : gm_H), Qc (.inl v9) h9 → gm_W E d 28 95 lv (v9.toList ++ st) h9 Q) (kx : ∀ (x9 : Nat) (h9 : gm_H), Qc (.inr x9) h9 → Q (.inr x9) h9) : gm_W E d 28 92 lv (.int b1 :: .int b0 :: .ref a :: st) h Q := gw_call (gn_call m28 f28_92 rfl rfl rfl rfl rfl rfl rfl (gs_virt (bs := [.int b1, .int b0]) (w := 885) (L := 3) rfl rfl rfl rfl hs (by simp [gm_en1]) hr (by decide)) (by decide)) m28 rfl rfl hd hc kn kx
theorem f28_95 : gm_ft 28 95 = some (.iastore, 1) := by decide +kernel
theorem r28_95 {E : Nat → Value} {d : Nat} {st : List Value} {h : gm_H} {Q : gm_R → gm_H → Prop} {lv : List Value} {a j : Nat} {x : Int32} (hk : gm_kd h a = 200) (hj : j < gm_ln h a) (hl : gm_ln h a < 2 ^ 31) : gm_W E d 28 95 lv (.int x :: .int (nI j) :: .ref a :: st) h Q ↔ gm_W E d 28 96 lv st (gm_sf h a j (.int x)) Q := gw_wr m28 f28_95 rfl rfl rfl rfl rfl (gs_st hk (by decide) hj hl)
theorem f28_96 : gm_ft 28 96 = some (.aload_n 0, 1) := by decide +kernel
theorem r28_96 {E : Nat → Value} {d : Nat} {st : List Value} {h : gm_H} {Q : gm_R → gm_H → Prop} {a1 a2 : Value} {x : Nat} : gm_W E d 28 96 [.ref x, a1, a2] st h Q ↔ gm_W E d 28 97 [.ref x, a1, a2] (.ref x :: st) h Q := gw_loc m28 f28_96 rfl rfl
theorem r28_96n {E : Nat → Value} {d : Nat} {st : List Value} {h : gm_H} {Q : gm_R → gm_H → Prop} {a1 a2 : Value}  : gm_W E d 28 96 [.null, a1, a2] st h Q ↔ gm_W E d 28 97 [.null, a1, a2] (.null :: st) h Q := gw_loc m28 f28_96 rfl rfl
theorem f28_97 : gm_ft 28 97 = some (.getfield 105, 3) := by decide +kernel
theorem r28_97 {E : Nat → Value} {d : Nat} {st : List Value} {h : gm_H} {Q : gm_R → gm_H → Prop} {lv : List Value} {a : Nat} (hk : gm_kd h a = 5) : gm_W E d 28 97 lv (.ref a :: st) h Q ↔ gm_W E d 28 100 lv (gm_fv h a 44 :: st) h Q := gw_rd m28 f28_97 rfl rfl rfl rfl (gs_get k5_105 hk (by decide))
theorem f28_100 : gm_ft 28 100 = some (.iload_n 1, 1) := by decide +kernel
theorem r28_100 {E : Nat → Value} {d : Nat} {st : List Value} {h : gm_H} {Q : gm_R → gm_H → Prop} {a0 a2 : Value} {x : Int32} : gm_W E d 28 100 [a0, .int x, a2] st h Q ↔ gm_W E d 28 101 [a0, .int x, a2] (.int x :: st) h Q := gw_loc m28 f28_100 rfl rfl
theorem f28_101 : gm_ft 28 101 = some (.aload_n 0, 1) := by decide +kernel
theorem r28_101 {E : Nat → Value} {d : Nat} {st : List Value} {h : gm_H} {Q : gm_R → gm_H → Prop} {a1 a2 : Value} {x : Nat} : gm_W E d 28 101 [.ref x, a1, a2] st h Q ↔ gm_W E d 28 102 [.ref x, a1, a2] (.ref x :: st) h Q := gw_loc m28 f28_101 rfl rfl
theorem r28_101n {E : Nat → Value} {d : Nat} {st : List Value} {h : gm_H} {Q : gm_R → gm_H → Prop} {a1 a2 : Value}  : gm_W E d 28 101 [.null, a1, a2] st h Q ↔ gm_W E d 28 102 [.null, a1, a2] (.null :: st) h Q := gw_loc m28 f28_101 rfl rfl
theorem f28_102 : gm_ft 28 102 = some (.getfield 69, 3) := by decide +kernel
theorem r28_102 {E : Nat → Value} {d : Nat} {st : List Value} {h : gm_H} {Q : gm_R → gm_H → Prop} {lv : List Value} {a : Nat} (hk : gm_kd h a = 5) : gm_W E d 28 102 lv (.ref a :: st) h Q ↔ gm_W E d 28 105 lv (gm_fv h a 31 :: st) h Q := gw_rd m28 f28_102 rfl rfl rfl rfl (gs_get k5_69 hk (by decide))
theorem f28_105 : gm_ft 28 105 = some (.iload_n 2, 1) := by decide +kernel
theorem r28_105 {E : Nat → Value} {d : Nat} {st : List Value} {h : gm_H} {Q : gm_R → gm_H → Prop} {a0 a1 : Value} {x : Int32} : gm_W E d 28 105 [a0, a1, .int x] st h Q ↔ gm_W E d 28 106 [a0, a1, .int x] (.int x :: st) h Q := gw_loc m28 f28_105 rfl rfl
theorem f28_106 : gm_ft 28 106 = some (.iaload, 1) := by decide +kernel
theorem r28_106 {E : Nat → Value} {d : Nat} {st : List Value} {h : gm_H} {Q : gm_R → gm_H → Prop} {lv : List Value} {a j : Nat} (hk : gm_kd h a % 100 = 0 ∧ 100 ≤ gm_kd h a ∧ gm_kd h a < 900) (hj : j < gm_ln h a) (hl : gm_ln h a < 2 ^ 31) : gm_W E d 28 106 lv (.int (nI j) :: .ref a :: st) h Q ↔ gm_W E d 28 107 lv (gm_fv h a j :: st) h Q := gw_rd m28 f28_106 rfl rfl rfl rfl (gs_ld (P := fun t => t == 0) hk.2 (by have := hk.1; simp [this] <;> omega) hj hl)
theorem f28_107 : gm_ft 28 107 = some (.iastore, 1) := by decide +kernel
theorem r28_107 {E : Nat → Value} {d : Nat} {st : List Value} {h : gm_H} {Q : gm_R → gm_H → Prop} {lv : List Value} {a j : Nat} {x : Int32} (hk : gm_kd h a = 200) (hj : j < gm_ln h a) (hl : gm_ln h a < 2 ^ 31) : gm_W E d 28 107 lv (.int x :: .int (nI j) :: .ref a :: st) h Q ↔ gm_W E d 28 108 lv st (gm_sf h a j (.int x)) Q := gw_wr m28 f28_107 rfl rfl rfl rfl rfl (gs_st hk (by decide) hj hl)
theorem f28_108 : gm_ft 28 108 = some (.aload_n 0, 1) := by decide +kernel
theorem r28_108 {E : Nat → Value} {d : Nat} {st : List Value} {h : gm_H} {Q : gm_R → gm_H → Prop} {a1 a2 : Value} {x : Nat} : gm_W E d 28 108 [.ref x, a1, a2] st h Q ↔ gm_W E d 28 109 [.ref x, a1, a2] (.ref x :: st) h Q := gw_loc m28 f28_108 rfl rfl
theorem r28_108n {E : Nat → Value} {d : Nat} {st : List Value} {h : gm_H} {Q : gm_R → gm_H → Prop} {a1 a2 : Value}  : gm_W E d 28 108 [.null, a1, a2] st h Q ↔ gm_W E d 28 109 [.null, a1, a2] (.null :: st) h Q := gw_loc m28 f28_108 rfl rfl
theorem f28_109 : gm_ft 28 109 = some (.getfield 96, 3) := by decide +kernel
theorem r28_109 {E : Nat → Value} {d : Nat} {st : List Value} {h : gm_H} {Q : gm_R → gm_H → Prop} {lv : List Value} {a : Nat} (hk : gm_kd h a = 5) : gm_W E d 28 109 lv (.ref a :: st) h Q ↔ gm_W E d 28 112 lv (gm_fv h a 41 :: st) h Q := gw_rd m28 f28_109 rfl rfl rfl rfl (gs_get k5_96 hk (by decide))
theorem f28_112 : gm_ft 28 112 = some (.iload_n 1, 1) := by decide +kernel
theorem r28_112 {E : Nat → Value} {d : Nat} {st : List Value} {h : gm_H} {Q : gm_R → gm_H → Prop} {a0 a2 : Value} {x : Int32} : gm_W E d 28 112 [a0, .int x, a2] st h Q ↔ gm_W E d 28 113 [a0, .int x, a2] (.int x :: st) h Q := gw_loc m28 f28_112 rfl rfl
theorem f28_113 : gm_ft 28 113 = some (.bipush 6, 2) := by decide +kernel
theorem r28_113 {E : Nat → Value} {d : Nat} {st : List Value} {h : gm_H} {Q : gm_R → gm_H → Prop} {lv : List Value} : gm_W E d 28 113 lv st h Q ↔ gm_W E d 28 115 lv (.int (6 : Int32) :: st) h Q := gw_pure m28 f28_113 rfl
theorem f28_115 : gm_ft 28 115 = some (.iastore, 1) := by decide +kernel
theorem r28_115 {E : Nat → Value} {d : Nat} {st : List Value} {h : gm_H} {Q : gm_R → gm_H → Prop} {lv : List Value} {a j : Nat} {x : Int32} (hk : gm_kd h a = 200) (hj : j < gm_ln h a) (hl : gm_ln h a < 2 ^ 31) : gm_W E d 28 115 lv (.int x :: .int (nI j) :: .ref a :: st) h Q ↔ gm_W E d 28 116 lv st (gm_sf h a j (.int x)) Q := gw_wr m28 f28_115 rfl rfl rfl rfl rfl (gs_st hk (by decide) hj hl)
theorem f28_116 : gm_ft 28 116 = some (.aload_n 0, 1) := by decide +kernel
theorem r28_116 {E : Nat → Value} {d : Nat} {st : List Value} {h : gm_H} {Q : gm_R → gm_H → Prop} {a1 a2 : Value} {x : Nat} : gm_W E d 28 116 [.ref x, a1, a2] st h Q ↔ gm_W E d 28 117 [.ref x, a1, a2] (.ref x :: st) h Q := gw_loc m28 f28_116 rfl rfl
theorem r28_116n {E : Nat → Value} {d : Nat} {st : List Value} {h : gm_H} {Q : gm_R → gm_H → Prop} {a1 a2 : Value}  : gm_W E d 28 116 [.null, a1, a2] st h Q ↔ gm_W E d 28 117 [.null, a1, a2] (.null :: st) h Q := gw_loc m28 f28_116 rfl rfl
theorem f28_117 : gm_ft 28 117 = some (.iconst 1, 1) := by decide +kernel
theorem r28_117 {E : Nat → Value} {d : Nat} {st : List Value} {h : gm_H} {Q : gm_R → gm_H → Prop} {lv : List Value} : gm_W E d 28 117 lv st h Q ↔ gm_W E d 28 118 lv (.int (1 : Int32) :: st) h Q := gw_pure m28 f28_117 rfl
theorem f28_118 : gm_ft 28 118 = some (.aload_n 0, 1) := by decide +kernel
theorem r28_118 {E : Nat → Value} {d : Nat} {st : List Value} {h : gm_H} {Q : gm_R → gm_H → Prop} {a1 a2 : Value} {x : Nat} : gm_W E d 28 118 [.ref x, a1, a2] st h Q ↔ gm_W E d 28 119 [.ref x, a1, a2] (.ref x :: st) h Q := gw_loc m28 f28_118 rfl rfl
theorem r28_118n {E : Nat → Value} {d : Nat} {st : List Value} {h : gm_H} {Q : gm_R → gm_H → Prop} {a1 a2 : Value}  : gm_W E d 28 118 [.null, a1, a2] st h Q ↔ gm_W E d 28 119 [.null, a1, a2] (.null :: st) h Q := gw_loc m28 f28_118 rfl rfl
theorem f28_119 : gm_ft 28 119 = some (.getfield 99, 3) := by decide +kernel
theorem r28_119 {E : Nat → Value} {d : Nat} {st : List Value} {h : gm_H} {Q : gm_R → gm_H → Prop} {lv : List Value} {a : Nat} (hk : gm_kd h a = 5) : gm_W E d 28 119 lv (.ref a :: st) h Q ↔ gm_W E d 28 122 lv (gm_fv h a 42 :: st) h Q := gw_rd m28 f28_119 rfl rfl rfl rfl (gs_get k5_99 hk (by decide))
theorem f28_122 : gm_ft 28 122 = some (.iload_n 1, 1) := by decide +kernel
theorem r28_122 {E : Nat → Value} {d : Nat} {st : List Value} {h : gm_H} {Q : gm_R → gm_H → Prop} {a0 a2 : Value} {x : Int32} : gm_W E d 28 122 [a0, .int x, a2] st h Q ↔ gm_W E d 28 123 [a0, .int x, a2] (.int x :: st) h Q := gw_loc m28 f28_122 rfl rfl
theorem f28_123 : gm_ft 28 123 = some (.iaload, 1) := by decide +kernel
theorem r28_123 {E : Nat → Value} {d : Nat} {st : List Value} {h : gm_H} {Q : gm_R → gm_H → Prop} {lv : List Value} {a j : Nat} (hk : gm_kd h a % 100 = 0 ∧ 100 ≤ gm_kd h a ∧ gm_kd h a < 900) (hj : j < gm_ln h a) (hl : gm_ln h a < 2 ^ 31) : gm_W E d 28 123 lv (.int (nI j) :: .ref a :: st) h Q ↔ gm_W E d 28 124 lv (gm_fv h a j :: st) h Q := gw_rd m28 f28_123 rfl rfl rfl rfl (gs_ld (P := fun t => t == 0) hk.2 (by have := hk.1; simp [this] <;> omega) hj hl)
theorem f28_124 : gm_ft 28 124 = some (.iconst 1, 1) := by decide +kernel
theorem r28_124 {E : Nat → Value} {d : Nat} {st : List Value} {h : gm_H} {Q : gm_R → gm_H → Prop} {lv : List Value} : gm_W E d 28 124 lv st h Q ↔ gm_W E d 28 125 lv (.int (1 : Int32) :: st) h Q := gw_pure m28 f28_124 rfl
theorem f28_125 : gm_ft 28 125 = some (.iadd, 1) := by decide +kernel
theorem r28_125 {E : Nat → Value} {d : Nat} {st : List Value} {h : gm_H} {Q : gm_R → gm_H → Prop} {lv : List Value} {x y : Int32} : gm_W E d 28 125 lv (.int y :: .int x :: st) h Q ↔ gm_W E d 28 126 lv (.int (x + y) :: st) h Q := gw_pure m28 f28_125 rfl
theorem f28_126 : gm_ft 28 126 = some (.iconst 0, 1) := by decide +kernel
theorem r28_126 {E : Nat → Value} {d : Nat} {st : List Value} {h : gm_H} {Q : gm_R → gm_H → Prop} {lv : List Value} : gm_W E d 28 126 lv st h Q ↔ gm_W E d 28 127 lv (.int (0 : Int32) :: st) h Q := gw_pure m28 f28_126 rfl
theorem f28_127 : gm_ft 28 127 = some (.iconst 0, 1) := by decide +kernel
theorem r28_127 {E : Nat → Value} {d : Nat} {st : List Value} {h : gm_H} {Q : gm_R → gm_H → Prop} {lv : List Value} : gm_W E d 28 127 lv st h Q ↔ gm_W E d 28 128 lv (.int (0 : Int32) :: st) h Q := gw_pure m28 f28_127 rfl
theorem f28_128 : gm_ft 28 128 = some (.invokevirtual 200, 3) := by decide +kernel
theorem c28_128 {E : Nat → Value} {d : Nat} {st : List Value} {h : gm_H} {Q : gm_R → gm_H → Prop} {lv : List Value} {b0 : Int32} {b1 : Int32} {b2 : Int32} {b3 : Int32} {a : Nat} {Qc : gm_R → gm_H → Prop} (hs : (st.map fun v => v.category).sum ≤ 8) (hr : gm_kd h a = 5) (hd : 1 ≤ d) (hc : gm_Ca E (d - 1) 15 [.ref a, .int b0, .int b1, .int b2, .int b3] h Qc) (kn : ∀ (v9 : Option Value) (h9 : gm_H), Qc (.inl v9) h9 → gm_W E d 28 131 lv (v9.toList ++ st) h9 Q) (kx : ∀ (x9 : Nat) (h9 : gm_H), Qc (.inr x9) h9 → Q (.inr x9) h9) : gm_W E d 28 128 lv (.int b3 :: .int b2 :: .int b1 :: .int b0 :: .ref a :: st) h Q := gw_call (gn_call m28 f28_128 rfl rfl rfl rfl rfl rfl rfl (gs_virt (bs := [.int b3, .int b2, .int b1, .int b0]) (w := 856) (L := 5) rfl rfl rfl rfl hs (by simp [gm_en1]) hr (by decide)) (by decide)) m28 rfl rfl hd hc kn kx
theorem f28_131 : gm_ft 28 131 = some (.return_, 1) := by decide +kernel
theorem r28_131 {E : Nat → Value} {d : Nat} {h : gm_H} {Q : gm_R → gm_H → Prop} {lv : List Value} : gm_W E d 28 131 lv [] h Q ↔ Q (.inl none) h := gw_ret m28 f28_131 rfl rfl rfl rfl rfl rfl rfl rfl rfl
/-! GraphReaderModel.endConstant(I)V -/
theorem m29 : gm_mt[29]? = some (⟨"GraphReaderModel", "endConstant", "(I)V"⟩, prog_7_method_28_code, 8, none, [], 5, 2) := rfl
theorem f29_0 : gm_ft 29 0 = some (.aload_n 0, 1) := by decide +kernel
theorem r29_0 {E : Nat → Value} {d : Nat} {st : List Value} {h : gm_H} {Q : gm_R → gm_H → Prop} {a1 a2 a3 a4 a5 a6 a7 : Value} {x : Nat} : gm_W E d 29 0 [.ref x, a1, a2, a3, a4, a5, a6, a7] st h Q ↔ gm_W E d 29 1 [.ref x, a1, a2, a3, a4, a5, a6, a7] (.ref x :: st) h Q := gw_loc m29 f29_0 rfl rfl
theorem r29_0n {E : Nat → Value} {d : Nat} {st : List Value} {h : gm_H} {Q : gm_R → gm_H → Prop} {a1 a2 a3 a4 a5 a6 a7 : Value}  : gm_W E d 29 0 [.null, a1, a2, a3, a4, a5, a6, a7] st h Q ↔ gm_W E d 29 1 [.null, a1, a2, a3, a4, a5, a6, a7] (.null :: st) h Q := gw_loc m29 f29_0 rfl rfl
theorem f29_1 : gm_ft 29 1 = some (.getfield 178, 3) := by decide +kernel
theorem r29_1 {E : Nat → Value} {d : Nat} {st : List Value} {h : gm_H} {Q : gm_R → gm_H → Prop} {lv : List Value} {a : Nat} (hk : gm_kd h a = 5) : gm_W E d 29 1 lv (.ref a :: st) h Q ↔ gm_W E d 29 4 lv (gm_fv h a 9 :: st) h Q := gw_rd m29 f29_1 rfl rfl rfl rfl (gs_get k5_178 hk (by decide))
theorem f29_4 : gm_ft 29 4 = some (.istore_n 2, 1) := by decide +kernel
theorem r29_4 {E : Nat → Value} {d : Nat} {st : List Value} {h : gm_H} {Q : gm_R → gm_H → Prop} {a0 a1 a2 a3 a4 a5 a6 a7 : Value} {x : Int32} : gm_W E d 29 4 [a0, a1, a2, a3, a4, a5, a6, a7] (.int x :: st) h Q ↔ gm_W E d 29 5 [a0, gm_k a1, .int x, a3, a4, a5, a6, a7] st h Q := gw_loc m29 f29_4 rfl rfl
theorem f29_5 : gm_ft 29 5 = some (.aload_n 0, 1) := by decide +kernel
theorem r29_5 {E : Nat → Value} {d : Nat} {st : List Value} {h : gm_H} {Q : gm_R → gm_H → Prop} {a1 a2 a3 a4 a5 a6 a7 : Value} {x : Nat} : gm_W E d 29 5 [.ref x, a1, a2, a3, a4, a5, a6, a7] st h Q ↔ gm_W E d 29 6 [.ref x, a1, a2, a3, a4, a5, a6, a7] (.ref x :: st) h Q := gw_loc m29 f29_5 rfl rfl
theorem r29_5n {E : Nat → Value} {d : Nat} {st : List Value} {h : gm_H} {Q : gm_R → gm_H → Prop} {a1 a2 a3 a4 a5 a6 a7 : Value}  : gm_W E d 29 5 [.null, a1, a2, a3, a4, a5, a6, a7] st h Q ↔ gm_W E d 29 6 [.null, a1, a2, a3, a4, a5, a6, a7] (.null :: st) h Q := gw_loc m29 f29_5 rfl rfl
theorem f29_6 : gm_ft 29 6 = some (.getfield 105, 3) := by decide +kernel
theorem r29_6 {E : Nat → Value} {d : Nat} {st : List Value} {h : gm_H} {Q : gm_R → gm_H → Prop} {lv : List Value} {a : Nat} (hk : gm_kd h a = 5) : gm_W E d 29 6 lv (.ref a :: st) h Q ↔ gm_W E d 29 9 lv (gm_fv h a 44 :: st) h Q := gw_rd m29 f29_6 rfl rfl rfl rfl (gs_get k5_105 hk (by decide))
theorem f29_9 : gm_ft 29 9 = some (.iload_n 1, 1) := by decide +kernel
theorem r29_9 {E : Nat → Value} {d : Nat} {st : List Value} {h : gm_H} {Q : gm_R → gm_H → Prop} {a0 a2 a3 a4 a5 a6 a7 : Value} {x : Int32} : gm_W E d 29 9 [a0, .int x, a2, a3, a4, a5, a6, a7] st h Q ↔ gm_W E d 29 10 [a0, .int x, a2, a3, a4, a5, a6, a7] (.int x :: st) h Q := gw_loc m29 f29_9 rfl rfl
theorem f29_10 : gm_ft 29 10 = some (.iaload, 1) := by decide +kernel
theorem r29_10 {E : Nat → Value} {d : Nat} {st : List Value} {h : gm_H} {Q : gm_R → gm_H → Prop} {lv : List Value} {a j : Nat} (hk : gm_kd h a % 100 = 0 ∧ 100 ≤ gm_kd h a ∧ gm_kd h a < 900) (hj : j < gm_ln h a) (hl : gm_ln h a < 2 ^ 31) : gm_W E d 29 10 lv (.int (nI j) :: .ref a :: st) h Q ↔ gm_W E d 29 11 lv (gm_fv h a j :: st) h Q := gw_rd m29 f29_10 rfl rfl rfl rfl (gs_ld (P := fun t => t == 0) hk.2 (by have := hk.1; simp [this] <;> omega) hj hl)
theorem f29_11 : gm_ft 29 11 = some (.istore_n 3, 1) := by decide +kernel
theorem r29_11 {E : Nat → Value} {d : Nat} {st : List Value} {h : gm_H} {Q : gm_R → gm_H → Prop} {a0 a1 a2 a3 a4 a5 a6 a7 : Value} {x : Int32} : gm_W E d 29 11 [a0, a1, a2, a3, a4, a5, a6, a7] (.int x :: st) h Q ↔ gm_W E d 29 12 [a0, a1, gm_k a2, .int x, a4, a5, a6, a7] st h Q := gw_loc m29 f29_11 rfl rfl
theorem f29_12 : gm_ft 29 12 = some (.iload_n 2, 1) := by decide +kernel
theorem r29_12 {E : Nat → Value} {d : Nat} {st : List Value} {h : gm_H} {Q : gm_R → gm_H → Prop} {a0 a1 a3 a4 a5 a6 a7 : Value} {x : Int32} : gm_W E d 29 12 [a0, a1, .int x, a3, a4, a5, a6, a7] st h Q ↔ gm_W E d 29 13 [a0, a1, .int x, a3, a4, a5, a6, a7] (.int x :: st) h Q := gw_loc m29 f29_12 rfl rfl
theorem f29_13 : gm_ft 29 13 = some (.ifCond .lt 27, 3) := by decide +kernel
theorem r29_13 {E : Nat → Value} {d : Nat} {st : List Value} {h : gm_H} {Q : gm_R → gm_H → Prop} {lv : List Value} {x : Int32} : gm_W E d 29 13 lv (.int x :: st) h Q ↔ (if x < 0 then gm_W E d 29 40 lv st h Q else gm_W E d 29 16 lv st h Q) := (gw_br m29 f29_13 rfl rfl rfl rfl).trans gw_if
theorem f29_16 : gm_ft 29 16 = some (.aload_n 0, 1) := by decide +kernel
theorem r29_16 {E : Nat → Value} {d : Nat} {st : List Value} {h : gm_H} {Q : gm_R → gm_H → Prop} {a1 a2 a3 a4 a5 a6 a7 : Value} {x : Nat} : gm_W E d 29 16 [.ref x, a1, a2, a3, a4, a5, a6, a7] st h Q ↔ gm_W E d 29 17 [.ref x, a1, a2, a3, a4, a5, a6, a7] (.ref x :: st) h Q := gw_loc m29 f29_16 rfl rfl
theorem r29_16n {E : Nat → Value} {d : Nat} {st : List Value} {h : gm_H} {Q : gm_R → gm_H → Prop} {a1 a2 a3 a4 a5 a6 a7 : Value}  : gm_W E d 29 16 [.null, a1, a2, a3, a4, a5, a6, a7] st h Q ↔ gm_W E d 29 17 [.null, a1, a2, a3, a4, a5, a6, a7] (.null :: st) h Q := gw_loc m29 f29_16 rfl rfl
theorem f29_17 : gm_ft 29 17 = some (.getfield 39, 3) := by decide +kernel
theorem r29_17 {E : Nat → Value} {d : Nat} {st : List Value} {h : gm_H} {Q : gm_R → gm_H → Prop} {lv : List Value} {a : Nat} (hk : gm_kd h a = 5) : gm_W E d 29 17 lv (.ref a :: st) h Q ↔ gm_W E d 29 20 lv (gm_fv h a 18 :: st) h Q := gw_rd m29 f29_17 rfl rfl rfl rfl (gs_get k5_39 hk (by decide))
theorem f29_20 : gm_ft 29 20 = some (.iload_n 2, 1) := by decide +kernel
theorem r29_20 {E : Nat → Value} {d : Nat} {st : List Value} {h : gm_H} {Q : gm_R → gm_H → Prop} {a0 a1 a3 a4 a5 a6 a7 : Value} {x : Int32} : gm_W E d 29 20 [a0, a1, .int x, a3, a4, a5, a6, a7] st h Q ↔ gm_W E d 29 21 [a0, a1, .int x, a3, a4, a5, a6, a7] (.int x :: st) h Q := gw_loc m29 f29_20 rfl rfl
theorem f29_21 : gm_ft 29 21 = some (.iaload, 1) := by decide +kernel
theorem r29_21 {E : Nat → Value} {d : Nat} {st : List Value} {h : gm_H} {Q : gm_R → gm_H → Prop} {lv : List Value} {a j : Nat} (hk : gm_kd h a % 100 = 0 ∧ 100 ≤ gm_kd h a ∧ gm_kd h a < 900) (hj : j < gm_ln h a) (hl : gm_ln h a < 2 ^ 31) : gm_W E d 29 21 lv (.int (nI j) :: .ref a :: st) h Q ↔ gm_W E d 29 22 lv (gm_fv h a j :: st) h Q := gw_rd m29 f29_21 rfl rfl rfl rfl (gs_ld (P := fun t => t == 0) hk.2 (by have := hk.1; simp [this] <;> omega) hj hl)
theorem f29_22 : gm_ft 29 22 = some (.iconst 1, 1) := by decide +kernel
theorem r29_22 {E : Nat → Value} {d : Nat} {st : List Value} {h : gm_H} {Q : gm_R → gm_H → Prop} {lv : List Value} : gm_W E d 29 22 lv st h Q ↔ gm_W E d 29 23 lv (.int (1 : Int32) :: st) h Q := gw_pure m29 f29_22 rfl
theorem f29_23 : gm_ft 29 23 = some (.if_icmp .ne 17, 3) := by decide +kernel
theorem r29_23 {E : Nat → Value} {d : Nat} {st : List Value} {h : gm_H} {Q : gm_R → gm_H → Prop} {lv : List Value} {x y : Int32} : gm_W E d 29 23 lv (.int y :: .int x :: st) h Q ↔ (if x = y then gm_W E d 29 26 lv st h Q else gm_W E d 29 40 lv st h Q) := (gw_br m29 f29_23 rfl rfl rfl rfl).trans gw_ifn
theorem f29_26 : gm_ft 29 26 = some (.aload_n 0, 1) := by decide +kernel
theorem r29_26 {E : Nat → Value} {d : Nat} {st : List Value} {h : gm_H} {Q : gm_R → gm_H → Prop} {a1 a2 a3 a4 a5 a6 a7 : Value} {x : Nat} : gm_W E d 29 26 [.ref x, a1, a2, a3, a4, a5, a6, a7] st h Q ↔ gm_W E d 29 27 [.ref x, a1, a2, a3, a4, a5, a6, a7] (.ref x :: st) h Q := gw_loc m29 f29_26 rfl rfl
theorem r29_26n {E : Nat → Value} {d : Nat} {st : List Value} {h : gm_H} {Q : gm_R → gm_H → Prop} {a1 a2 a3 a4 a5 a6 a7 : Value}  : gm_W E d 29 26 [.null, a1, a2, a3, a4, a5, a6, a7] st h Q ↔ gm_W E d 29 27 [.null, a1, a2, a3, a4, a5, a6, a7] (.null :: st) h Q := gw_loc m29 f29_26 rfl rfl
theorem f29_27 : gm_ft 29 27 = some (.getfield 45, 3) := by decide +kernel
theorem r29_27 {E : Nat → Value} {d : Nat} {st : List Value} {h : gm_H} {Q : gm_R → gm_H → Prop} {lv : List Value} {a : Nat} (hk : gm_kd h a = 5) : gm_W E d 29 27 lv (.ref a :: st) h Q ↔ gm_W E d 29 30 lv (gm_fv h a 20 :: st) h Q := gw_rd m29 f29_27 rfl rfl rfl rfl (gs_get k5_45 hk (by decide))
theorem f29_30 : gm_ft 29 30 = some (.iload_n 2, 1) := by decide +kernel
theorem r29_30 {E : Nat → Value} {d : Nat} {st : List Value} {h : gm_H} {Q : gm_R → gm_H → Prop} {a0 a1 a3 a4 a5 a6 a7 : Value} {x : Int32} : gm_W E d 29 30 [a0, a1, .int x, a3, a4, a5, a6, a7] st h Q ↔ gm_W E d 29 31 [a0, a1, .int x, a3, a4, a5, a6, a7] (.int x :: st) h Q := gw_loc m29 f29_30 rfl rfl
theorem f29_31 : gm_ft 29 31 = some (.iaload, 1) := by decide +kernel
theorem r29_31 {E : Nat → Value} {d : Nat} {st : List Value} {h : gm_H} {Q : gm_R → gm_H → Prop} {lv : List Value} {a j : Nat} (hk : gm_kd h a % 100 = 0 ∧ 100 ≤ gm_kd h a ∧ gm_kd h a < 900) (hj : j < gm_ln h a) (hl : gm_ln h a < 2 ^ 31) : gm_W E d 29 31 lv (.int (nI j) :: .ref a :: st) h Q ↔ gm_W E d 29 32 lv (gm_fv h a j :: st) h Q := gw_rd m29 f29_31 rfl rfl rfl rfl (gs_ld (P := fun t => t == 0) hk.2 (by have := hk.1; simp [this] <;> omega) hj hl)
theorem f29_32 : gm_ft 29 32 = some (.iconst 1, 1) := by decide +kernel
theorem r29_32 {E : Nat → Value} {d : Nat} {st : List Value} {h : gm_H} {Q : gm_R → gm_H → Prop} {lv : List Value} : gm_W E d 29 32 lv st h Q ↔ gm_W E d 29 33 lv (.int (1 : Int32) :: st) h Q := gw_pure m29 f29_32 rfl
theorem f29_33 : gm_ft 29 33 = some (.if_icmp .ne 7, 3) := by decide +kernel
theorem r29_33 {E : Nat → Value} {d : Nat} {st : List Value} {h : gm_H} {Q : gm_R → gm_H → Prop} {lv : List Value} {x y : Int32} : gm_W E d 29 33 lv (.int y :: .int x :: st) h Q ↔ (if x = y then gm_W E d 29 36 lv st h Q else gm_W E d 29 40 lv st h Q) := (gw_br m29 f29_33 rfl rfl rfl rfl).trans gw_ifn
theorem f29_36 : gm_ft 29 36 = some (.iconst 1, 1) := by decide +kernel
theorem r29_36 {E : Nat → Value} {d : Nat} {st : List Value} {h : gm_H} {Q : gm_R → gm_H → Prop} {lv : List Value} : gm_W E d 29 36 lv st h Q ↔ gm_W E d 29 37 lv (.int (1 : Int32) :: st) h Q := gw_pure m29 f29_36 rfl
theorem f29_37 : gm_ft 29 37 = some (.goto 4, 3) := by decide +kernel
theorem r29_37 {E : Nat → Value} {d : Nat} {st : List Value} {h : gm_H} {Q : gm_R → gm_H → Prop} {lv : List Value} : gm_W E d 29 37 lv st h Q ↔ gm_W E d 29 41 lv st h Q := gw_brT m29 f29_37 rfl rfl rfl rfl
theorem f29_40 : gm_ft 29 40 = some (.iconst 0, 1) := by decide +kernel
theorem r29_40 {E : Nat → Value} {d : Nat} {st : List Value} {h : gm_H} {Q : gm_R → gm_H → Prop} {lv : List Value} : gm_W E d 29 40 lv st h Q ↔ gm_W E d 29 41 lv (.int (0 : Int32) :: st) h Q := gw_pure m29 f29_40 rfl
theorem f29_41 : gm_ft 29 41 = some (.istore 4, 2) := by decide +kernel
theorem r29_41 {E : Nat → Value} {d : Nat} {st : List Value} {h : gm_H} {Q : gm_R → gm_H → Prop} {a0 a1 a2 a3 a4 a5 a6 a7 : Value} {x : Int32} : gm_W E d 29 41 [a0, a1, a2, a3, a4, a5, a6, a7] (.int x :: st) h Q ↔ gm_W E d 29 43 [a0, a1, a2, gm_k a3, .int x, a5, a6, a7] st h Q := gw_loc m29 f29_41 rfl rfl
theorem f29_43 : gm_ft 29 43 = some (.iload 4, 2) := by decide +kernel
theorem r29_43 {E : Nat → Value} {d : Nat} {st : List Value} {h : gm_H} {Q : gm_R → gm_H → Prop} {a0 a1 a2 a3 a5 a6 a7 : Value} {x : Int32} : gm_W E d 29 43 [a0, a1, a2, a3, .int x, a5, a6, a7] st h Q ↔ gm_W E d 29 45 [a0, a1, a2, a3, .int x, a5, a6, a7] (.int x :: st) h Q := gw_loc m29 f29_43 rfl rfl
theorem f29_45 : gm_ft 29 45 = some (.ifCond .eq 20, 3) := by decide +kernel
theorem r29_45 {E : Nat → Value} {d : Nat} {st : List Value} {h : gm_H} {Q : gm_R → gm_H → Prop} {lv : List Value} {x : Int32} : gm_W E d 29 45 lv (.int x :: st) h Q ↔ (if x = 0 then gm_W E d 29 65 lv st h Q else gm_W E d 29 48 lv st h Q) := (gw_br m29 f29_45 rfl rfl rfl rfl).trans gw_if
theorem f29_48 : gm_ft 29 48 = some (.aload_n 0, 1) := by decide +kernel
theorem r29_48 {E : Nat → Value} {d : Nat} {st : List Value} {h : gm_H} {Q : gm_R → gm_H → Prop} {a1 a2 a3 a4 a5 a6 a7 : Value} {x : Nat} : gm_W E d 29 48 [.ref x, a1, a2, a3, a4, a5, a6, a7] st h Q ↔ gm_W E d 29 49 [.ref x, a1, a2, a3, a4, a5, a6, a7] (.ref x :: st) h Q := gw_loc m29 f29_48 rfl rfl
theorem r29_48n {E : Nat → Value} {d : Nat} {st : List Value} {h : gm_H} {Q : gm_R → gm_H → Prop} {a1 a2 a3 a4 a5 a6 a7 : Value}  : gm_W E d 29 48 [.null, a1, a2, a3, a4, a5, a6, a7] st h Q ↔ gm_W E d 29 49 [.null, a1, a2, a3, a4, a5, a6, a7] (.null :: st) h Q := gw_loc m29 f29_48 rfl rfl
theorem f29_49 : gm_ft 29 49 = some (.getfield 7, 3) := by decide +kernel
theorem r29_49 {E : Nat → Value} {d : Nat} {st : List Value} {h : gm_H} {Q : gm_R → gm_H → Prop} {lv : List Value} {a : Nat} (hk : gm_kd h a = 5) : gm_W E d 29 49 lv (.ref a :: st) h Q ↔ gm_W E d 29 52 lv (gm_fv h a 4 :: st) h Q := gw_rd m29 f29_49 rfl rfl rfl rfl (gs_get k5_7 hk (by decide))
theorem f29_52 : gm_ft 29 52 = some (.aload_n 0, 1) := by decide +kernel
theorem r29_52 {E : Nat → Value} {d : Nat} {st : List Value} {h : gm_H} {Q : gm_R → gm_H → Prop} {a1 a2 a3 a4 a5 a6 a7 : Value} {x : Nat} : gm_W E d 29 52 [.ref x, a1, a2, a3, a4, a5, a6, a7] st h Q ↔ gm_W E d 29 53 [.ref x, a1, a2, a3, a4, a5, a6, a7] (.ref x :: st) h Q := gw_loc m29 f29_52 rfl rfl
theorem r29_52n {E : Nat → Value} {d : Nat} {st : List Value} {h : gm_H} {Q : gm_R → gm_H → Prop} {a1 a2 a3 a4 a5 a6 a7 : Value}  : gm_W E d 29 52 [.null, a1, a2, a3, a4, a5, a6, a7] st h Q ↔ gm_W E d 29 53 [.null, a1, a2, a3, a4, a5, a6, a7] (.null :: st) h Q := gw_loc m29 f29_52 rfl rfl
theorem f29_53 : gm_ft 29 53 = some (.getfield 48, 3) := by decide +kernel
theorem r29_53 {E : Nat → Value} {d : Nat} {st : List Value} {h : gm_H} {Q : gm_R → gm_H → Prop} {lv : List Value} {a : Nat} (hk : gm_kd h a = 5) : gm_W E d 29 53 lv (.ref a :: st) h Q ↔ gm_W E d 29 56 lv (gm_fv h a 21 :: st) h Q := gw_rd m29 f29_53 rfl rfl rfl rfl (gs_get k5_48 hk (by decide))
theorem f29_56 : gm_ft 29 56 = some (.iload_n 2, 1) := by decide +kernel
theorem r29_56 {E : Nat → Value} {d : Nat} {st : List Value} {h : gm_H} {Q : gm_R → gm_H → Prop} {a0 a1 a3 a4 a5 a6 a7 : Value} {x : Int32} : gm_W E d 29 56 [a0, a1, .int x, a3, a4, a5, a6, a7] st h Q ↔ gm_W E d 29 57 [a0, a1, .int x, a3, a4, a5, a6, a7] (.int x :: st) h Q := gw_loc m29 f29_56 rfl rfl
theorem f29_57 : gm_ft 29 57 = some (.iaload, 1) := by decide +kernel
theorem r29_57 {E : Nat → Value} {d : Nat} {st : List Value} {h : gm_H} {Q : gm_R → gm_H → Prop} {lv : List Value} {a j : Nat} (hk : gm_kd h a % 100 = 0 ∧ 100 ≤ gm_kd h a ∧ gm_kd h a < 900) (hj : j < gm_ln h a) (hl : gm_ln h a < 2 ^ 31) : gm_W E d 29 57 lv (.int (nI j) :: .ref a :: st) h Q ↔ gm_W E d 29 58 lv (gm_fv h a j :: st) h Q := gw_rd m29 f29_57 rfl rfl rfl rfl (gs_ld (P := fun t => t == 0) hk.2 (by have := hk.1; simp [this] <;> omega) hj hl)
theorem f29_58 : gm_ft 29 58 = some (.iaload, 1) := by decide +kernel
theorem r29_58 {E : Nat → Value} {d : Nat} {st : List Value} {h : gm_H} {Q : gm_R → gm_H → Prop} {lv : List Value} {a j : Nat} (hk : gm_kd h a % 100 = 0 ∧ 100 ≤ gm_kd h a ∧ gm_kd h a < 900) (hj : j < gm_ln h a) (hl : gm_ln h a < 2 ^ 31) : gm_W E d 29 58 lv (.int (nI j) :: .ref a :: st) h Q ↔ gm_W E d 29 59 lv (gm_fv h a j :: st) h Q := gw_rd m29 f29_58 rfl rfl rfl rfl (gs_ld (P := fun t => t == 0) hk.2 (by have := hk.1; simp [this] <;> omega) hj hl)
theorem f29_59 : gm_ft 29 59 = some (.bipush 97, 2) := by decide +kernel
theorem r29_59 {E : Nat → Value} {d : Nat} {st : List Value} {h : gm_H} {Q : gm_R → gm_H → Prop} {lv : List Value} : gm_W E d 29 59 lv st h Q ↔ gm_W E d 29 61 lv (.int (97 : Int32) :: st) h Q := gw_pure m29 f29_59 rfl
theorem f29_61 : gm_ft 29 61 = some (.isub, 1) := by decide +kernel
theorem r29_61 {E : Nat → Value} {d : Nat} {st : List Value} {h : gm_H} {Q : gm_R → gm_H → Prop} {lv : List Value} {x y : Int32} : gm_W E d 29 61 lv (.int y :: .int x :: st) h Q ↔ gm_W E d 29 62 lv (.int (x - y) :: st) h Q := gw_pure m29 f29_61 rfl
theorem f29_62 : gm_ft 29 62 = some (.goto 4, 3) := by decide +kernel
theorem r29_62 {E : Nat → Value} {d : Nat} {st : List Value} {h : gm_H} {Q : gm_R → gm_H → Prop} {lv : List Value} : gm_W E d 29 62 lv st h Q ↔ gm_W E d 29 66 lv st h Q := gw_brT m29 f29_62 rfl rfl rfl rfl
theorem f29_65 : gm_ft 29 65 = some (.iconst (-1), 1) := by decide +kernel
theorem r29_65 {E : Nat → Value} {d : Nat} {st : List Value} {h : gm_H} {Q : gm_R → gm_H → Prop} {lv : List Value} : gm_W E d 29 65 lv st h Q ↔ gm_W E d 29 66 lv (.int (-1 : Int32) :: st) h Q := gw_pure m29 f29_65 rfl
theorem f29_66 : gm_ft 29 66 = some (.istore 5, 2) := by decide +kernel
theorem r29_66 {E : Nat → Value} {d : Nat} {st : List Value} {h : gm_H} {Q : gm_R → gm_H → Prop} {a0 a1 a2 a3 a4 a5 a6 a7 : Value} {x : Int32} : gm_W E d 29 66 [a0, a1, a2, a3, a4, a5, a6, a7] (.int x :: st) h Q ↔ gm_W E d 29 68 [a0, a1, a2, a3, gm_k a4, .int x, a6, a7] st h Q := gw_loc m29 f29_66 rfl rfl
theorem f29_68 : gm_ft 29 68 = some (.aload_n 0, 1) := by decide +kernel
theorem r29_68 {E : Nat → Value} {d : Nat} {st : List Value} {h : gm_H} {Q : gm_R → gm_H → Prop} {a1 a2 a3 a4 a5 a6 a7 : Value} {x : Nat} : gm_W E d 29 68 [.ref x, a1, a2, a3, a4, a5, a6, a7] st h Q ↔ gm_W E d 29 69 [.ref x, a1, a2, a3, a4, a5, a6, a7] (.ref x :: st) h Q := gw_loc m29 f29_68 rfl rfl
theorem r29_68n {E : Nat → Value} {d : Nat} {st : List Value} {h : gm_H} {Q : gm_R → gm_H → Prop} {a1 a2 a3 a4 a5 a6 a7 : Value}  : gm_W E d 29 68 [.null, a1, a2, a3, a4, a5, a6, a7] st h Q ↔ gm_W E d 29 69 [.null, a1, a2, a3, a4, a5, a6, a7] (.null :: st) h Q := gw_loc m29 f29_68 rfl rfl
theorem f29_69 : gm_ft 29 69 = some (.iload 5, 2) := by decide +kernel
theorem r29_69 {E : Nat → Value} {d : Nat} {st : List Value} {h : gm_H} {Q : gm_R → gm_H → Prop} {a0 a1 a2 a3 a4 a6 a7 : Value} {x : Int32} : gm_W E d 29 69 [a0, a1, a2, a3, a4, .int x, a6, a7] st h Q ↔ gm_W E d 29 71 [a0, a1, a2, a3, a4, .int x, a6, a7] (.int x :: st) h Q := gw_loc m29 f29_69 rfl rfl
theorem f29_71 : gm_ft 29 71 = some (.bipush 26, 2) := by decide +kernel
theorem r29_71 {E : Nat → Value} {d : Nat} {st : List Value} {h : gm_H} {Q : gm_R → gm_H → Prop} {lv : List Value} : gm_W E d 29 71 lv st h Q ↔ gm_W E d 29 73 lv (.int (26 : Int32) :: st) h Q := gw_pure m29 f29_71 rfl
theorem f29_73 : gm_ft 29 73 = some (.invokevirtual 131, 3) := by decide +kernel
theorem c29_73 {E : Nat → Value} {d : Nat} {st : List Value} {h : gm_H} {Q : gm_R → gm_H → Prop} {lv : List Value} {b0 : Int32} {b1 : Int32} {a : Nat} {Qc : gm_R → gm_H → Prop} (hs : (st.map fun v => v.category).sum ≤ 8) (hr : gm_kd h a = 5) (hd : 1 ≤ d) (hc : gm_Ca E (d - 1) 4 [.ref a, .int b0, .int b1] h Qc) (kn : ∀ (v9 : Option Value) (h9 : gm_H), Qc (.inl v9) h9 → gm_W E d 29 76 lv (v9.toList ++ st) h9 Q) (kx : ∀ (x9 : Nat) (h9 : gm_H), Qc (.inr x9) h9 → Q (.inr x9) h9) : gm_W E d 29 73 lv (.int b1 :: .int b0 :: .ref a :: st) h Q := gw_call (gn_call m29 f29_73 rfl rfl rfl rfl rfl rfl rfl (gs_virt (bs := [.int b1, .int b0]) (w := 820) (L := 3) rfl rfl rfl rfl hs (by simp [gm_en1]) hr (by decide)) (by decide)) m29 rfl rfl hd hc kn kx
theorem f29_76 : gm_ft 29 76 = some (.ifCond .ne 17, 3) := by decide +kernel
theorem r29_76 {E : Nat → Value} {d : Nat} {st : List Value} {h : gm_H} {Q : gm_R → gm_H → Prop} {lv : List Value} {x : Int32} : gm_W E d 29 76 lv (.int x :: st) h Q ↔ (if x = 0 then gm_W E d 29 79 lv st h Q else gm_W E d 29 93 lv st h Q) := (gw_br m29 f29_76 rfl rfl rfl rfl).trans gw_ifn
theorem f29_79 : gm_ft 29 79 = some (.aload_n 0, 1) := by decide +kernel
theorem r29_79 {E : Nat → Value} {d : Nat} {st : List Value} {h : gm_H} {Q : gm_R → gm_H → Prop} {a1 a2 a3 a4 a5 a6 a7 : Value} {x : Nat} : gm_W E d 29 79 [.ref x, a1, a2, a3, a4, a5, a6, a7] st h Q ↔ gm_W E d 29 80 [.ref x, a1, a2, a3, a4, a5, a6, a7] (.ref x :: st) h Q := gw_loc m29 f29_79 rfl rfl
theorem r29_79n {E : Nat → Value} {d : Nat} {st : List Value} {h : gm_H} {Q : gm_R → gm_H → Prop} {a1 a2 a3 a4 a5 a6 a7 : Value}  : gm_W E d 29 79 [.null, a1, a2, a3, a4, a5, a6, a7] st h Q ↔ gm_W E d 29 80 [.null, a1, a2, a3, a4, a5, a6, a7] (.null :: st) h Q := gw_loc m29 f29_79 rfl rfl
theorem f29_80 : gm_ft 29 80 = some (.getfield 32, 3) := by decide +kernel
theorem r29_80 {E : Nat → Value} {d : Nat} {st : List Value} {h : gm_H} {Q : gm_R → gm_H → Prop} {lv : List Value} {a : Nat} (hk : gm_kd h a = 5) : gm_W E d 29 80 lv (.ref a :: st) h Q ↔ gm_W E d 29 83 lv (gm_fv h a 16 :: st) h Q := gw_rd m29 f29_80 rfl rfl rfl rfl (gs_get k5_32 hk (by decide))
theorem f29_83 : gm_ft 29 83 = some (.iload_n 3, 1) := by decide +kernel
theorem r29_83 {E : Nat → Value} {d : Nat} {st : List Value} {h : gm_H} {Q : gm_R → gm_H → Prop} {a0 a1 a2 a4 a5 a6 a7 : Value} {x : Int32} : gm_W E d 29 83 [a0, a1, a2, .int x, a4, a5, a6, a7] st h Q ↔ gm_W E d 29 84 [a0, a1, a2, .int x, a4, a5, a6, a7] (.int x :: st) h Q := gw_loc m29 f29_83 rfl rfl
theorem f29_84 : gm_ft 29 84 = some (.iaload, 1) := by decide +kernel
theorem r29_84 {E : Nat → Value} {d : Nat} {st : List Value} {h : gm_H} {Q : gm_R → gm_H → Prop} {lv : List Value} {a j : Nat} (hk : gm_kd h a % 100 = 0 ∧ 100 ≤ gm_kd h a ∧ gm_kd h a < 900) (hj : j < gm_ln h a) (hl : gm_ln h a < 2 ^ 31) : gm_W E d 29 84 lv (.int (nI j) :: .ref a :: st) h Q ↔ gm_W E d 29 85 lv (gm_fv h a j :: st) h Q := gw_rd m29 f29_84 rfl rfl rfl rfl (gs_ld (P := fun t => t == 0) hk.2 (by have := hk.1; simp [this] <;> omega) hj hl)
theorem f29_85 : gm_ft 29 85 = some (.iload 5, 2) := by decide +kernel
theorem r29_85 {E : Nat → Value} {d : Nat} {st : List Value} {h : gm_H} {Q : gm_R → gm_H → Prop} {a0 a1 a2 a3 a4 a6 a7 : Value} {x : Int32} : gm_W E d 29 85 [a0, a1, a2, a3, a4, .int x, a6, a7] st h Q ↔ gm_W E d 29 87 [a0, a1, a2, a3, a4, .int x, a6, a7] (.int x :: st) h Q := gw_loc m29 f29_85 rfl rfl
theorem f29_87 : gm_ft 29 87 = some (.ishr, 1) := by decide +kernel
theorem r29_87 {E : Nat → Value} {d : Nat} {st : List Value} {h : gm_H} {Q : gm_R → gm_H → Prop} {lv : List Value} {x y : Int32} : gm_W E d 29 87 lv (.int y :: .int x :: st) h Q ↔ gm_W E d 29 88 lv (.int (x >>> (y &&& 31)) :: st) h Q := gw_pure m29 f29_87 rfl
theorem f29_88 : gm_ft 29 88 = some (.iconst 1, 1) := by decide +kernel
theorem r29_88 {E : Nat → Value} {d : Nat} {st : List Value} {h : gm_H} {Q : gm_R → gm_H → Prop} {lv : List Value} : gm_W E d 29 88 lv st h Q ↔ gm_W E d 29 89 lv (.int (1 : Int32) :: st) h Q := gw_pure m29 f29_88 rfl
theorem f29_89 : gm_ft 29 89 = some (.iand, 1) := by decide +kernel
theorem r29_89 {E : Nat → Value} {d : Nat} {st : List Value} {h : gm_H} {Q : gm_R → gm_H → Prop} {lv : List Value} {x y : Int32} : gm_W E d 29 89 lv (.int y :: .int x :: st) h Q ↔ gm_W E d 29 90 lv (.int (x &&& y) :: st) h Q := gw_pure m29 f29_89 rfl
theorem f29_90 : gm_ft 29 90 = some (.ifCond .ne 10, 3) := by decide +kernel
theorem r29_90 {E : Nat → Value} {d : Nat} {st : List Value} {h : gm_H} {Q : gm_R → gm_H → Prop} {lv : List Value} {x : Int32} : gm_W E d 29 90 lv (.int x :: st) h Q ↔ (if x = 0 then gm_W E d 29 93 lv st h Q else gm_W E d 29 100 lv st h Q) := (gw_br m29 f29_90 rfl rfl rfl rfl).trans gw_ifn
theorem f29_93 : gm_ft 29 93 = some (.aload_n 0, 1) := by decide +kernel
theorem r29_93 {E : Nat → Value} {d : Nat} {st : List Value} {h : gm_H} {Q : gm_R → gm_H → Prop} {a1 a2 a3 a4 a5 a6 a7 : Value} {x : Nat} : gm_W E d 29 93 [.ref x, a1, a2, a3, a4, a5, a6, a7] st h Q ↔ gm_W E d 29 94 [.ref x, a1, a2, a3, a4, a5, a6, a7] (.ref x :: st) h Q := gw_loc m29 f29_93 rfl rfl
theorem r29_93n {E : Nat → Value} {d : Nat} {st : List Value} {h : gm_H} {Q : gm_R → gm_H → Prop} {a1 a2 a3 a4 a5 a6 a7 : Value}  : gm_W E d 29 93 [.null, a1, a2, a3, a4, a5, a6, a7] st h Q ↔ gm_W E d 29 94 [.null, a1, a2, a3, a4, a5, a6, a7] (.null :: st) h Q := gw_loc m29 f29_93 rfl rfl
theorem f29_94 : gm_ft 29 94 = some (.bipush (-6), 2) := by decide +kernel
theorem r29_94 {E : Nat → Value} {d : Nat} {st : List Value} {h : gm_H} {Q : gm_R → gm_H → Prop} {lv : List Value} : gm_W E d 29 94 lv st h Q ↔ gm_W E d 29 96 lv (.int (-6 : Int32) :: st) h Q := gw_pure m29 f29_94 rfl
theorem f29_96 : gm_ft 29 96 = some (.invokevirtual 151, 3) := by decide +kernel
theorem c29_96 {E : Nat → Value} {d : Nat} {st : List Value} {h : gm_H} {Q : gm_R → gm_H → Prop} {lv : List Value} {b0 : Int32} {a : Nat} {Qc : gm_R → gm_H → Prop} (hs : (st.map fun v => v.category).sum ≤ 8) (hr : gm_kd h a = 5) (hd : 1 ≤ d) (hc : gm_Ca E (d - 1) 10 [.ref a, .int b0] h Qc) (kn : ∀ (v9 : Option Value) (h9 : gm_H), Qc (.inl v9) h9 → gm_W E d 29 99 lv (v9.toList ++ st) h9 Q) (kx : ∀ (x9 : Nat) (h9 : gm_H), Qc (.inr x9) h9 → Q (.inr x9) h9) : gm_W E d 29 96 lv (.int b0 :: .ref a :: st) h Q := gw_call (gn_call m29 f29_96 rfl rfl rfl rfl rfl rfl rfl (gs_virt (bs := [.int b0]) (w := 844) (L := 2) rfl rfl rfl rfl hs (by simp [gm_en1]) hr (by decide)) (by decide)) m29 rfl rfl hd hc kn kx
theorem f29_99 : gm_ft 29 99 = some (.return_, 1) := by decide +kernel
theorem r29_99 {E : Nat → Value} {d : Nat} {h : gm_H} {Q : gm_R → gm_H → Prop} {lv : List Value} : gm_W E d 29 99 lv [] h Q ↔ Q (.inl none) h := gw_ret m29 f29_99 rfl rfl rfl rfl rfl rfl rfl rfl rfl
theorem f29_100 : gm_ft 29 100 = some (.iconst (-1), 1) := by decide +kernel
theorem r29_100 {E : Nat → Value} {d : Nat} {st : List Value} {h : gm_H} {Q : gm_R → gm_H → Prop} {lv : List Value} : gm_W E d 29 100 lv st h Q ↔ gm_W E d 29 101 lv (.int (-1 : Int32) :: st) h Q := gw_pure m29 f29_100 rfl
theorem f29_101 : gm_ft 29 101 = some (.istore 6, 2) := by decide +kernel
theorem r29_101 {E : Nat → Value} {d : Nat} {st : List Value} {h : gm_H} {Q : gm_R → gm_H → Prop} {a0 a1 a2 a3 a4 a5 a6 a7 : Value} {x : Int32} : gm_W E d 29 101 [a0, a1, a2, a3, a4, a5, a6, a7] (.int x :: st) h Q ↔ gm_W E d 29 103 [a0, a1, a2, a3, a4, gm_k a5, .int x, a7] st h Q := gw_loc m29 f29_101 rfl rfl
theorem f29_103 : gm_ft 29 103 = some (.iconst 0, 1) := by decide +kernel
theorem r29_103 {E : Nat → Value} {d : Nat} {st : List Value} {h : gm_H} {Q : gm_R → gm_H → Prop} {lv : List Value} : gm_W E d 29 103 lv st h Q ↔ gm_W E d 29 104 lv (.int (0 : Int32) :: st) h Q := gw_pure m29 f29_103 rfl
theorem f29_104 : gm_ft 29 104 = some (.istore 7, 2) := by decide +kernel
theorem r29_104 {E : Nat → Value} {d : Nat} {st : List Value} {h : gm_H} {Q : gm_R → gm_H → Prop} {a0 a1 a2 a3 a4 a5 a6 a7 : Value} {x : Int32} : gm_W E d 29 104 [a0, a1, a2, a3, a4, a5, a6, a7] (.int x :: st) h Q ↔ gm_W E d 29 106 [a0, a1, a2, a3, a4, a5, gm_k a6, .int x] st h Q := gw_loc m29 f29_104 rfl rfl
theorem f29_106 : gm_ft 29 106 = some (.iload 7, 2) := by decide +kernel
theorem r29_106 {E : Nat → Value} {d : Nat} {st : List Value} {h : gm_H} {Q : gm_R → gm_H → Prop} {a0 a1 a2 a3 a4 a5 a6 : Value} {x : Int32} : gm_W E d 29 106 [a0, a1, a2, a3, a4, a5, a6, .int x] st h Q ↔ gm_W E d 29 108 [a0, a1, a2, a3, a4, a5, a6, .int x] (.int x :: st) h Q := gw_loc m29 f29_106 rfl rfl
theorem f29_108 : gm_ft 29 108 = some (.aload_n 0, 1) := by decide +kernel
theorem r29_108 {E : Nat → Value} {d : Nat} {st : List Value} {h : gm_H} {Q : gm_R → gm_H → Prop} {a1 a2 a3 a4 a5 a6 a7 : Value} {x : Nat} : gm_W E d 29 108 [.ref x, a1, a2, a3, a4, a5, a6, a7] st h Q ↔ gm_W E d 29 109 [.ref x, a1, a2, a3, a4, a5, a6, a7] (.ref x :: st) h Q := gw_loc m29 f29_108 rfl rfl
theorem r29_108n {E : Nat → Value} {d : Nat} {st : List Value} {h : gm_H} {Q : gm_R → gm_H → Prop} {a1 a2 a3 a4 a5 a6 a7 : Value}  : gm_W E d 29 108 [.null, a1, a2, a3, a4, a5, a6, a7] st h Q ↔ gm_W E d 29 109 [.null, a1, a2, a3, a4, a5, a6, a7] (.null :: st) h Q := gw_loc m29 f29_108 rfl rfl
theorem f29_109 : gm_ft 29 109 = some (.getfield 139, 3) := by decide +kernel
theorem r29_109 {E : Nat → Value} {d : Nat} {st : List Value} {h : gm_H} {Q : gm_R → gm_H → Prop} {lv : List Value} {a : Nat} (hk : gm_kd h a = 5) : gm_W E d 29 109 lv (.ref a :: st) h Q ↔ gm_W E d 29 112 lv (gm_fv h a 23 :: st) h Q := gw_rd m29 f29_109 rfl rfl rfl rfl (gs_get k5_139 hk (by decide))
theorem f29_112 : gm_ft 29 112 = some (.if_icmp .ge 52, 3) := by decide +kernel
theorem r29_112 {E : Nat → Value} {d : Nat} {st : List Value} {h : gm_H} {Q : gm_R → gm_H → Prop} {lv : List Value} {x y : Int32} : gm_W E d 29 112 lv (.int y :: .int x :: st) h Q ↔ (if y ≤ x then gm_W E d 29 164 lv st h Q else gm_W E d 29 115 lv st h Q) := (gw_br m29 f29_112 rfl rfl rfl rfl).trans gw_if
theorem f29_115 : gm_ft 29 115 = some (.iload 6, 2) := by decide +kernel
theorem r29_115 {E : Nat → Value} {d : Nat} {st : List Value} {h : gm_H} {Q : gm_R → gm_H → Prop} {a0 a1 a2 a3 a4 a5 a7 : Value} {x : Int32} : gm_W E d 29 115 [a0, a1, a2, a3, a4, a5, .int x, a7] st h Q ↔ gm_W E d 29 117 [a0, a1, a2, a3, a4, a5, .int x, a7] (.int x :: st) h Q := gw_loc m29 f29_115 rfl rfl
theorem f29_117 : gm_ft 29 117 = some (.ifCond .ge 41, 3) := by decide +kernel
theorem r29_117 {E : Nat → Value} {d : Nat} {st : List Value} {h : gm_H} {Q : gm_R → gm_H → Prop} {lv : List Value} {x : Int32} : gm_W E d 29 117 lv (.int x :: st) h Q ↔ (if 0 ≤ x then gm_W E d 29 158 lv st h Q else gm_W E d 29 120 lv st h Q) := (gw_br m29 f29_117 rfl rfl rfl rfl).trans gw_if
theorem f29_120 : gm_ft 29 120 = some (.aload_n 0, 1) := by decide +kernel
theorem r29_120 {E : Nat → Value} {d : Nat} {st : List Value} {h : gm_H} {Q : gm_R → gm_H → Prop} {a1 a2 a3 a4 a5 a6 a7 : Value} {x : Nat} : gm_W E d 29 120 [.ref x, a1, a2, a3, a4, a5, a6, a7] st h Q ↔ gm_W E d 29 121 [.ref x, a1, a2, a3, a4, a5, a6, a7] (.ref x :: st) h Q := gw_loc m29 f29_120 rfl rfl
theorem r29_120n {E : Nat → Value} {d : Nat} {st : List Value} {h : gm_H} {Q : gm_R → gm_H → Prop} {a1 a2 a3 a4 a5 a6 a7 : Value}  : gm_W E d 29 120 [.null, a1, a2, a3, a4, a5, a6, a7] st h Q ↔ gm_W E d 29 121 [.null, a1, a2, a3, a4, a5, a6, a7] (.null :: st) h Q := gw_loc m29 f29_120 rfl rfl
theorem f29_121 : gm_ft 29 121 = some (.getfield 39, 3) := by decide +kernel
theorem r29_121 {E : Nat → Value} {d : Nat} {st : List Value} {h : gm_H} {Q : gm_R → gm_H → Prop} {lv : List Value} {a : Nat} (hk : gm_kd h a = 5) : gm_W E d 29 121 lv (.ref a :: st) h Q ↔ gm_W E d 29 124 lv (gm_fv h a 18 :: st) h Q := gw_rd m29 f29_121 rfl rfl rfl rfl (gs_get k5_39 hk (by decide))
theorem f29_124 : gm_ft 29 124 = some (.iload 7, 2) := by decide +kernel
theorem r29_124 {E : Nat → Value} {d : Nat} {st : List Value} {h : gm_H} {Q : gm_R → gm_H → Prop} {a0 a1 a2 a3 a4 a5 a6 : Value} {x : Int32} : gm_W E d 29 124 [a0, a1, a2, a3, a4, a5, a6, .int x] st h Q ↔ gm_W E d 29 126 [a0, a1, a2, a3, a4, a5, a6, .int x] (.int x :: st) h Q := gw_loc m29 f29_124 rfl rfl
theorem f29_126 : gm_ft 29 126 = some (.iaload, 1) := by decide +kernel
theorem r29_126 {E : Nat → Value} {d : Nat} {st : List Value} {h : gm_H} {Q : gm_R → gm_H → Prop} {lv : List Value} {a j : Nat} (hk : gm_kd h a % 100 = 0 ∧ 100 ≤ gm_kd h a ∧ gm_kd h a < 900) (hj : j < gm_ln h a) (hl : gm_ln h a < 2 ^ 31) : gm_W E d 29 126 lv (.int (nI j) :: .ref a :: st) h Q ↔ gm_W E d 29 127 lv (gm_fv h a j :: st) h Q := gw_rd m29 f29_126 rfl rfl rfl rfl (gs_ld (P := fun t => t == 0) hk.2 (by have := hk.1; simp [this] <;> omega) hj hl)
theorem f29_127 : gm_ft 29 127 = some (.iconst 4, 1) := by decide +kernel
theorem r29_127 {E : Nat → Value} {d : Nat} {st : List Value} {h : gm_H} {Q : gm_R → gm_H → Prop} {lv : List Value} : gm_W E d 29 127 lv st h Q ↔ gm_W E d 29 128 lv (.int (4 : Int32) :: st) h Q := gw_pure m29 f29_127 rfl
theorem f29_128 : gm_ft 29 128 = some (.if_icmp .ne 30, 3) := by decide +kernel
theorem r29_128 {E : Nat → Value} {d : Nat} {st : List Value} {h : gm_H} {Q : gm_R → gm_H → Prop} {lv : List Value} {x y : Int32} : gm_W E d 29 128 lv (.int y :: .int x :: st) h Q ↔ (if x = y then gm_W E d 29 131 lv st h Q else gm_W E d 29 158 lv st h Q) := (gw_br m29 f29_128 rfl rfl rfl rfl).trans gw_ifn
theorem f29_131 : gm_ft 29 131 = some (.aload_n 0, 1) := by decide +kernel
theorem r29_131 {E : Nat → Value} {d : Nat} {st : List Value} {h : gm_H} {Q : gm_R → gm_H → Prop} {a1 a2 a3 a4 a5 a6 a7 : Value} {x : Nat} : gm_W E d 29 131 [.ref x, a1, a2, a3, a4, a5, a6, a7] st h Q ↔ gm_W E d 29 132 [.ref x, a1, a2, a3, a4, a5, a6, a7] (.ref x :: st) h Q := gw_loc m29 f29_131 rfl rfl
theorem r29_131n {E : Nat → Value} {d : Nat} {st : List Value} {h : gm_H} {Q : gm_R → gm_H → Prop} {a1 a2 a3 a4 a5 a6 a7 : Value}  : gm_W E d 29 131 [.null, a1, a2, a3, a4, a5, a6, a7] st h Q ↔ gm_W E d 29 132 [.null, a1, a2, a3, a4, a5, a6, a7] (.null :: st) h Q := gw_loc m29 f29_131 rfl rfl
theorem f29_132 : gm_ft 29 132 = some (.getfield 42, 3) := by decide +kernel
theorem r29_132 {E : Nat → Value} {d : Nat} {st : List Value} {h : gm_H} {Q : gm_R → gm_H → Prop} {lv : List Value} {a : Nat} (hk : gm_kd h a = 5) : gm_W E d 29 132 lv (.ref a :: st) h Q ↔ gm_W E d 29 135 lv (gm_fv h a 19 :: st) h Q := gw_rd m29 f29_132 rfl rfl rfl rfl (gs_get k5_42 hk (by decide))
theorem f29_135 : gm_ft 29 135 = some (.iload 7, 2) := by decide +kernel
theorem r29_135 {E : Nat → Value} {d : Nat} {st : List Value} {h : gm_H} {Q : gm_R → gm_H → Prop} {a0 a1 a2 a3 a4 a5 a6 : Value} {x : Int32} : gm_W E d 29 135 [a0, a1, a2, a3, a4, a5, a6, .int x] st h Q ↔ gm_W E d 29 137 [a0, a1, a2, a3, a4, a5, a6, .int x] (.int x :: st) h Q := gw_loc m29 f29_135 rfl rfl
theorem f29_137 : gm_ft 29 137 = some (.iaload, 1) := by decide +kernel
theorem r29_137 {E : Nat → Value} {d : Nat} {st : List Value} {h : gm_H} {Q : gm_R → gm_H → Prop} {lv : List Value} {a j : Nat} (hk : gm_kd h a % 100 = 0 ∧ 100 ≤ gm_kd h a ∧ gm_kd h a < 900) (hj : j < gm_ln h a) (hl : gm_ln h a < 2 ^ 31) : gm_W E d 29 137 lv (.int (nI j) :: .ref a :: st) h Q ↔ gm_W E d 29 138 lv (gm_fv h a j :: st) h Q := gw_rd m29 f29_137 rfl rfl rfl rfl (gs_ld (P := fun t => t == 0) hk.2 (by have := hk.1; simp [this] <;> omega) hj hl)
theorem f29_138 : gm_ft 29 138 = some (.iload_n 3, 1) := by decide +kernel
theorem r29_138 {E : Nat → Value} {d : Nat} {st : List Value} {h : gm_H} {Q : gm_R → gm_H → Prop} {a0 a1 a2 a4 a5 a6 a7 : Value} {x : Int32} : gm_W E d 29 138 [a0, a1, a2, .int x, a4, a5, a6, a7] st h Q ↔ gm_W E d 29 139 [a0, a1, a2, .int x, a4, a5, a6, a7] (.int x :: st) h Q := gw_loc m29 f29_138 rfl rfl
theorem f29_139 : gm_ft 29 139 = some (.if_icmp .ne 19, 3) := by decide +kernel
theorem r29_139 {E : Nat → Value} {d : Nat} {st : List Value} {h : gm_H} {Q : gm_R → gm_H → Prop} {lv : List Value} {x y : Int32} : gm_W E d 29 139 lv (.int y :: .int x :: st) h Q ↔ (if x = y then gm_W E d 29 142 lv st h Q else gm_W E d 29 158 lv st h Q) := (gw_br m29 f29_139 rfl rfl rfl rfl).trans gw_ifn
theorem f29_142 : gm_ft 29 142 = some (.aload_n 0, 1) := by decide +kernel
theorem r29_142 {E : Nat → Value} {d : Nat} {st : List Value} {h : gm_H} {Q : gm_R → gm_H → Prop} {a1 a2 a3 a4 a5 a6 a7 : Value} {x : Nat} : gm_W E d 29 142 [.ref x, a1, a2, a3, a4, a5, a6, a7] st h Q ↔ gm_W E d 29 143 [.ref x, a1, a2, a3, a4, a5, a6, a7] (.ref x :: st) h Q := gw_loc m29 f29_142 rfl rfl
theorem r29_142n {E : Nat → Value} {d : Nat} {st : List Value} {h : gm_H} {Q : gm_R → gm_H → Prop} {a1 a2 a3 a4 a5 a6 a7 : Value}  : gm_W E d 29 142 [.null, a1, a2, a3, a4, a5, a6, a7] st h Q ↔ gm_W E d 29 143 [.null, a1, a2, a3, a4, a5, a6, a7] (.null :: st) h Q := gw_loc m29 f29_142 rfl rfl
theorem f29_143 : gm_ft 29 143 = some (.getfield 45, 3) := by decide +kernel
theorem r29_143 {E : Nat → Value} {d : Nat} {st : List Value} {h : gm_H} {Q : gm_R → gm_H → Prop} {lv : List Value} {a : Nat} (hk : gm_kd h a = 5) : gm_W E d 29 143 lv (.ref a :: st) h Q ↔ gm_W E d 29 146 lv (gm_fv h a 20 :: st) h Q := gw_rd m29 f29_143 rfl rfl rfl rfl (gs_get k5_45 hk (by decide))
theorem f29_146 : gm_ft 29 146 = some (.iload 7, 2) := by decide +kernel
theorem r29_146 {E : Nat → Value} {d : Nat} {st : List Value} {h : gm_H} {Q : gm_R → gm_H → Prop} {a0 a1 a2 a3 a4 a5 a6 : Value} {x : Int32} : gm_W E d 29 146 [a0, a1, a2, a3, a4, a5, a6, .int x] st h Q ↔ gm_W E d 29 148 [a0, a1, a2, a3, a4, a5, a6, .int x] (.int x :: st) h Q := gw_loc m29 f29_146 rfl rfl
theorem f29_148 : gm_ft 29 148 = some (.iaload, 1) := by decide +kernel
theorem r29_148 {E : Nat → Value} {d : Nat} {st : List Value} {h : gm_H} {Q : gm_R → gm_H → Prop} {lv : List Value} {a j : Nat} (hk : gm_kd h a % 100 = 0 ∧ 100 ≤ gm_kd h a ∧ gm_kd h a < 900) (hj : j < gm_ln h a) (hl : gm_ln h a < 2 ^ 31) : gm_W E d 29 148 lv (.int (nI j) :: .ref a :: st) h Q ↔ gm_W E d 29 149 lv (gm_fv h a j :: st) h Q := gw_rd m29 f29_148 rfl rfl rfl rfl (gs_ld (P := fun t => t == 0) hk.2 (by have := hk.1; simp [this] <;> omega) hj hl)
theorem f29_149 : gm_ft 29 149 = some (.iload 5, 2) := by decide +kernel
theorem r29_149 {E : Nat → Value} {d : Nat} {st : List Value} {h : gm_H} {Q : gm_R → gm_H → Prop} {a0 a1 a2 a3 a4 a6 a7 : Value} {x : Int32} : gm_W E d 29 149 [a0, a1, a2, a3, a4, .int x, a6, a7] st h Q ↔ gm_W E d 29 151 [a0, a1, a2, a3, a4, .int x, a6, a7] (.int x :: st) h Q := gw_loc m29 f29_149 rfl rfl
theorem f29_151 : gm_ft 29 151 = some (.if_icmp .ne 7, 3) := by decide +kernel
theorem r29_151 {E : Nat → Value} {d : Nat} {st : List Value} {h : gm_H} {Q : gm_R → gm_H → Prop} {lv : List Value} {x y : Int32} : gm_W E d 29 151 lv (.int y :: .int x :: st) h Q ↔ (if x = y then gm_W E d 29 154 lv st h Q else gm_W E d 29 158 lv st h Q) := (gw_br m29 f29_151 rfl rfl rfl rfl).trans gw_ifn
theorem f29_154 : gm_ft 29 154 = some (.iload 7, 2) := by decide +kernel
theorem r29_154 {E : Nat → Value} {d : Nat} {st : List Value} {h : gm_H} {Q : gm_R → gm_H → Prop} {a0 a1 a2 a3 a4 a5 a6 : Value} {x : Int32} : gm_W E d 29 154 [a0, a1, a2, a3, a4, a5, a6, .int x] st h Q ↔ gm_W E d 29 156 [a0, a1, a2, a3, a4, a5, a6, .int x] (.int x :: st) h Q := gw_loc m29 f29_154 rfl rfl
theorem f29_156 : gm_ft 29 156 = some (.istore 6, 2) := by decide +kernel
theorem r29_156 {E : Nat → Value} {d : Nat} {st : List Value} {h : gm_H} {Q : gm_R → gm_H → Prop} {a0 a1 a2 a3 a4 a5 a6 a7 : Value} {x : Int32} : gm_W E d 29 156 [a0, a1, a2, a3, a4, a5, a6, a7] (.int x :: st) h Q ↔ gm_W E d 29 158 [a0, a1, a2, a3, a4, gm_k a5, .int x, a7] st h Q := gw_loc m29 f29_156 rfl rfl
theorem f29_158 : gm_ft 29 158 = some (.iinc 7 1, 3) := by decide +kernel
theorem r29_158 {E : Nat → Value} {d : Nat} {st : List Value} {h : gm_H} {Q : gm_R → gm_H → Prop} {a0 a1 a2 a3 a4 a5 a6 : Value} {x : Int32} : gm_W E d 29 158 [a0, a1, a2, a3, a4, a5, a6, .int x] st h Q ↔ gm_W E d 29 161 [a0, a1, a2, a3, a4, a5, gm_k a6, .int (x + (1 : Int32))] st h Q := gw_loc m29 f29_158 rfl rfl
theorem f29_161 : gm_ft 29 161 = some (.goto (-55), 3) := by decide +kernel
theorem r29_161 {E : Nat → Value} {d : Nat} {st : List Value} {h : gm_H} {Q : gm_R → gm_H → Prop} {lv : List Value} : gm_W E d 29 161 lv st h Q ↔ gm_W E d 29 106 lv st h Q := gw_brT m29 f29_161 rfl rfl rfl rfl
theorem f29_164 : gm_ft 29 164 = some (.iload 6, 2) := by decide +kernel
theorem r29_164 {E : Nat → Value} {d : Nat} {st : List Value} {h : gm_H} {Q : gm_R → gm_H → Prop} {a0 a1 a2 a3 a4 a5 a7 : Value} {x : Int32} : gm_W E d 29 164 [a0, a1, a2, a3, a4, a5, .int x, a7] st h Q ↔ gm_W E d 29 166 [a0, a1, a2, a3, a4, a5, .int x, a7] (.int x :: st) h Q := gw_loc m29 f29_164 rfl rfl
theorem f29_166 : gm_ft 29 166 = some (.ifCond .ge 14, 3) := by decide +kernel
theorem r29_166 {E : Nat → Value} {d : Nat} {st : List Value} {h : gm_H} {Q : gm_R → gm_H → Prop} {lv : List Value} {x : Int32} : gm_W E d 29 166 lv (.int x :: st) h Q ↔ (if 0 ≤ x then gm_W E d 29 180 lv st h Q else gm_W E d 29 169 lv st h Q) := (gw_br m29 f29_166 rfl rfl rfl rfl).trans gw_if
theorem f29_169 : gm_ft 29 169 = some (.aload_n 0, 1) := by decide +kernel
theorem r29_169 {E : Nat → Value} {d : Nat} {st : List Value} {h : gm_H} {Q : gm_R → gm_H → Prop} {a1 a2 a3 a4 a5 a6 a7 : Value} {x : Nat} : gm_W E d 29 169 [.ref x, a1, a2, a3, a4, a5, a6, a7] st h Q ↔ gm_W E d 29 170 [.ref x, a1, a2, a3, a4, a5, a6, a7] (.ref x :: st) h Q := gw_loc m29 f29_169 rfl rfl
theorem r29_169n {E : Nat → Value} {d : Nat} {st : List Value} {h : gm_H} {Q : gm_R → gm_H → Prop} {a1 a2 a3 a4 a5 a6 a7 : Value}  : gm_W E d 29 169 [.null, a1, a2, a3, a4, a5, a6, a7] st h Q ↔ gm_W E d 29 170 [.null, a1, a2, a3, a4, a5, a6, a7] (.null :: st) h Q := gw_loc m29 f29_169 rfl rfl
theorem f29_170 : gm_ft 29 170 = some (.iconst 4, 1) := by decide +kernel
theorem r29_170 {E : Nat → Value} {d : Nat} {st : List Value} {h : gm_H} {Q : gm_R → gm_H → Prop} {lv : List Value} : gm_W E d 29 170 lv st h Q ↔ gm_W E d 29 171 lv (.int (4 : Int32) :: st) h Q := gw_pure m29 f29_170 rfl
theorem f29_171 : gm_ft 29 171 = some (.iload_n 3, 1) := by decide +kernel
theorem r29_171 {E : Nat → Value} {d : Nat} {st : List Value} {h : gm_H} {Q : gm_R → gm_H → Prop} {a0 a1 a2 a4 a5 a6 a7 : Value} {x : Int32} : gm_W E d 29 171 [a0, a1, a2, .int x, a4, a5, a6, a7] st h Q ↔ gm_W E d 29 172 [a0, a1, a2, .int x, a4, a5, a6, a7] (.int x :: st) h Q := gw_loc m29 f29_171 rfl rfl
theorem f29_172 : gm_ft 29 172 = some (.iload 5, 2) := by decide +kernel
theorem r29_172 {E : Nat → Value} {d : Nat} {st : List Value} {h : gm_H} {Q : gm_R → gm_H → Prop} {a0 a1 a2 a3 a4 a6 a7 : Value} {x : Int32} : gm_W E d 29 172 [a0, a1, a2, a3, a4, .int x, a6, a7] st h Q ↔ gm_W E d 29 174 [a0, a1, a2, a3, a4, .int x, a6, a7] (.int x :: st) h Q := gw_loc m29 f29_172 rfl rfl
theorem f29_174 : gm_ft 29 174 = some (.iconst 0, 1) := by decide +kernel
theorem r29_174 {E : Nat → Value} {d : Nat} {st : List Value} {h : gm_H} {Q : gm_R → gm_H → Prop} {lv : List Value} : gm_W E d 29 174 lv st h Q ↔ gm_W E d 29 175 lv (.int (0 : Int32) :: st) h Q := gw_pure m29 f29_174 rfl
theorem f29_175 : gm_ft 29 175 = some (.invokevirtual 196, 3) := by decide +kernel
theorem c29_175 {E : Nat → Value} {d : Nat} {st : List Value} {h : gm_H} {Q : gm_R → gm_H → Prop} {lv : List Value} {b0 : Int32} {b1 : Int32} {b2 : Int32} {b3 : Int32} {a : Nat} {Qc : gm_R → gm_H → Prop} (hs : (st.map fun v => v.category).sum ≤ 8) (hr : gm_kd h a = 5) (hd : 1 ≤ d) (hc : gm_Ca E (d - 1) 18 [.ref a, .int b0, .int b1, .int b2, .int b3] h Qc) (kn : ∀ (v9 : Option Value) (h9 : gm_H), Qc (.inl v9) h9 → gm_W E d 29 178 lv (v9.toList ++ st) h9 Q) (kx : ∀ (x9 : Nat) (h9 : gm_H), Qc (.inr x9) h9 → Q (.inr x9) h9) : gm_W E d 29 175 lv (.int b3 :: .int b2 :: .int b1 :: .int b0 :: .ref a :: st) h Q := gw_call (gn_call m29 f29_175 rfl rfl rfl rfl rfl rfl rfl (gs_virt (bs := [.int b3, .int b2, .int b1, .int b0]) (w := 893) (L := 5) rfl rfl rfl rfl hs (by simp [gm_en1]) hr (by decide)) (by decide)) m29 rfl rfl hd hc kn kx
theorem f29_178 : gm_ft 29 178 = some (.istore 6, 2) := by decide +kernel
theorem r29_178 {E : Nat → Value} {d : Nat} {st : List Value} {h : gm_H} {Q : gm_R → gm_H → Prop} {a0 a1 a2 a3 a4 a5 a6 a7 : Value} {x : Int32} : gm_W E d 29 178 [a0, a1, a2, a3, a4, a5, a6, a7] (.int x :: st) h Q ↔ gm_W E d 29 180 [a0, a1, a2, a3, a4, gm_k a5, .int x, a7] st h Q := gw_loc m29 f29_178 rfl rfl
theorem f29_180 : gm_ft 29 180 = some (.aload_n 0, 1) := by decide +kernel
theorem r29_180 {E : Nat → Value} {d : Nat} {st : List Value} {h : gm_H} {Q : gm_R → gm_H → Prop} {a1 a2 a3 a4 a5 a6 a7 : Value} {x : Nat} : gm_W E d 29 180 [.ref x, a1, a2, a3, a4, a5, a6, a7] st h Q ↔ gm_W E d 29 181 [.ref x, a1, a2, a3, a4, a5, a6, a7] (.ref x :: st) h Q := gw_loc m29 f29_180 rfl rfl
theorem r29_180n {E : Nat → Value} {d : Nat} {st : List Value} {h : gm_H} {Q : gm_R → gm_H → Prop} {a1 a2 a3 a4 a5 a6 a7 : Value}  : gm_W E d 29 180 [.null, a1, a2, a3, a4, a5, a6, a7] st h Q ↔ gm_W E d 29 181 [.null, a1, a2, a3, a4, a5, a6, a7] (.null :: st) h Q := gw_loc m29 f29_180 rfl rfl
theorem f29_181 : gm_ft 29 181 = some (.getfield 57, 3) := by decide +kernel
theorem r29_181 {E : Nat → Value} {d : Nat} {st : List Value} {h : gm_H} {Q : gm_R → gm_H → Prop} {lv : List Value} {a : Nat} (hk : gm_kd h a = 5) : gm_W E d 29 181 lv (.ref a :: st) h Q ↔ gm_W E d 29 184 lv (gm_fv h a 26 :: st) h Q := gw_rd m29 f29_181 rfl rfl rfl rfl (gs_get k5_57 hk (by decide))
theorem f29_184 : gm_ft 29 184 = some (.aload_n 0, 1) := by decide +kernel
theorem r29_184 {E : Nat → Value} {d : Nat} {st : List Value} {h : gm_H} {Q : gm_R → gm_H → Prop} {a1 a2 a3 a4 a5 a6 a7 : Value} {x : Nat} : gm_W E d 29 184 [.ref x, a1, a2, a3, a4, a5, a6, a7] st h Q ↔ gm_W E d 29 185 [.ref x, a1, a2, a3, a4, a5, a6, a7] (.ref x :: st) h Q := gw_loc m29 f29_184 rfl rfl
theorem r29_184n {E : Nat → Value} {d : Nat} {st : List Value} {h : gm_H} {Q : gm_R → gm_H → Prop} {a1 a2 a3 a4 a5 a6 a7 : Value}  : gm_W E d 29 184 [.null, a1, a2, a3, a4, a5, a6, a7] st h Q ↔ gm_W E d 29 185 [.null, a1, a2, a3, a4, a5, a6, a7] (.null :: st) h Q := gw_loc m29 f29_184 rfl rfl
theorem f29_185 : gm_ft 29 185 = some (.getfield 102, 3) := by decide +kernel
theorem r29_185 {E : Nat → Value} {d : Nat} {st : List Value} {h : gm_H} {Q : gm_R → gm_H → Prop} {lv : List Value} {a : Nat} (hk : gm_kd h a = 5) : gm_W E d 29 185 lv (.ref a :: st) h Q ↔ gm_W E d 29 188 lv (gm_fv h a 43 :: st) h Q := gw_rd m29 f29_185 rfl rfl rfl rfl (gs_get k5_102 hk (by decide))
theorem f29_188 : gm_ft 29 188 = some (.iload_n 1, 1) := by decide +kernel
theorem r29_188 {E : Nat → Value} {d : Nat} {st : List Value} {h : gm_H} {Q : gm_R → gm_H → Prop} {a0 a2 a3 a4 a5 a6 a7 : Value} {x : Int32} : gm_W E d 29 188 [a0, .int x, a2, a3, a4, a5, a6, a7] st h Q ↔ gm_W E d 29 189 [a0, .int x, a2, a3, a4, a5, a6, a7] (.int x :: st) h Q := gw_loc m29 f29_188 rfl rfl
theorem f29_189 : gm_ft 29 189 = some (.iaload, 1) := by decide +kernel
theorem r29_189 {E : Nat → Value} {d : Nat} {st : List Value} {h : gm_H} {Q : gm_R → gm_H → Prop} {lv : List Value} {a j : Nat} (hk : gm_kd h a % 100 = 0 ∧ 100 ≤ gm_kd h a ∧ gm_kd h a < 900) (hj : j < gm_ln h a) (hl : gm_ln h a < 2 ^ 31) : gm_W E d 29 189 lv (.int (nI j) :: .ref a :: st) h Q ↔ gm_W E d 29 190 lv (gm_fv h a j :: st) h Q := gw_rd m29 f29_189 rfl rfl rfl rfl (gs_ld (P := fun t => t == 0) hk.2 (by have := hk.1; simp [this] <;> omega) hj hl)
theorem f29_190 : gm_ft 29 190 = some (.iconst 2, 1) := by decide +kernel
theorem r29_190 {E : Nat → Value} {d : Nat} {st : List Value} {h : gm_H} {Q : gm_R → gm_H → Prop} {lv : List Value} : gm_W E d 29 190 lv st h Q ↔ gm_W E d 29 191 lv (.int (2 : Int32) :: st) h Q := gw_pure m29 f29_190 rfl
theorem f29_191 : gm_ft 29 191 = some (.iastore, 1) := by decide +kernel
theorem r29_191 {E : Nat → Value} {d : Nat} {st : List Value} {h : gm_H} {Q : gm_R → gm_H → Prop} {lv : List Value} {a j : Nat} {x : Int32} (hk : gm_kd h a = 200) (hj : j < gm_ln h a) (hl : gm_ln h a < 2 ^ 31) : gm_W E d 29 191 lv (.int x :: .int (nI j) :: .ref a :: st) h Q ↔ gm_W E d 29 192 lv st (gm_sf h a j (.int x)) Q := gw_wr m29 f29_191 rfl rfl rfl rfl rfl (gs_st hk (by decide) hj hl)
theorem f29_192 : gm_ft 29 192 = some (.aload_n 0, 1) := by decide +kernel
theorem r29_192 {E : Nat → Value} {d : Nat} {st : List Value} {h : gm_H} {Q : gm_R → gm_H → Prop} {a1 a2 a3 a4 a5 a6 a7 : Value} {x : Nat} : gm_W E d 29 192 [.ref x, a1, a2, a3, a4, a5, a6, a7] st h Q ↔ gm_W E d 29 193 [.ref x, a1, a2, a3, a4, a5, a6, a7] (.ref x :: st) h Q := gw_loc m29 f29_192 rfl rfl
theorem r29_192n {E : Nat → Value} {d : Nat} {st : List Value} {h : gm_H} {Q : gm_R → gm_H → Prop} {a1 a2 a3 a4 a5 a6 a7 : Value}  : gm_W E d 29 192 [.null, a1, a2, a3, a4, a5, a6, a7] st h Q ↔ gm_W E d 29 193 [.null, a1, a2, a3, a4, a5, a6, a7] (.null :: st) h Q := gw_loc m29 f29_192 rfl rfl
theorem f29_193 : gm_ft 29 193 = some (.getfield 60, 3) := by decide +kernel
theorem r29_193 {E : Nat → Value} {d : Nat} {st : List Value} {h : gm_H} {Q : gm_R → gm_H → Prop} {lv : List Value} {a : Nat} (hk : gm_kd h a = 5) : gm_W E d 29 193 lv (.ref a :: st) h Q ↔ gm_W E d 29 196 lv (gm_fv h a 27 :: st) h Q := gw_rd m29 f29_193 rfl rfl rfl rfl (gs_get k5_60 hk (by decide))
theorem f29_196 : gm_ft 29 196 = some (.aload_n 0, 1) := by decide +kernel
theorem r29_196 {E : Nat → Value} {d : Nat} {st : List Value} {h : gm_H} {Q : gm_R → gm_H → Prop} {a1 a2 a3 a4 a5 a6 a7 : Value} {x : Nat} : gm_W E d 29 196 [.ref x, a1, a2, a3, a4, a5, a6, a7] st h Q ↔ gm_W E d 29 197 [.ref x, a1, a2, a3, a4, a5, a6, a7] (.ref x :: st) h Q := gw_loc m29 f29_196 rfl rfl
theorem r29_196n {E : Nat → Value} {d : Nat} {st : List Value} {h : gm_H} {Q : gm_R → gm_H → Prop} {a1 a2 a3 a4 a5 a6 a7 : Value}  : gm_W E d 29 196 [.null, a1, a2, a3, a4, a5, a6, a7] st h Q ↔ gm_W E d 29 197 [.null, a1, a2, a3, a4, a5, a6, a7] (.null :: st) h Q := gw_loc m29 f29_196 rfl rfl
theorem f29_197 : gm_ft 29 197 = some (.getfield 102, 3) := by decide +kernel
theorem r29_197 {E : Nat → Value} {d : Nat} {st : List Value} {h : gm_H} {Q : gm_R → gm_H → Prop} {lv : List Value} {a : Nat} (hk : gm_kd h a = 5) : gm_W E d 29 197 lv (.ref a :: st) h Q ↔ gm_W E d 29 200 lv (gm_fv h a 43 :: st) h Q := gw_rd m29 f29_197 rfl rfl rfl rfl (gs_get k5_102 hk (by decide))
theorem f29_200 : gm_ft 29 200 = some (.iload_n 1, 1) := by decide +kernel
theorem r29_200 {E : Nat → Value} {d : Nat} {st : List Value} {h : gm_H} {Q : gm_R → gm_H → Prop} {a0 a2 a3 a4 a5 a6 a7 : Value} {x : Int32} : gm_W E d 29 200 [a0, .int x, a2, a3, a4, a5, a6, a7] st h Q ↔ gm_W E d 29 201 [a0, .int x, a2, a3, a4, a5, a6, a7] (.int x :: st) h Q := gw_loc m29 f29_200 rfl rfl
theorem f29_201 : gm_ft 29 201 = some (.iaload, 1) := by decide +kernel
theorem r29_201 {E : Nat → Value} {d : Nat} {st : List Value} {h : gm_H} {Q : gm_R → gm_H → Prop} {lv : List Value} {a j : Nat} (hk : gm_kd h a % 100 = 0 ∧ 100 ≤ gm_kd h a ∧ gm_kd h a < 900) (hj : j < gm_ln h a) (hl : gm_ln h a < 2 ^ 31) : gm_W E d 29 201 lv (.int (nI j) :: .ref a :: st) h Q ↔ gm_W E d 29 202 lv (gm_fv h a j :: st) h Q := gw_rd m29 f29_201 rfl rfl rfl rfl (gs_ld (P := fun t => t == 0) hk.2 (by have := hk.1; simp [this] <;> omega) hj hl)
theorem f29_202 : gm_ft 29 202 = some (.iload 6, 2) := by decide +kernel
theorem r29_202 {E : Nat → Value} {d : Nat} {st : List Value} {h : gm_H} {Q : gm_R → gm_H → Prop} {a0 a1 a2 a3 a4 a5 a7 : Value} {x : Int32} : gm_W E d 29 202 [a0, a1, a2, a3, a4, a5, .int x, a7] st h Q ↔ gm_W E d 29 204 [a0, a1, a2, a3, a4, a5, .int x, a7] (.int x :: st) h Q := gw_loc m29 f29_202 rfl rfl
theorem f29_204 : gm_ft 29 204 = some (.iastore, 1) := by decide +kernel
theorem r29_204 {E : Nat → Value} {d : Nat} {st : List Value} {h : gm_H} {Q : gm_R → gm_H → Prop} {lv : List Value} {a j : Nat} {x : Int32} (hk : gm_kd h a = 200) (hj : j < gm_ln h a) (hl : gm_ln h a < 2 ^ 31) : gm_W E d 29 204 lv (.int x :: .int (nI j) :: .ref a :: st) h Q ↔ gm_W E d 29 205 lv st (gm_sf h a j (.int x)) Q := gw_wr m29 f29_204 rfl rfl rfl rfl rfl (gs_st hk (by decide) hj hl)
theorem f29_205 : gm_ft 29 205 = some (.aload_n 0, 1) := by decide +kernel
theorem r29_205 {E : Nat → Value} {d : Nat} {st : List Value} {h : gm_H} {Q : gm_R → gm_H → Prop} {a1 a2 a3 a4 a5 a6 a7 : Value} {x : Nat} : gm_W E d 29 205 [.ref x, a1, a2, a3, a4, a5, a6, a7] st h Q ↔ gm_W E d 29 206 [.ref x, a1, a2, a3, a4, a5, a6, a7] (.ref x :: st) h Q := gw_loc m29 f29_205 rfl rfl
theorem r29_205n {E : Nat → Value} {d : Nat} {st : List Value} {h : gm_H} {Q : gm_R → gm_H → Prop} {a1 a2 a3 a4 a5 a6 a7 : Value}  : gm_W E d 29 205 [.null, a1, a2, a3, a4, a5, a6, a7] st h Q ↔ gm_W E d 29 206 [.null, a1, a2, a3, a4, a5, a6, a7] (.null :: st) h Q := gw_loc m29 f29_205 rfl rfl
theorem f29_206 : gm_ft 29 206 = some (.iload 6, 2) := by decide +kernel
theorem r29_206 {E : Nat → Value} {d : Nat} {st : List Value} {h : gm_H} {Q : gm_R → gm_H → Prop} {a0 a1 a2 a3 a4 a5 a7 : Value} {x : Int32} : gm_W E d 29 206 [a0, a1, a2, a3, a4, a5, .int x, a7] st h Q ↔ gm_W E d 29 208 [a0, a1, a2, a3, a4, a5, .int x, a7] (.int x :: st) h Q := gw_loc m29 f29_206 rfl rfl
theorem f29_208 : gm_ft 29 208 = some (.invokevirtual 182, 3) := by decide +kernel
theorem c29_208 {E : Nat → Value} {d : Nat} {st : List Value} {h : gm_H} {Q : gm_R → gm_H → Prop} {lv : List Value} {b0 : Int32} {a : Nat} {Qc : gm_R → gm_H → Prop} (hs : (st.map fun v => v.category).sum ≤ 8) (hr : gm_kd h a = 5) (hd : 1 ≤ d) (hc : gm_Ca E (d - 1) 16 [.ref a, .int b0] h Qc) (kn : ∀ (v9 : Option Value) (h9 : gm_H), Qc (.inl v9) h9 → gm_W E d 29 211 lv (v9.toList ++ st) h9 Q) (kx : ∀ (x9 : Nat) (h9 : gm_H), Qc (.inr x9) h9 → Q (.inr x9) h9) : gm_W E d 29 208 lv (.int b0 :: .ref a :: st) h Q := gw_call (gn_call m29 f29_208 rfl rfl rfl rfl rfl rfl rfl (gs_virt (bs := [.int b0]) (w := 872) (L := 2) rfl rfl rfl rfl hs (by simp [gm_en1]) hr (by decide)) (by decide)) m29 rfl rfl hd hc kn kx
theorem f29_211 : gm_ft 29 211 = some (.return_, 1) := by decide +kernel
theorem r29_211 {E : Nat → Value} {d : Nat} {h : gm_H} {Q : gm_R → gm_H → Prop} {lv : List Value} : gm_W E d 29 211 lv [] h Q ↔ Q (.inl none) h := gw_ret m29 f29_211 rfl rfl rfl rfl rfl rfl rfl rfl rfl
/-! GraphReaderModel.stepRead(I)V -/
theorem m30 : gm_mt[30]? = some (⟨"GraphReaderModel", "stepRead", "(I)V"⟩, prog_7_method_29_code, 2, none, [], 5, 2) := rfl
theorem f30_0 : gm_ft 30 0 = some (.aload_n 0, 1) := by decide +kernel
theorem r30_0 {E : Nat → Value} {d : Nat} {st : List Value} {h : gm_H} {Q : gm_R → gm_H → Prop} {a1 : Value} {x : Nat} : gm_W E d 30 0 [.ref x, a1] st h Q ↔ gm_W E d 30 1 [.ref x, a1] (.ref x :: st) h Q := gw_loc m30 f30_0 rfl rfl
theorem r30_0n {E : Nat → Value} {d : Nat} {st : List Value} {h : gm_H} {Q : gm_R → gm_H → Prop} {a1 : Value}  : gm_W E d 30 0 [.null, a1] st h Q ↔ gm_W E d 30 1 [.null, a1] (.null :: st) h Q := gw_loc m30 f30_0 rfl rfl
theorem f30_1 : gm_ft 30 1 = some (.getfield 96, 3) := by decide +kernel
theorem r30_1 {E : Nat → Value} {d : Nat} {st : List Value} {h : gm_H} {Q : gm_R → gm_H → Prop} {lv : List Value} {a : Nat} (hk : gm_kd h a = 5) : gm_W E d 30 1 lv (.ref a :: st) h Q ↔ gm_W E d 30 4 lv (gm_fv h a 41 :: st) h Q := gw_rd m30 f30_1 rfl rfl rfl rfl (gs_get k5_96 hk (by decide))
theorem f30_4 : gm_ft 30 4 = some (.iload_n 1, 1) := by decide +kernel
theorem r30_4 {E : Nat → Value} {d : Nat} {st : List Value} {h : gm_H} {Q : gm_R → gm_H → Prop} {a0 : Value} {x : Int32} : gm_W E d 30 4 [a0, .int x] st h Q ↔ gm_W E d 30 5 [a0, .int x] (.int x :: st) h Q := gw_loc m30 f30_4 rfl rfl
theorem f30_5 : gm_ft 30 5 = some (.iaload, 1) := by decide +kernel
theorem r30_5 {E : Nat → Value} {d : Nat} {st : List Value} {h : gm_H} {Q : gm_R → gm_H → Prop} {lv : List Value} {a j : Nat} (hk : gm_kd h a % 100 = 0 ∧ 100 ≤ gm_kd h a ∧ gm_kd h a < 900) (hj : j < gm_ln h a) (hl : gm_ln h a < 2 ^ 31) : gm_W E d 30 5 lv (.int (nI j) :: .ref a :: st) h Q ↔ gm_W E d 30 6 lv (gm_fv h a j :: st) h Q := gw_rd m30 f30_5 rfl rfl rfl rfl (gs_ld (P := fun t => t == 0) hk.2 (by have := hk.1; simp [this] <;> omega) hj hl)
theorem f30_6 : gm_ft 30 6 = some (.tableswitch 136 0 6 #[42, 50, 58, 66, 74, 120, 128], 42) := by decide +kernel
theorem e30_6d {E : Nat → Value} {d : Nat} {st : List Value} {h : gm_H} {Q : gm_R → gm_H → Prop} {lv : List Value} {x : Int32} (hx : x.toInt < 0 ∨ 6 < x.toInt) : gm_W E d 30 6 lv (.int x :: st) h Q ↔ gm_W E d 30 142 lv st h Q := gw_sw m30 f30_6 rfl rfl rfl (by unfold gm_sw; dsimp only; rw [if_pos hx]) rfl
theorem r30_6 {E : Nat → Value} {d : Nat} {st : List Value} {h : gm_H} {Q : gm_R → gm_H → Prop} {lv : List Value} {x : Int32} : gm_W E d 30 6 lv (.int x :: st) h Q ↔ (if x = (0 : Int32) then gm_W E d 30 48 lv st h Q else (if x = (1 : Int32) then gm_W E d 30 56 lv st h Q else (if x = (2 : Int32) then gm_W E d 30 64 lv st h Q else (if x = (3 : Int32) then gm_W E d 30 72 lv st h Q else (if x = (4 : Int32) then gm_W E d 30 80 lv st h Q else (if x = (5 : Int32) then gm_W E d 30 126 lv st h Q else (if x = (6 : Int32) then gm_W E d 30 134 lv st h Q else gm_W E d 30 142 lv st h Q))))))) := by
  by_cases z0 : x = (0 : Int32)
  · subst z0; rw [gw_sw m30 f30_6 rfl rfl rfl rfl rfl]; simp
  rw [if_neg z0]
  by_cases z1 : x = (1 : Int32)
  · subst z1; rw [gw_sw m30 f30_6 rfl rfl rfl rfl rfl]; simp
  rw [if_neg z1]
  by_cases z2 : x = (2 : Int32)
  · subst z2; rw [gw_sw m30 f30_6 rfl rfl rfl rfl rfl]; simp
  rw [if_neg z2]
  by_cases z3 : x = (3 : Int32)
  · subst z3; rw [gw_sw m30 f30_6 rfl rfl rfl rfl rfl]; simp
  rw [if_neg z3]
  by_cases z4 : x = (4 : Int32)
  · subst z4; rw [gw_sw m30 f30_6 rfl rfl rfl rfl rfl]; simp
  rw [if_neg z4]
  by_cases z5 : x = (5 : Int32)
  · subst z5; rw [gw_sw m30 f30_6 rfl rfl rfl rfl rfl]; simp
  rw [if_neg z5]
  by_cases z6 : x = (6 : Int32)
  · subst z6; rw [gw_sw m30 f30_6 rfl rfl rfl rfl rfl]; simp
  rw [if_neg z6]
  exact e30_6d (gm_tsw (n := 7) (by decide) (by decide) (fun k hk => by
    have hk : k < 7 := hk
    match k, hk with
    | 0, _ => exact z0
    | 1, _ => exact z1
    | 2, _ => exact z2
    | 3, _ => exact z3
    | 4, _ => exact z4
    | 5, _ => exact z5
    | 6, _ => exact z6
    | k + 7, hk => omega))
theorem f30_48 : gm_ft 30 48 = some (.aload_n 0, 1) := by decide +kernel
theorem r30_48 {E : Nat → Value} {d : Nat} {st : List Value} {h : gm_H} {Q : gm_R → gm_H → Prop} {a1 : Value} {x : Nat} : gm_W E d 30 48 [.ref x, a1] st h Q ↔ gm_W E d 30 49 [.ref x, a1] (.ref x :: st) h Q := gw_loc m30 f30_48 rfl rfl
theorem r30_48n {E : Nat → Value} {d : Nat} {st : List Value} {h : gm_H} {Q : gm_R → gm_H → Prop} {a1 : Value}  : gm_W E d 30 48 [.null, a1] st h Q ↔ gm_W E d 30 49 [.null, a1] (.null :: st) h Q := gw_loc m30 f30_48 rfl rfl
theorem f30_49 : gm_ft 30 49 = some (.iload_n 1, 1) := by decide +kernel
theorem r30_49 {E : Nat → Value} {d : Nat} {st : List Value} {h : gm_H} {Q : gm_R → gm_H → Prop} {a0 : Value} {x : Int32} : gm_W E d 30 49 [a0, .int x] st h Q ↔ gm_W E d 30 50 [a0, .int x] (.int x :: st) h Q := gw_loc m30 f30_49 rfl rfl
theorem f30_50 : gm_ft 30 50 = some (.invokevirtual 219, 3) := by decide +kernel
theorem c30_50 {E : Nat → Value} {d : Nat} {st : List Value} {h : gm_H} {Q : gm_R → gm_H → Prop} {lv : List Value} {b0 : Int32} {a : Nat} {Qc : gm_R → gm_H → Prop} (hs : (st.map fun v => v.category).sum ≤ 8) (hr : gm_kd h a = 5) (hd : 1 ≤ d) (hc : gm_Ca E (d - 1) 23 [.ref a, .int b0] h Qc) (kn : ∀ (v9 : Option Value) (h9 : gm_H), Qc (.inl v9) h9 → gm_W E d 30 53 lv (v9.toList ++ st) h9 Q) (kx : ∀ (x9 : Nat) (h9 : gm_H), Qc (.inr x9) h9 → Q (.inr x9) h9) : gm_W E d 30 50 lv (.int b0 :: .ref a :: st) h Q := gw_call (gn_call m30 f30_50 rfl rfl rfl rfl rfl rfl rfl (gs_virt (bs := [.int b0]) (w := 868) (L := 6) rfl rfl rfl rfl hs (by simp [gm_en1]) hr (by decide)) (by decide)) m30 rfl rfl hd hc kn kx
theorem f30_53 : gm_ft 30 53 = some (.goto 95, 3) := by decide +kernel
theorem r30_53 {E : Nat → Value} {d : Nat} {st : List Value} {h : gm_H} {Q : gm_R → gm_H → Prop} {lv : List Value} : gm_W E d 30 53 lv st h Q ↔ gm_W E d 30 148 lv st h Q := gw_brT m30 f30_53 rfl rfl rfl rfl
theorem f30_56 : gm_ft 30 56 = some (.aload_n 0, 1) := by decide +kernel
theorem r30_56 {E : Nat → Value} {d : Nat} {st : List Value} {h : gm_H} {Q : gm_R → gm_H → Prop} {a1 : Value} {x : Nat} : gm_W E d 30 56 [.ref x, a1] st h Q ↔ gm_W E d 30 57 [.ref x, a1] (.ref x :: st) h Q := gw_loc m30 f30_56 rfl rfl
theorem r30_56n {E : Nat → Value} {d : Nat} {st : List Value} {h : gm_H} {Q : gm_R → gm_H → Prop} {a1 : Value}  : gm_W E d 30 56 [.null, a1] st h Q ↔ gm_W E d 30 57 [.null, a1] (.null :: st) h Q := gw_loc m30 f30_56 rfl rfl
theorem f30_57 : gm_ft 30 57 = some (.iload_n 1, 1) := by decide +kernel
theorem r30_57 {E : Nat → Value} {d : Nat} {st : List Value} {h : gm_H} {Q : gm_R → gm_H → Prop} {a0 : Value} {x : Int32} : gm_W E d 30 57 [a0, .int x] st h Q ↔ gm_W E d 30 58 [a0, .int x] (.int x :: st) h Q := gw_loc m30 f30_57 rfl rfl
theorem f30_58 : gm_ft 30 58 = some (.invokevirtual 222, 3) := by decide +kernel
theorem c30_58 {E : Nat → Value} {d : Nat} {st : List Value} {h : gm_H} {Q : gm_R → gm_H → Prop} {lv : List Value} {b0 : Int32} {a : Nat} {Qc : gm_R → gm_H → Prop} (hs : (st.map fun v => v.category).sum ≤ 8) (hr : gm_kd h a = 5) (hd : 1 ≤ d) (hc : gm_Ca E (d - 1) 24 [.ref a, .int b0] h Qc) (kn : ∀ (v9 : Option Value) (h9 : gm_H), Qc (.inl v9) h9 → gm_W E d 30 61 lv (v9.toList ++ st) h9 Q) (kx : ∀ (x9 : Nat) (h9 : gm_H), Qc (.inr x9) h9 → Q (.inr x9) h9) : gm_W E d 30 58 lv (.int b0 :: .ref a :: st) h Q := gw_call (gn_call m30 f30_58 rfl rfl rfl rfl rfl rfl rfl (gs_virt (bs := [.int b0]) (w := 897) (L := 9) rfl rfl rfl rfl hs (by simp [gm_en1]) hr (by decide)) (by decide)) m30 rfl rfl hd hc kn kx
theorem f30_61 : gm_ft 30 61 = some (.goto 87, 3) := by decide +kernel
theorem r30_61 {E : Nat → Value} {d : Nat} {st : List Value} {h : gm_H} {Q : gm_R → gm_H → Prop} {lv : List Value} : gm_W E d 30 61 lv st h Q ↔ gm_W E d 30 148 lv st h Q := gw_brT m30 f30_61 rfl rfl rfl rfl
theorem f30_64 : gm_ft 30 64 = some (.aload_n 0, 1) := by decide +kernel
theorem r30_64 {E : Nat → Value} {d : Nat} {st : List Value} {h : gm_H} {Q : gm_R → gm_H → Prop} {a1 : Value} {x : Nat} : gm_W E d 30 64 [.ref x, a1] st h Q ↔ gm_W E d 30 65 [.ref x, a1] (.ref x :: st) h Q := gw_loc m30 f30_64 rfl rfl
theorem r30_64n {E : Nat → Value} {d : Nat} {st : List Value} {h : gm_H} {Q : gm_R → gm_H → Prop} {a1 : Value}  : gm_W E d 30 64 [.null, a1] st h Q ↔ gm_W E d 30 65 [.null, a1] (.null :: st) h Q := gw_loc m30 f30_64 rfl rfl
theorem f30_65 : gm_ft 30 65 = some (.iload_n 1, 1) := by decide +kernel
theorem r30_65 {E : Nat → Value} {d : Nat} {st : List Value} {h : gm_H} {Q : gm_R → gm_H → Prop} {a0 : Value} {x : Int32} : gm_W E d 30 65 [a0, .int x] st h Q ↔ gm_W E d 30 66 [a0, .int x] (.int x :: st) h Q := gw_loc m30 f30_65 rfl rfl
theorem f30_66 : gm_ft 30 66 = some (.invokevirtual 225, 3) := by decide +kernel
theorem c30_66 {E : Nat → Value} {d : Nat} {st : List Value} {h : gm_H} {Q : gm_R → gm_H → Prop} {lv : List Value} {b0 : Int32} {a : Nat} {Qc : gm_R → gm_H → Prop} (hs : (st.map fun v => v.category).sum ≤ 8) (hr : gm_kd h a = 5) (hd : 1 ≤ d) (hc : gm_Ca E (d - 1) 25 [.ref a, .int b0] h Qc) (kn : ∀ (v9 : Option Value) (h9 : gm_H), Qc (.inl v9) h9 → gm_W E d 30 69 lv (v9.toList ++ st) h9 Q) (kx : ∀ (x9 : Nat) (h9 : gm_H), Qc (.inr x9) h9 → Q (.inr x9) h9) : gm_W E d 30 66 lv (.int b0 :: .ref a :: st) h Q := gw_call (gn_call m30 f30_66 rfl rfl rfl rfl rfl rfl rfl (gs_virt (bs := [.int b0]) (w := 911) (L := 4) rfl rfl rfl rfl hs (by simp [gm_en1]) hr (by decide)) (by decide)) m30 rfl rfl hd hc kn kx
theorem f30_69 : gm_ft 30 69 = some (.goto 79, 3) := by decide +kernel
theorem r30_69 {E : Nat → Value} {d : Nat} {st : List Value} {h : gm_H} {Q : gm_R → gm_H → Prop} {lv : List Value} : gm_W E d 30 69 lv st h Q ↔ gm_W E d 30 148 lv st h Q := gw_brT m30 f30_69 rfl rfl rfl rfl
theorem f30_72 : gm_ft 30 72 = some (.aload_n 0, 1) := by decide +kernel
theorem r30_72 {E : Nat → Value} {d : Nat} {st : List Value} {h : gm_H} {Q : gm_R → gm_H → Prop} {a1 : Value} {x : Nat} : gm_W E d 30 72 [.ref x, a1] st h Q ↔ gm_W E d 30 73 [.ref x, a1] (.ref x :: st) h Q := gw_loc m30 f30_72 rfl rfl
theorem r30_72n {E : Nat → Value} {d : Nat} {st : List Value} {h : gm_H} {Q : gm_R → gm_H → Prop} {a1 : Value}  : gm_W E d 30 72 [.null, a1] st h Q ↔ gm_W E d 30 73 [.null, a1] (.null :: st) h Q := gw_loc m30 f30_72 rfl rfl
theorem f30_73 : gm_ft 30 73 = some (.iload_n 1, 1) := by decide +kernel
theorem r30_73 {E : Nat → Value} {d : Nat} {st : List Value} {h : gm_H} {Q : gm_R → gm_H → Prop} {a0 : Value} {x : Int32} : gm_W E d 30 73 [a0, .int x] st h Q ↔ gm_W E d 30 74 [a0, .int x] (.int x :: st) h Q := gw_loc m30 f30_73 rfl rfl
theorem f30_74 : gm_ft 30 74 = some (.invokevirtual 228, 3) := by decide +kernel
theorem c30_74 {E : Nat → Value} {d : Nat} {st : List Value} {h : gm_H} {Q : gm_R → gm_H → Prop} {lv : List Value} {b0 : Int32} {a : Nat} {Qc : gm_R → gm_H → Prop} (hs : (st.map fun v => v.category).sum ≤ 8) (hr : gm_kd h a = 5) (hd : 1 ≤ d) (hc : gm_Ca E (d - 1) 26 [.ref a, .int b0] h Qc) (kn : ∀ (v9 : Option Value) (h9 : gm_H), Qc (.inl v9) h9 → gm_W E d 30 77 lv (v9.toList ++ st) h9 Q) (kx : ∀ (x9 : Nat) (h9 : gm_H), Qc (.inr x9) h9 → Q (.inr x9) h9) : gm_W E d 30 74 lv (.int b0 :: .ref a :: st) h Q := gw_call (gn_call m30 f30_74 rfl rfl rfl rfl rfl rfl rfl (gs_virt (bs := [.int b0]) (w := 915) (L := 8) rfl rfl rfl rfl hs (by simp [gm_en1]) hr (by decide)) (by decide)) m30 rfl rfl hd hc kn kx
theorem f30_77 : gm_ft 30 77 = some (.goto 71, 3) := by decide +kernel
theorem r30_77 {E : Nat → Value} {d : Nat} {st : List Value} {h : gm_H} {Q : gm_R → gm_H → Prop} {lv : List Value} : gm_W E d 30 77 lv st h Q ↔ gm_W E d 30 148 lv st h Q := gw_brT m30 f30_77 rfl rfl rfl rfl
theorem f30_80 : gm_ft 30 80 = some (.aload_n 0, 1) := by decide +kernel
theorem r30_80 {E : Nat → Value} {d : Nat} {st : List Value} {h : gm_H} {Q : gm_R → gm_H → Prop} {a1 : Value} {x : Nat} : gm_W E d 30 80 [.ref x, a1] st h Q ↔ gm_W E d 30 81 [.ref x, a1] (.ref x :: st) h Q := gw_loc m30 f30_80 rfl rfl
theorem r30_80n {E : Nat → Value} {d : Nat} {st : List Value} {h : gm_H} {Q : gm_R → gm_H → Prop} {a1 : Value}  : gm_W E d 30 80 [.null, a1] st h Q ↔ gm_W E d 30 81 [.null, a1] (.null :: st) h Q := gw_loc m30 f30_80 rfl rfl
theorem f30_81 : gm_ft 30 81 = some (.getfield 54, 3) := by decide +kernel
theorem r30_81 {E : Nat → Value} {d : Nat} {st : List Value} {h : gm_H} {Q : gm_R → gm_H → Prop} {lv : List Value} {a : Nat} (hk : gm_kd h a = 5) : gm_W E d 30 81 lv (.ref a :: st) h Q ↔ gm_W E d 30 84 lv (gm_fv h a 24 :: st) h Q := gw_rd m30 f30_81 rfl rfl rfl rfl (gs_get k5_54 hk (by decide))
theorem f30_84 : gm_ft 30 84 = some (.aload_n 0, 1) := by decide +kernel
theorem r30_84 {E : Nat → Value} {d : Nat} {st : List Value} {h : gm_H} {Q : gm_R → gm_H → Prop} {a1 : Value} {x : Nat} : gm_W E d 30 84 [.ref x, a1] st h Q ↔ gm_W E d 30 85 [.ref x, a1] (.ref x :: st) h Q := gw_loc m30 f30_84 rfl rfl
theorem r30_84n {E : Nat → Value} {d : Nat} {st : List Value} {h : gm_H} {Q : gm_R → gm_H → Prop} {a1 : Value}  : gm_W E d 30 84 [.null, a1] st h Q ↔ gm_W E d 30 85 [.null, a1] (.null :: st) h Q := gw_loc m30 f30_84 rfl rfl
theorem f30_85 : gm_ft 30 85 = some (.getfield 48, 3) := by decide +kernel
theorem r30_85 {E : Nat → Value} {d : Nat} {st : List Value} {h : gm_H} {Q : gm_R → gm_H → Prop} {lv : List Value} {a : Nat} (hk : gm_kd h a = 5) : gm_W E d 30 85 lv (.ref a :: st) h Q ↔ gm_W E d 30 88 lv (gm_fv h a 21 :: st) h Q := gw_rd m30 f30_85 rfl rfl rfl rfl (gs_get k5_48 hk (by decide))
theorem f30_88 : gm_ft 30 88 = some (.aload_n 0, 1) := by decide +kernel
theorem r30_88 {E : Nat → Value} {d : Nat} {st : List Value} {h : gm_H} {Q : gm_R → gm_H → Prop} {a1 : Value} {x : Nat} : gm_W E d 30 88 [.ref x, a1] st h Q ↔ gm_W E d 30 89 [.ref x, a1] (.ref x :: st) h Q := gw_loc m30 f30_88 rfl rfl
theorem r30_88n {E : Nat → Value} {d : Nat} {st : List Value} {h : gm_H} {Q : gm_R → gm_H → Prop} {a1 : Value}  : gm_W E d 30 88 [.null, a1] st h Q ↔ gm_W E d 30 89 [.null, a1] (.null :: st) h Q := gw_loc m30 f30_88 rfl rfl
theorem f30_89 : gm_ft 30 89 = some (.getfield 102, 3) := by decide +kernel
theorem r30_89 {E : Nat → Value} {d : Nat} {st : List Value} {h : gm_H} {Q : gm_R → gm_H → Prop} {lv : List Value} {a : Nat} (hk : gm_kd h a = 5) : gm_W E d 30 89 lv (.ref a :: st) h Q ↔ gm_W E d 30 92 lv (gm_fv h a 43 :: st) h Q := gw_rd m30 f30_89 rfl rfl rfl rfl (gs_get k5_102 hk (by decide))
theorem f30_92 : gm_ft 30 92 = some (.iload_n 1, 1) := by decide +kernel
theorem r30_92 {E : Nat → Value} {d : Nat} {st : List Value} {h : gm_H} {Q : gm_R → gm_H → Prop} {a0 : Value} {x : Int32} : gm_W E d 30 92 [a0, .int x] st h Q ↔ gm_W E d 30 93 [a0, .int x] (.int x :: st) h Q := gw_loc m30 f30_92 rfl rfl
theorem f30_93 : gm_ft 30 93 = some (.iaload, 1) := by decide +kernel
theorem r30_93 {E : Nat → Value} {d : Nat} {st : List Value} {h : gm_H} {Q : gm_R → gm_H → Prop} {lv : List Value} {a j : Nat} (hk : gm_kd h a % 100 = 0 ∧ 100 ≤ gm_kd h a ∧ gm_kd h a < 900) (hj : j < gm_ln h a) (hl : gm_ln h a < 2 ^ 31) : gm_W E d 30 93 lv (.int (nI j) :: .ref a :: st) h Q ↔ gm_W E d 30 94 lv (gm_fv h a j :: st) h Q := gw_rd m30 f30_93 rfl rfl rfl rfl (gs_ld (P := fun t => t == 0) hk.2 (by have := hk.1; simp [this] <;> omega) hj hl)
theorem f30_94 : gm_ft 30 94 = some (.iaload, 1) := by decide +kernel
theorem r30_94 {E : Nat → Value} {d : Nat} {st : List Value} {h : gm_H} {Q : gm_R → gm_H → Prop} {lv : List Value} {a j : Nat} (hk : gm_kd h a % 100 = 0 ∧ 100 ≤ gm_kd h a ∧ gm_kd h a < 900) (hj : j < gm_ln h a) (hl : gm_ln h a < 2 ^ 31) : gm_W E d 30 94 lv (.int (nI j) :: .ref a :: st) h Q ↔ gm_W E d 30 95 lv (gm_fv h a j :: st) h Q := gw_rd m30 f30_94 rfl rfl rfl rfl (gs_ld (P := fun t => t == 0) hk.2 (by have := hk.1; simp [this] <;> omega) hj hl)
theorem f30_95 : gm_ft 30 95 = some (.aload_n 0, 1) := by decide +kernel
theorem r30_95 {E : Nat → Value} {d : Nat} {st : List Value} {h : gm_H} {Q : gm_R → gm_H → Prop} {a1 : Value} {x : Nat} : gm_W E d 30 95 [.ref x, a1] st h Q ↔ gm_W E d 30 96 [.ref x, a1] (.ref x :: st) h Q := gw_loc m30 f30_95 rfl rfl
theorem r30_95n {E : Nat → Value} {d : Nat} {st : List Value} {h : gm_H} {Q : gm_R → gm_H → Prop} {a1 : Value}  : gm_W E d 30 95 [.null, a1] st h Q ↔ gm_W E d 30 96 [.null, a1] (.null :: st) h Q := gw_loc m30 f30_95 rfl rfl
theorem f30_96 : gm_ft 30 96 = some (.getfield 105, 3) := by decide +kernel
theorem r30_96 {E : Nat → Value} {d : Nat} {st : List Value} {h : gm_H} {Q : gm_R → gm_H → Prop} {lv : List Value} {a : Nat} (hk : gm_kd h a = 5) : gm_W E d 30 96 lv (.ref a :: st) h Q ↔ gm_W E d 30 99 lv (gm_fv h a 44 :: st) h Q := gw_rd m30 f30_96 rfl rfl rfl rfl (gs_get k5_105 hk (by decide))
theorem f30_99 : gm_ft 30 99 = some (.iload_n 1, 1) := by decide +kernel
theorem r30_99 {E : Nat → Value} {d : Nat} {st : List Value} {h : gm_H} {Q : gm_R → gm_H → Prop} {a0 : Value} {x : Int32} : gm_W E d 30 99 [a0, .int x] st h Q ↔ gm_W E d 30 100 [a0, .int x] (.int x :: st) h Q := gw_loc m30 f30_99 rfl rfl
theorem f30_100 : gm_ft 30 100 = some (.iaload, 1) := by decide +kernel
theorem r30_100 {E : Nat → Value} {d : Nat} {st : List Value} {h : gm_H} {Q : gm_R → gm_H → Prop} {lv : List Value} {a j : Nat} (hk : gm_kd h a % 100 = 0 ∧ 100 ≤ gm_kd h a ∧ gm_kd h a < 900) (hj : j < gm_ln h a) (hl : gm_ln h a < 2 ^ 31) : gm_W E d 30 100 lv (.int (nI j) :: .ref a :: st) h Q ↔ gm_W E d 30 101 lv (gm_fv h a j :: st) h Q := gw_rd m30 f30_100 rfl rfl rfl rfl (gs_ld (P := fun t => t == 0) hk.2 (by have := hk.1; simp [this] <;> omega) hj hl)
theorem f30_101 : gm_ft 30 101 = some (.iadd, 1) := by decide +kernel
theorem r30_101 {E : Nat → Value} {d : Nat} {st : List Value} {h : gm_H} {Q : gm_R → gm_H → Prop} {lv : List Value} {x y : Int32} : gm_W E d 30 101 lv (.int y :: .int x :: st) h Q ↔ gm_W E d 30 102 lv (.int (x + y) :: st) h Q := gw_pure m30 f30_101 rfl
theorem f30_102 : gm_ft 30 102 = some (.aload_n 0, 1) := by decide +kernel
theorem r30_102 {E : Nat → Value} {d : Nat} {st : List Value} {h : gm_H} {Q : gm_R → gm_H → Prop} {a1 : Value} {x : Nat} : gm_W E d 30 102 [.ref x, a1] st h Q ↔ gm_W E d 30 103 [.ref x, a1] (.ref x :: st) h Q := gw_loc m30 f30_102 rfl rfl
theorem r30_102n {E : Nat → Value} {d : Nat} {st : List Value} {h : gm_H} {Q : gm_R → gm_H → Prop} {a1 : Value}  : gm_W E d 30 102 [.null, a1] st h Q ↔ gm_W E d 30 103 [.null, a1] (.null :: st) h Q := gw_loc m30 f30_102 rfl rfl
theorem f30_103 : gm_ft 30 103 = some (.getfield 178, 3) := by decide +kernel
theorem r30_103 {E : Nat → Value} {d : Nat} {st : List Value} {h : gm_H} {Q : gm_R → gm_H → Prop} {lv : List Value} {a : Nat} (hk : gm_kd h a = 5) : gm_W E d 30 103 lv (.ref a :: st) h Q ↔ gm_W E d 30 106 lv (gm_fv h a 9 :: st) h Q := gw_rd m30 f30_103 rfl rfl rfl rfl (gs_get k5_178 hk (by decide))
theorem f30_106 : gm_ft 30 106 = some (.i2l, 1) := by decide +kernel
theorem r30_106 {E : Nat → Value} {d : Nat} {st : List Value} {h : gm_H} {Q : gm_R → gm_H → Prop} {lv : List Value} {x : Int32} : gm_W E d 30 106 lv (.int x :: st) h Q ↔ gm_W E d 30 107 lv (.long (x.toInt64) :: st) h Q := gw_pure m30 f30_106 rfl
theorem f30_107 : gm_ft 30 107 = some (.lastore, 1) := by decide +kernel
theorem r30_107 {E : Nat → Value} {d : Nat} {st : List Value} {h : gm_H} {Q : gm_R → gm_H → Prop} {lv : List Value} {a j : Nat} {x : Int64} (hk : gm_kd h a = 201) (hj : j < gm_ln h a) (hl : gm_ln h a < 2 ^ 31) : gm_W E d 30 107 lv (.long x :: .int (nI j) :: .ref a :: st) h Q ↔ gm_W E d 30 108 lv st (gm_sf h a j (.long x)) Q := gw_wr m30 f30_107 rfl rfl rfl rfl rfl (gs_st hk (by decide) hj hl)
theorem f30_108 : gm_ft 30 108 = some (.aload_n 0, 1) := by decide +kernel
theorem r30_108 {E : Nat → Value} {d : Nat} {st : List Value} {h : gm_H} {Q : gm_R → gm_H → Prop} {a1 : Value} {x : Nat} : gm_W E d 30 108 [.ref x, a1] st h Q ↔ gm_W E d 30 109 [.ref x, a1] (.ref x :: st) h Q := gw_loc m30 f30_108 rfl rfl
theorem r30_108n {E : Nat → Value} {d : Nat} {st : List Value} {h : gm_H} {Q : gm_R → gm_H → Prop} {a1 : Value}  : gm_W E d 30 108 [.null, a1] st h Q ↔ gm_W E d 30 109 [.null, a1] (.null :: st) h Q := gw_loc m30 f30_108 rfl rfl
theorem f30_109 : gm_ft 30 109 = some (.getfield 105, 3) := by decide +kernel
theorem r30_109 {E : Nat → Value} {d : Nat} {st : List Value} {h : gm_H} {Q : gm_R → gm_H → Prop} {lv : List Value} {a : Nat} (hk : gm_kd h a = 5) : gm_W E d 30 109 lv (.ref a :: st) h Q ↔ gm_W E d 30 112 lv (gm_fv h a 44 :: st) h Q := gw_rd m30 f30_109 rfl rfl rfl rfl (gs_get k5_105 hk (by decide))
theorem f30_112 : gm_ft 30 112 = some (.iload_n 1, 1) := by decide +kernel
theorem r30_112 {E : Nat → Value} {d : Nat} {st : List Value} {h : gm_H} {Q : gm_R → gm_H → Prop} {a0 : Value} {x : Int32} : gm_W E d 30 112 [a0, .int x] st h Q ↔ gm_W E d 30 113 [a0, .int x] (.int x :: st) h Q := gw_loc m30 f30_112 rfl rfl
theorem f30_113 : gm_ft 30 113 = some (.dup2, 1) := by decide +kernel
theorem r30_113 {E : Nat → Value} {d : Nat} {st : List Value} {h : gm_H} {Q : gm_R → gm_H → Prop} {lv : List Value} {x : Int32} {a : Nat} : gm_W E d 30 113 lv (.int x :: .ref a :: st) h Q ↔ gm_W E d 30 114 lv (.int x :: .ref a :: .int x :: .ref a :: st) h Q := gw_pure m30 f30_113 rfl
theorem f30_114 : gm_ft 30 114 = some (.iaload, 1) := by decide +kernel
theorem r30_114 {E : Nat → Value} {d : Nat} {st : List Value} {h : gm_H} {Q : gm_R → gm_H → Prop} {lv : List Value} {a j : Nat} (hk : gm_kd h a % 100 = 0 ∧ 100 ≤ gm_kd h a ∧ gm_kd h a < 900) (hj : j < gm_ln h a) (hl : gm_ln h a < 2 ^ 31) : gm_W E d 30 114 lv (.int (nI j) :: .ref a :: st) h Q ↔ gm_W E d 30 115 lv (gm_fv h a j :: st) h Q := gw_rd m30 f30_114 rfl rfl rfl rfl (gs_ld (P := fun t => t == 0) hk.2 (by have := hk.1; simp [this] <;> omega) hj hl)
theorem f30_115 : gm_ft 30 115 = some (.iconst 1, 1) := by decide +kernel
theorem r30_115 {E : Nat → Value} {d : Nat} {st : List Value} {h : gm_H} {Q : gm_R → gm_H → Prop} {lv : List Value} : gm_W E d 30 115 lv st h Q ↔ gm_W E d 30 116 lv (.int (1 : Int32) :: st) h Q := gw_pure m30 f30_115 rfl
theorem f30_116 : gm_ft 30 116 = some (.iadd, 1) := by decide +kernel
theorem r30_116 {E : Nat → Value} {d : Nat} {st : List Value} {h : gm_H} {Q : gm_R → gm_H → Prop} {lv : List Value} {x y : Int32} : gm_W E d 30 116 lv (.int y :: .int x :: st) h Q ↔ gm_W E d 30 117 lv (.int (x + y) :: st) h Q := gw_pure m30 f30_116 rfl
theorem f30_117 : gm_ft 30 117 = some (.iastore, 1) := by decide +kernel
theorem r30_117 {E : Nat → Value} {d : Nat} {st : List Value} {h : gm_H} {Q : gm_R → gm_H → Prop} {lv : List Value} {a j : Nat} {x : Int32} (hk : gm_kd h a = 200) (hj : j < gm_ln h a) (hl : gm_ln h a < 2 ^ 31) : gm_W E d 30 117 lv (.int x :: .int (nI j) :: .ref a :: st) h Q ↔ gm_W E d 30 118 lv st (gm_sf h a j (.int x)) Q := gw_wr m30 f30_117 rfl rfl rfl rfl rfl (gs_st hk (by decide) hj hl)
theorem f30_118 : gm_ft 30 118 = some (.aload_n 0, 1) := by decide +kernel
theorem r30_118 {E : Nat → Value} {d : Nat} {st : List Value} {h : gm_H} {Q : gm_R → gm_H → Prop} {a1 : Value} {x : Nat} : gm_W E d 30 118 [.ref x, a1] st h Q ↔ gm_W E d 30 119 [.ref x, a1] (.ref x :: st) h Q := gw_loc m30 f30_118 rfl rfl
theorem r30_118n {E : Nat → Value} {d : Nat} {st : List Value} {h : gm_H} {Q : gm_R → gm_H → Prop} {a1 : Value}  : gm_W E d 30 118 [.null, a1] st h Q ↔ gm_W E d 30 119 [.null, a1] (.null :: st) h Q := gw_loc m30 f30_118 rfl rfl
theorem f30_119 : gm_ft 30 119 = some (.iload_n 1, 1) := by decide +kernel
theorem r30_119 {E : Nat → Value} {d : Nat} {st : List Value} {h : gm_H} {Q : gm_R → gm_H → Prop} {a0 : Value} {x : Int32} : gm_W E d 30 119 [a0, .int x] st h Q ↔ gm_W E d 30 120 [a0, .int x] (.int x :: st) h Q := gw_loc m30 f30_119 rfl rfl
theorem f30_120 : gm_ft 30 120 = some (.invokevirtual 216, 3) := by decide +kernel
theorem c30_120 {E : Nat → Value} {d : Nat} {st : List Value} {h : gm_H} {Q : gm_R → gm_H → Prop} {lv : List Value} {b0 : Int32} {a : Nat} {Qc : gm_R → gm_H → Prop} (hs : (st.map fun v => v.category).sum ≤ 8) (hr : gm_kd h a = 5) (hd : 1 ≤ d) (hc : gm_Ca E (d - 1) 27 [.ref a, .int b0] h Qc) (kn : ∀ (v9 : Option Value) (h9 : gm_H), Qc (.inl v9) h9 → gm_W E d 30 123 lv (v9.toList ++ st) h9 Q) (kx : ∀ (x9 : Nat) (h9 : gm_H), Qc (.inr x9) h9 → Q (.inr x9) h9) : gm_W E d 30 120 lv (.int b0 :: .ref a :: st) h Q := gw_call (gn_call m30 f30_120 rfl rfl rfl rfl rfl rfl rfl (gs_virt (bs := [.int b0]) (w := 919) (L := 2) rfl rfl rfl rfl hs (by simp [gm_en1]) hr (by decide)) (by decide)) m30 rfl rfl hd hc kn kx
theorem f30_123 : gm_ft 30 123 = some (.goto 25, 3) := by decide +kernel
theorem r30_123 {E : Nat → Value} {d : Nat} {st : List Value} {h : gm_H} {Q : gm_R → gm_H → Prop} {lv : List Value} : gm_W E d 30 123 lv st h Q ↔ gm_W E d 30 148 lv st h Q := gw_brT m30 f30_123 rfl rfl rfl rfl
theorem f30_126 : gm_ft 30 126 = some (.aload_n 0, 1) := by decide +kernel
theorem r30_126 {E : Nat → Value} {d : Nat} {st : List Value} {h : gm_H} {Q : gm_R → gm_H → Prop} {a1 : Value} {x : Nat} : gm_W E d 30 126 [.ref x, a1] st h Q ↔ gm_W E d 30 127 [.ref x, a1] (.ref x :: st) h Q := gw_loc m30 f30_126 rfl rfl
theorem r30_126n {E : Nat → Value} {d : Nat} {st : List Value} {h : gm_H} {Q : gm_R → gm_H → Prop} {a1 : Value}  : gm_W E d 30 126 [.null, a1] st h Q ↔ gm_W E d 30 127 [.null, a1] (.null :: st) h Q := gw_loc m30 f30_126 rfl rfl
theorem f30_127 : gm_ft 30 127 = some (.iload_n 1, 1) := by decide +kernel
theorem r30_127 {E : Nat → Value} {d : Nat} {st : List Value} {h : gm_H} {Q : gm_R → gm_H → Prop} {a0 : Value} {x : Int32} : gm_W E d 30 127 [a0, .int x] st h Q ↔ gm_W E d 30 128 [a0, .int x] (.int x :: st) h Q := gw_loc m30 f30_127 rfl rfl
theorem f30_128 : gm_ft 30 128 = some (.invokevirtual 231, 3) := by decide +kernel
theorem c30_128 {E : Nat → Value} {d : Nat} {st : List Value} {h : gm_H} {Q : gm_R → gm_H → Prop} {lv : List Value} {b0 : Int32} {a : Nat} {Qc : gm_R → gm_H → Prop} (hs : (st.map fun v => v.category).sum ≤ 8) (hr : gm_kd h a = 5) (hd : 1 ≤ d) (hc : gm_Ca E (d - 1) 28 [.ref a, .int b0] h Qc) (kn : ∀ (v9 : Option Value) (h9 : gm_H), Qc (.inl v9) h9 → gm_W E d 30 131 lv (v9.toList ++ st) h9 Q) (kx : ∀ (x9 : Nat) (h9 : gm_H), Qc (.inr x9) h9 → Q (.inr x9) h9) : gm_W E d 30 128 lv (.int b0 :: .ref a :: st) h Q := gw_call (gn_call m30 f30_128 rfl rfl rfl rfl rfl rfl rfl (gs_virt (bs := [.int b0]) (w := 923) (L := 3) rfl rfl rfl rfl hs (by simp [gm_en1]) hr (by decide)) (by decide)) m30 rfl rfl hd hc kn kx
theorem f30_131 : gm_ft 30 131 = some (.goto 17, 3) := by decide +kernel
theorem r30_131 {E : Nat → Value} {d : Nat} {st : List Value} {h : gm_H} {Q : gm_R → gm_H → Prop} {lv : List Value} : gm_W E d 30 131 lv st h Q ↔ gm_W E d 30 148 lv st h Q := gw_brT m30 f30_131 rfl rfl rfl rfl
theorem f30_134 : gm_ft 30 134 = some (.aload_n 0, 1) := by decide +kernel
theorem r30_134 {E : Nat → Value} {d : Nat} {st : List Value} {h : gm_H} {Q : gm_R → gm_H → Prop} {a1 : Value} {x : Nat} : gm_W E d 30 134 [.ref x, a1] st h Q ↔ gm_W E d 30 135 [.ref x, a1] (.ref x :: st) h Q := gw_loc m30 f30_134 rfl rfl
theorem r30_134n {E : Nat → Value} {d : Nat} {st : List Value} {h : gm_H} {Q : gm_R → gm_H → Prop} {a1 : Value}  : gm_W E d 30 134 [.null, a1] st h Q ↔ gm_W E d 30 135 [.null, a1] (.null :: st) h Q := gw_loc m30 f30_134 rfl rfl
theorem f30_135 : gm_ft 30 135 = some (.iload_n 1, 1) := by decide +kernel
theorem r30_135 {E : Nat → Value} {d : Nat} {st : List Value} {h : gm_H} {Q : gm_R → gm_H → Prop} {a0 : Value} {x : Int32} : gm_W E d 30 135 [a0, .int x] st h Q ↔ gm_W E d 30 136 [a0, .int x] (.int x :: st) h Q := gw_loc m30 f30_135 rfl rfl
theorem f30_136 : gm_ft 30 136 = some (.invokevirtual 234, 3) := by decide +kernel
theorem c30_136 {E : Nat → Value} {d : Nat} {st : List Value} {h : gm_H} {Q : gm_R → gm_H → Prop} {lv : List Value} {b0 : Int32} {a : Nat} {Qc : gm_R → gm_H → Prop} (hs : (st.map fun v => v.category).sum ≤ 8) (hr : gm_kd h a = 5) (hd : 1 ≤ d) (hc : gm_Ca E (d - 1) 29 [.ref a, .int b0] h Qc) (kn : ∀ (v9 : Option Value) (h9 : gm_H), Qc (.inl v9) h9 → gm_W E d 30 139 lv (v9.toList ++ st) h9 Q) (kx : ∀ (x9 : Nat) (h9 : gm_H), Qc (.inr x9) h9 → Q (.inr x9) h9) : gm_W E d 30 136 lv (.int b0 :: .ref a :: st) h Q := gw_call (gn_call m30 f30_136 rfl rfl rfl rfl rfl rfl rfl (gs_virt (bs := [.int b0]) (w := 927) (L := 8) rfl rfl rfl rfl hs (by simp [gm_en1]) hr (by decide)) (by decide)) m30 rfl rfl hd hc kn kx
theorem f30_139 : gm_ft 30 139 = some (.goto 9, 3) := by decide +kernel
theorem r30_139 {E : Nat → Value} {d : Nat} {st : List Value} {h : gm_H} {Q : gm_R → gm_H → Prop} {lv : List Value} : gm_W E d 30 139 lv st h Q ↔ gm_W E d 30 148 lv st h Q := gw_brT m30 f30_139 rfl rfl rfl rfl
theorem f30_142 : gm_ft 30 142 = some (.aload_n 0, 1) := by decide +kernel
theorem r30_142 {E : Nat → Value} {d : Nat} {st : List Value} {h : gm_H} {Q : gm_R → gm_H → Prop} {a1 : Value} {x : Nat} : gm_W E d 30 142 [.ref x, a1] st h Q ↔ gm_W E d 30 143 [.ref x, a1] (.ref x :: st) h Q := gw_loc m30 f30_142 rfl rfl
theorem r30_142n {E : Nat → Value} {d : Nat} {st : List Value} {h : gm_H} {Q : gm_R → gm_H → Prop} {a1 : Value}  : gm_W E d 30 142 [.null, a1] st h Q ↔ gm_W E d 30 143 [.null, a1] (.null :: st) h Q := gw_loc m30 f30_142 rfl rfl
theorem f30_143 : gm_ft 30 143 = some (.bipush (-2), 2) := by decide +kernel
theorem r30_143 {E : Nat → Value} {d : Nat} {st : List Value} {h : gm_H} {Q : gm_R → gm_H → Prop} {lv : List Value} : gm_W E d 30 143 lv st h Q ↔ gm_W E d 30 145 lv (.int (-2 : Int32) :: st) h Q := gw_pure m30 f30_143 rfl
theorem f30_145 : gm_ft 30 145 = some (.invokevirtual 182, 3) := by decide +kernel
theorem c30_145 {E : Nat → Value} {d : Nat} {st : List Value} {h : gm_H} {Q : gm_R → gm_H → Prop} {lv : List Value} {b0 : Int32} {a : Nat} {Qc : gm_R → gm_H → Prop} (hs : (st.map fun v => v.category).sum ≤ 8) (hr : gm_kd h a = 5) (hd : 1 ≤ d) (hc : gm_Ca E (d - 1) 16 [.ref a, .int b0] h Qc) (kn : ∀ (v9 : Option Value) (h9 : gm_H), Qc (.inl v9) h9 → gm_W E d 30 148 lv (v9.toList ++ st) h9 Q) (kx : ∀ (x9 : Nat) (h9 : gm_H), Qc (.inr x9) h9 → Q (.inr x9) h9) : gm_W E d 30 145 lv (.int b0 :: .ref a :: st) h Q := gw_call (gn_call m30 f30_145 rfl rfl rfl rfl rfl rfl rfl (gs_virt (bs := [.int b0]) (w := 872) (L := 2) rfl rfl rfl rfl hs (by simp [gm_en1]) hr (by decide)) (by decide)) m30 rfl rfl hd hc kn kx
theorem f30_148 : gm_ft 30 148 = some (.return_, 1) := by decide +kernel
theorem r30_148 {E : Nat → Value} {d : Nat} {h : gm_H} {Q : gm_R → gm_H → Prop} {lv : List Value} : gm_W E d 30 148 lv [] h Q ↔ Q (.inl none) h := gw_ret m30 f30_148 rfl rfl rfl rfl rfl rfl rfl rfl rfl
/-! GraphReaderModel.named(IIZ)Z -/
theorem m31 : gm_mt[31]? = some (⟨"GraphReaderModel", "named", "(IIZ)Z"⟩, prog_7_method_30_code, 9, (some .boolean), [], 5, 2) := rfl
theorem f31_0 : gm_ft 31 0 = some (.iload_n 2, 1) := by decide +kernel
theorem r31_0 {E : Nat → Value} {d : Nat} {st : List Value} {h : gm_H} {Q : gm_R → gm_H → Prop} {a0 a1 a3 a4 a5 a6 a7 a8 : Value} {x : Int32} : gm_W E d 31 0 [a0, a1, .int x, a3, a4, a5, a6, a7, a8] st h Q ↔ gm_W E d 31 1 [a0, a1, .int x, a3, a4, a5, a6, a7, a8] (.int x :: st) h Q := gw_loc m31 f31_0 rfl rfl
theorem f31_1 : gm_ft 31 1 = some (.iload_n 3, 1) := by decide +kernel
theorem r31_1 {E : Nat → Value} {d : Nat} {st : List Value} {h : gm_H} {Q : gm_R → gm_H → Prop} {a0 a1 a2 a4 a5 a6 a7 a8 : Value} {x : Int32} : gm_W E d 31 1 [a0, a1, a2, .int x, a4, a5, a6, a7, a8] st h Q ↔ gm_W E d 31 2 [a0, a1, a2, .int x, a4, a5, a6, a7, a8] (.int x :: st) h Q := gw_loc m31 f31_1 rfl rfl
theorem f31_2 : gm_ft 31 2 = some (.ifCond .eq 7, 3) := by decide +kernel
theorem r31_2 {E : Nat → Value} {d : Nat} {st : List Value} {h : gm_H} {Q : gm_R → gm_H → Prop} {lv : List Value} {x : Int32} : gm_W E d 31 2 lv (.int x :: st) h Q ↔ (if x = 0 then gm_W E d 31 9 lv st h Q else gm_W E d 31 5 lv st h Q) := (gw_br m31 f31_2 rfl rfl rfl rfl).trans gw_if
theorem f31_5 : gm_ft 31 5 = some (.iconst 2, 1) := by decide +kernel
theorem r31_5 {E : Nat → Value} {d : Nat} {st : List Value} {h : gm_H} {Q : gm_R → gm_H → Prop} {lv : List Value} : gm_W E d 31 5 lv st h Q ↔ gm_W E d 31 6 lv (.int (2 : Int32) :: st) h Q := gw_pure m31 f31_5 rfl
theorem f31_6 : gm_ft 31 6 = some (.goto 5, 3) := by decide +kernel
theorem r31_6 {E : Nat → Value} {d : Nat} {st : List Value} {h : gm_H} {Q : gm_R → gm_H → Prop} {lv : List Value} : gm_W E d 31 6 lv st h Q ↔ gm_W E d 31 11 lv st h Q := gw_brT m31 f31_6 rfl rfl rfl rfl
theorem f31_9 : gm_ft 31 9 = some (.bipush 19, 2) := by decide +kernel
theorem r31_9 {E : Nat → Value} {d : Nat} {st : List Value} {h : gm_H} {Q : gm_R → gm_H → Prop} {lv : List Value} : gm_W E d 31 9 lv st h Q ↔ gm_W E d 31 11 lv (.int (19 : Int32) :: st) h Q := gw_pure m31 f31_9 rfl
theorem f31_11 : gm_ft 31 11 = some (.if_icmp .ne 14, 3) := by decide +kernel
theorem r31_11 {E : Nat → Value} {d : Nat} {st : List Value} {h : gm_H} {Q : gm_R → gm_H → Prop} {lv : List Value} {x y : Int32} : gm_W E d 31 11 lv (.int y :: .int x :: st) h Q ↔ (if x = y then gm_W E d 31 14 lv st h Q else gm_W E d 31 25 lv st h Q) := (gw_br m31 f31_11 rfl rfl rfl rfl).trans gw_ifn
theorem f31_14 : gm_ft 31 14 = some (.aload_n 0, 1) := by decide +kernel
theorem r31_14 {E : Nat → Value} {d : Nat} {st : List Value} {h : gm_H} {Q : gm_R → gm_H → Prop} {a1 a2 a3 a4 a5 a6 a7 a8 : Value} {x : Nat} : gm_W E d 31 14 [.ref x, a1, a2, a3, a4, a5, a6, a7, a8] st h Q ↔ gm_W E d 31 15 [.ref x, a1, a2, a3, a4, a5, a6, a7, a8] (.ref x :: st) h Q := gw_loc m31 f31_14 rfl rfl
theorem r31_14n {E : Nat → Value} {d : Nat} {st : List Value} {h : gm_H} {Q : gm_R → gm_H → Prop} {a1 a2 a3 a4 a5 a6 a7 a8 : Value}  : gm_W E d 31 14 [.null, a1, a2, a3, a4, a5, a6, a7, a8] st h Q ↔ gm_W E d 31 15 [.null, a1, a2, a3, a4, a5, a6, a7, a8] (.null :: st) h Q := gw_loc m31 f31_14 rfl rfl
theorem f31_15 : gm_ft 31 15 = some (.getfield 7, 3) := by decide +kernel
theorem r31_15 {E : Nat → Value} {d : Nat} {st : List Value} {h : gm_H} {Q : gm_R → gm_H → Prop} {lv : List Value} {a : Nat} (hk : gm_kd h a = 5) : gm_W E d 31 15 lv (.ref a :: st) h Q ↔ gm_W E d 31 18 lv (gm_fv h a 4 :: st) h Q := gw_rd m31 f31_15 rfl rfl rfl rfl (gs_get k5_7 hk (by decide))
theorem f31_18 : gm_ft 31 18 = some (.iload_n 1, 1) := by decide +kernel
theorem r31_18 {E : Nat → Value} {d : Nat} {st : List Value} {h : gm_H} {Q : gm_R → gm_H → Prop} {a0 a2 a3 a4 a5 a6 a7 a8 : Value} {x : Int32} : gm_W E d 31 18 [a0, .int x, a2, a3, a4, a5, a6, a7, a8] st h Q ↔ gm_W E d 31 19 [a0, .int x, a2, a3, a4, a5, a6, a7, a8] (.int x :: st) h Q := gw_loc m31 f31_18 rfl rfl
theorem f31_19 : gm_ft 31 19 = some (.iaload, 1) := by decide +kernel
theorem r31_19 {E : Nat → Value} {d : Nat} {st : List Value} {h : gm_H} {Q : gm_R → gm_H → Prop} {lv : List Value} {a j : Nat} (hk : gm_kd h a % 100 = 0 ∧ 100 ≤ gm_kd h a ∧ gm_kd h a < 900) (hj : j < gm_ln h a) (hl : gm_ln h a < 2 ^ 31) : gm_W E d 31 19 lv (.int (nI j) :: .ref a :: st) h Q ↔ gm_W E d 31 20 lv (gm_fv h a j :: st) h Q := gw_rd m31 f31_19 rfl rfl rfl rfl (gs_ld (P := fun t => t == 0) hk.2 (by have := hk.1; simp [this] <;> omega) hj hl)
theorem f31_20 : gm_ft 31 20 = some (.bipush 91, 2) := by decide +kernel
theorem r31_20 {E : Nat → Value} {d : Nat} {st : List Value} {h : gm_H} {Q : gm_R → gm_H → Prop} {lv : List Value} : gm_W E d 31 20 lv st h Q ↔ gm_W E d 31 22 lv (.int (91 : Int32) :: st) h Q := gw_pure m31 f31_20 rfl
theorem f31_22 : gm_ft 31 22 = some (.if_icmp .eq 5, 3) := by decide +kernel
theorem r31_22 {E : Nat → Value} {d : Nat} {st : List Value} {h : gm_H} {Q : gm_R → gm_H → Prop} {lv : List Value} {x y : Int32} : gm_W E d 31 22 lv (.int y :: .int x :: st) h Q ↔ (if x = y then gm_W E d 31 27 lv st h Q else gm_W E d 31 25 lv st h Q) := (gw_br m31 f31_22 rfl rfl rfl rfl).trans gw_if
theorem f31_25 : gm_ft 31 25 = some (.iconst 0, 1) := by decide +kernel
theorem r31_25 {E : Nat → Value} {d : Nat} {st : List Value} {h : gm_H} {Q : gm_R → gm_H → Prop} {lv : List Value} : gm_W E d 31 25 lv st h Q ↔ gm_W E d 31 26 lv (.int (0 : Int32) :: st) h Q := gw_pure m31 f31_25 rfl
theorem f31_26 : gm_ft 31 26 = some (.ireturn, 1) := by decide +kernel
theorem r31_26 {E : Nat → Value} {d : Nat} {h : gm_H} {Q : gm_R → gm_H → Prop} {lv : List Value} {x : Int32} (hx : x = 0 ∨ x = 1) : gm_W E d 31 26 lv [.int x] h Q ↔ Q (.inl (some (.int x))) h := gw_ret m31 f31_26 rfl rfl rfl rfl rfl rfl rfl rfl (by unfold gm_rt; dsimp only; rw [if_pos ⟨rfl, (gs_nb hx).1⟩])
theorem f31_27 : gm_ft 31 27 = some (.iload_n 3, 1) := by decide +kernel
theorem r31_27 {E : Nat → Value} {d : Nat} {st : List Value} {h : gm_H} {Q : gm_R → gm_H → Prop} {a0 a1 a2 a4 a5 a6 a7 a8 : Value} {x : Int32} : gm_W E d 31 27 [a0, a1, a2, .int x, a4, a5, a6, a7, a8] st h Q ↔ gm_W E d 31 28 [a0, a1, a2, .int x, a4, a5, a6, a7, a8] (.int x :: st) h Q := gw_loc m31 f31_27 rfl rfl
theorem f31_28 : gm_ft 31 28 = some (.ifCond .eq 22, 3) := by decide +kernel
theorem r31_28 {E : Nat → Value} {d : Nat} {st : List Value} {h : gm_H} {Q : gm_R → gm_H → Prop} {lv : List Value} {x : Int32} : gm_W E d 31 28 lv (.int x :: st) h Q ↔ (if x = 0 then gm_W E d 31 50 lv st h Q else gm_W E d 31 31 lv st h Q) := (gw_br m31 f31_28 rfl rfl rfl rfl).trans gw_if
theorem f31_31 : gm_ft 31 31 = some (.aload_n 0, 1) := by decide +kernel
theorem r31_31 {E : Nat → Value} {d : Nat} {st : List Value} {h : gm_H} {Q : gm_R → gm_H → Prop} {a1 a2 a3 a4 a5 a6 a7 a8 : Value} {x : Nat} : gm_W E d 31 31 [.ref x, a1, a2, a3, a4, a5, a6, a7, a8] st h Q ↔ gm_W E d 31 32 [.ref x, a1, a2, a3, a4, a5, a6, a7, a8] (.ref x :: st) h Q := gw_loc m31 f31_31 rfl rfl
theorem r31_31n {E : Nat → Value} {d : Nat} {st : List Value} {h : gm_H} {Q : gm_R → gm_H → Prop} {a1 a2 a3 a4 a5 a6 a7 a8 : Value}  : gm_W E d 31 31 [.null, a1, a2, a3, a4, a5, a6, a7, a8] st h Q ↔ gm_W E d 31 32 [.null, a1, a2, a3, a4, a5, a6, a7, a8] (.null :: st) h Q := gw_loc m31 f31_31 rfl rfl
theorem f31_32 : gm_ft 31 32 = some (.getfield 7, 3) := by decide +kernel
theorem r31_32 {E : Nat → Value} {d : Nat} {st : List Value} {h : gm_H} {Q : gm_R → gm_H → Prop} {lv : List Value} {a : Nat} (hk : gm_kd h a = 5) : gm_W E d 31 32 lv (.ref a :: st) h Q ↔ gm_W E d 31 35 lv (gm_fv h a 4 :: st) h Q := gw_rd m31 f31_32 rfl rfl rfl rfl (gs_get k5_7 hk (by decide))
theorem f31_35 : gm_ft 31 35 = some (.iload_n 1, 1) := by decide +kernel
theorem r31_35 {E : Nat → Value} {d : Nat} {st : List Value} {h : gm_H} {Q : gm_R → gm_H → Prop} {a0 a2 a3 a4 a5 a6 a7 a8 : Value} {x : Int32} : gm_W E d 31 35 [a0, .int x, a2, a3, a4, a5, a6, a7, a8] st h Q ↔ gm_W E d 31 36 [a0, .int x, a2, a3, a4, a5, a6, a7, a8] (.int x :: st) h Q := gw_loc m31 f31_35 rfl rfl
theorem f31_36 : gm_ft 31 36 = some (.iconst 1, 1) := by decide +kernel
theorem r31_36 {E : Nat → Value} {d : Nat} {st : List Value} {h : gm_H} {Q : gm_R → gm_H → Prop} {lv : List Value} : gm_W E d 31 36 lv st h Q ↔ gm_W E d 31 37 lv (.int (1 : Int32) :: st) h Q := gw_pure m31 f31_36 rfl
theorem f31_37 : gm_ft 31 37 = some (.iadd, 1) := by decide +kernel
theorem r31_37 {E : Nat → Value} {d : Nat} {st : List Value} {h : gm_H} {Q : gm_R → gm_H → Prop} {lv : List Value} {x y : Int32} : gm_W E d 31 37 lv (.int y :: .int x :: st) h Q ↔ gm_W E d 31 38 lv (.int (x + y) :: st) h Q := gw_pure m31 f31_37 rfl
theorem f31_38 : gm_ft 31 38 = some (.iaload, 1) := by decide +kernel
theorem r31_38 {E : Nat → Value} {d : Nat} {st : List Value} {h : gm_H} {Q : gm_R → gm_H → Prop} {lv : List Value} {a j : Nat} (hk : gm_kd h a % 100 = 0 ∧ 100 ≤ gm_kd h a ∧ gm_kd h a < 900) (hj : j < gm_ln h a) (hl : gm_ln h a < 2 ^ 31) : gm_W E d 31 38 lv (.int (nI j) :: .ref a :: st) h Q ↔ gm_W E d 31 39 lv (gm_fv h a j :: st) h Q := gw_rd m31 f31_38 rfl rfl rfl rfl (gs_ld (P := fun t => t == 0) hk.2 (by have := hk.1; simp [this] <;> omega) hj hl)
theorem f31_39 : gm_ft 31 39 = some (.bipush 73, 2) := by decide +kernel
theorem r31_39 {E : Nat → Value} {d : Nat} {st : List Value} {h : gm_H} {Q : gm_R → gm_H → Prop} {lv : List Value} : gm_W E d 31 39 lv st h Q ↔ gm_W E d 31 41 lv (.int (73 : Int32) :: st) h Q := gw_pure m31 f31_39 rfl
theorem f31_41 : gm_ft 31 41 = some (.if_icmp .ne 7, 3) := by decide +kernel
theorem r31_41 {E : Nat → Value} {d : Nat} {st : List Value} {h : gm_H} {Q : gm_R → gm_H → Prop} {lv : List Value} {x y : Int32} : gm_W E d 31 41 lv (.int y :: .int x :: st) h Q ↔ (if x = y then gm_W E d 31 44 lv st h Q else gm_W E d 31 48 lv st h Q) := (gw_br m31 f31_41 rfl rfl rfl rfl).trans gw_ifn
theorem f31_44 : gm_ft 31 44 = some (.iconst 1, 1) := by decide +kernel
theorem r31_44 {E : Nat → Value} {d : Nat} {st : List Value} {h : gm_H} {Q : gm_R → gm_H → Prop} {lv : List Value} : gm_W E d 31 44 lv st h Q ↔ gm_W E d 31 45 lv (.int (1 : Int32) :: st) h Q := gw_pure m31 f31_44 rfl
theorem f31_45 : gm_ft 31 45 = some (.goto 4, 3) := by decide +kernel
theorem r31_45 {E : Nat → Value} {d : Nat} {st : List Value} {h : gm_H} {Q : gm_R → gm_H → Prop} {lv : List Value} : gm_W E d 31 45 lv st h Q ↔ gm_W E d 31 49 lv st h Q := gw_brT m31 f31_45 rfl rfl rfl rfl
theorem f31_48 : gm_ft 31 48 = some (.iconst 0, 1) := by decide +kernel
theorem r31_48 {E : Nat → Value} {d : Nat} {st : List Value} {h : gm_H} {Q : gm_R → gm_H → Prop} {lv : List Value} : gm_W E d 31 48 lv st h Q ↔ gm_W E d 31 49 lv (.int (0 : Int32) :: st) h Q := gw_pure m31 f31_48 rfl
theorem f31_49 : gm_ft 31 49 = some (.ireturn, 1) := by decide +kernel
theorem r31_49 {E : Nat → Value} {d : Nat} {h : gm_H} {Q : gm_R → gm_H → Prop} {lv : List Value} {x : Int32} (hx : x = 0 ∨ x = 1) : gm_W E d 31 49 lv [.int x] h Q ↔ Q (.inl (some (.int x))) h := gw_ret m31 f31_49 rfl rfl rfl rfl rfl rfl rfl rfl (by unfold gm_rt; dsimp only; rw [if_pos ⟨rfl, (gs_nb hx).1⟩])
theorem f31_50 : gm_ft 31 50 = some (.lconst 0, 1) := by decide +kernel
theorem r31_50 {E : Nat → Value} {d : Nat} {st : List Value} {h : gm_H} {Q : gm_R → gm_H → Prop} {lv : List Value} : gm_W E d 31 50 lv st h Q ↔ gm_W E d 31 51 lv (.long 0 :: st) h Q := gw_pure m31 f31_50 rfl
theorem f31_51 : gm_ft 31 51 = some (.lstore 4, 2) := by decide +kernel
theorem r31_51 {E : Nat → Value} {d : Nat} {st : List Value} {h : gm_H} {Q : gm_R → gm_H → Prop} {a0 a1 a2 a3 a4 a5 a6 a7 a8 : Value} {x : Int64} : gm_W E d 31 51 [a0, a1, a2, a3, a4, a5, a6, a7, a8] (.long x :: st) h Q ↔ gm_W E d 31 53 [a0, a1, a2, gm_k a3, .long x, gm_u, a6, a7, a8] st h Q := gw_loc m31 f31_51 rfl rfl
theorem f31_53 : gm_ft 31 53 = some (.lconst 0, 1) := by decide +kernel
theorem r31_53 {E : Nat → Value} {d : Nat} {st : List Value} {h : gm_H} {Q : gm_R → gm_H → Prop} {lv : List Value} : gm_W E d 31 53 lv st h Q ↔ gm_W E d 31 54 lv (.long 0 :: st) h Q := gw_pure m31 f31_53 rfl
theorem f31_54 : gm_ft 31 54 = some (.lstore 6, 2) := by decide +kernel
theorem r31_54 {E : Nat → Value} {d : Nat} {st : List Value} {h : gm_H} {Q : gm_R → gm_H → Prop} {a0 a1 a2 a3 a4 a5 a6 a7 a8 : Value} {x : Int64} : gm_W E d 31 54 [a0, a1, a2, a3, a4, a5, a6, a7, a8] (.long x :: st) h Q ↔ gm_W E d 31 56 [a0, a1, a2, a3, a4, gm_k a5, .long x, gm_u, a8] st h Q := gw_loc m31 f31_54 rfl rfl
theorem f31_56 : gm_ft 31 56 = some (.iconst 1, 1) := by decide +kernel
theorem r31_56 {E : Nat → Value} {d : Nat} {st : List Value} {h : gm_H} {Q : gm_R → gm_H → Prop} {lv : List Value} : gm_W E d 31 56 lv st h Q ↔ gm_W E d 31 57 lv (.int (1 : Int32) :: st) h Q := gw_pure m31 f31_56 rfl
theorem f31_57 : gm_ft 31 57 = some (.istore 8, 2) := by decide +kernel
theorem r31_57 {E : Nat → Value} {d : Nat} {st : List Value} {h : gm_H} {Q : gm_R → gm_H → Prop} {a0 a1 a2 a3 a4 a5 a6 a7 a8 : Value} {x : Int32} : gm_W E d 31 57 [a0, a1, a2, a3, a4, a5, a6, a7, a8] (.int x :: st) h Q ↔ gm_W E d 31 59 [a0, a1, a2, a3, a4, a5, a6, gm_k a7, .int x] st h Q := gw_loc m31 f31_57 rfl rfl
theorem f31_59 : gm_ft 31 59 = some (.iload 8, 2) := by decide +kernel
theorem r31_59 {E : Nat → Value} {d : Nat} {st : List Value} {h : gm_H} {Q : gm_R → gm_H → Prop} {a0 a1 a2 a3 a4 a5 a6 a7 : Value} {x : Int32} : gm_W E d 31 59 [a0, a1, a2, a3, a4, a5, a6, a7, .int x] st h Q ↔ gm_W E d 31 61 [a0, a1, a2, a3, a4, a5, a6, a7, .int x] (.int x :: st) h Q := gw_loc m31 f31_59 rfl rfl
theorem f31_61 : gm_ft 31 61 = some (.bipush 9, 2) := by decide +kernel
theorem r31_61 {E : Nat → Value} {d : Nat} {st : List Value} {h : gm_H} {Q : gm_R → gm_H → Prop} {lv : List Value} : gm_W E d 31 61 lv st h Q ↔ gm_W E d 31 63 lv (.int (9 : Int32) :: st) h Q := gw_pure m31 f31_61 rfl
theorem f31_63 : gm_ft 31 63 = some (.if_icmp .ge 27, 3) := by decide +kernel
theorem r31_63 {E : Nat → Value} {d : Nat} {st : List Value} {h : gm_H} {Q : gm_R → gm_H → Prop} {lv : List Value} {x y : Int32} : gm_W E d 31 63 lv (.int y :: .int x :: st) h Q ↔ (if y ≤ x then gm_W E d 31 90 lv st h Q else gm_W E d 31 66 lv st h Q) := (gw_br m31 f31_63 rfl rfl rfl rfl).trans gw_if
theorem f31_66 : gm_ft 31 66 = some (.lload 4, 2) := by decide +kernel
theorem r31_66 {E : Nat → Value} {d : Nat} {st : List Value} {h : gm_H} {Q : gm_R → gm_H → Prop} {a0 a1 a2 a3 a5 a6 a7 a8 : Value} {x : Int64} : gm_W E d 31 66 [a0, a1, a2, a3, .long x, a5, a6, a7, a8] st h Q ↔ gm_W E d 31 68 [a0, a1, a2, a3, .long x, a5, a6, a7, a8] (.long x :: st) h Q := gw_loc m31 f31_66 rfl rfl
theorem f31_68 : gm_ft 31 68 = some (.bipush 8, 2) := by decide +kernel
theorem r31_68 {E : Nat → Value} {d : Nat} {st : List Value} {h : gm_H} {Q : gm_R → gm_H → Prop} {lv : List Value} : gm_W E d 31 68 lv st h Q ↔ gm_W E d 31 70 lv (.int (8 : Int32) :: st) h Q := gw_pure m31 f31_68 rfl
theorem f31_70 : gm_ft 31 70 = some (.lshl, 1) := by decide +kernel
theorem r31_70 {E : Nat → Value} {d : Nat} {st : List Value} {h : gm_H} {Q : gm_R → gm_H → Prop} {lv : List Value} {x : Int64} {y : Int32} : gm_W E d 31 70 lv (.int y :: .long x :: st) h Q ↔ gm_W E d 31 71 lv (.long (x <<< (y.toInt64 &&& 63)) :: st) h Q := gw_pure m31 f31_70 rfl
theorem f31_71 : gm_ft 31 71 = some (.aload_n 0, 1) := by decide +kernel
theorem r31_71 {E : Nat → Value} {d : Nat} {st : List Value} {h : gm_H} {Q : gm_R → gm_H → Prop} {a1 a2 a3 a4 a5 a6 a7 a8 : Value} {x : Nat} : gm_W E d 31 71 [.ref x, a1, a2, a3, a4, a5, a6, a7, a8] st h Q ↔ gm_W E d 31 72 [.ref x, a1, a2, a3, a4, a5, a6, a7, a8] (.ref x :: st) h Q := gw_loc m31 f31_71 rfl rfl
theorem r31_71n {E : Nat → Value} {d : Nat} {st : List Value} {h : gm_H} {Q : gm_R → gm_H → Prop} {a1 a2 a3 a4 a5 a6 a7 a8 : Value}  : gm_W E d 31 71 [.null, a1, a2, a3, a4, a5, a6, a7, a8] st h Q ↔ gm_W E d 31 72 [.null, a1, a2, a3, a4, a5, a6, a7, a8] (.null :: st) h Q := gw_loc m31 f31_71 rfl rfl
theorem f31_72 : gm_ft 31 72 = some (.getfield 7, 3) := by decide +kernel
theorem r31_72 {E : Nat → Value} {d : Nat} {st : List Value} {h : gm_H} {Q : gm_R → gm_H → Prop} {lv : List Value} {a : Nat} (hk : gm_kd h a = 5) : gm_W E d 31 72 lv (.ref a :: st) h Q ↔ gm_W E d 31 75 lv (gm_fv h a 4 :: st) h Q := gw_rd m31 f31_72 rfl rfl rfl rfl (gs_get k5_7 hk (by decide))
theorem f31_75 : gm_ft 31 75 = some (.iload_n 1, 1) := by decide +kernel
theorem r31_75 {E : Nat → Value} {d : Nat} {st : List Value} {h : gm_H} {Q : gm_R → gm_H → Prop} {a0 a2 a3 a4 a5 a6 a7 a8 : Value} {x : Int32} : gm_W E d 31 75 [a0, .int x, a2, a3, a4, a5, a6, a7, a8] st h Q ↔ gm_W E d 31 76 [a0, .int x, a2, a3, a4, a5, a6, a7, a8] (.int x :: st) h Q := gw_loc m31 f31_75 rfl rfl
theorem f31_76 : gm_ft 31 76 = some (.iload 8, 2) := by decide +kernel
theorem r31_76 {E : Nat → Value} {d : Nat} {st : List Value} {h : gm_H} {Q : gm_R → gm_H → Prop} {a0 a1 a2 a3 a4 a5 a6 a7 : Value} {x : Int32} : gm_W E d 31 76 [a0, a1, a2, a3, a4, a5, a6, a7, .int x] st h Q ↔ gm_W E d 31 78 [a0, a1, a2, a3, a4, a5, a6, a7, .int x] (.int x :: st) h Q := gw_loc m31 f31_76 rfl rfl
theorem f31_78 : gm_ft 31 78 = some (.iadd, 1) := by decide +kernel
theorem r31_78 {E : Nat → Value} {d : Nat} {st : List Value} {h : gm_H} {Q : gm_R → gm_H → Prop} {lv : List Value} {x y : Int32} : gm_W E d 31 78 lv (.int y :: .int x :: st) h Q ↔ gm_W E d 31 79 lv (.int (x + y) :: st) h Q := gw_pure m31 f31_78 rfl
theorem f31_79 : gm_ft 31 79 = some (.iaload, 1) := by decide +kernel
theorem r31_79 {E : Nat → Value} {d : Nat} {st : List Value} {h : gm_H} {Q : gm_R → gm_H → Prop} {lv : List Value} {a j : Nat} (hk : gm_kd h a % 100 = 0 ∧ 100 ≤ gm_kd h a ∧ gm_kd h a < 900) (hj : j < gm_ln h a) (hl : gm_ln h a < 2 ^ 31) : gm_W E d 31 79 lv (.int (nI j) :: .ref a :: st) h Q ↔ gm_W E d 31 80 lv (gm_fv h a j :: st) h Q := gw_rd m31 f31_79 rfl rfl rfl rfl (gs_ld (P := fun t => t == 0) hk.2 (by have := hk.1; simp [this] <;> omega) hj hl)
theorem f31_80 : gm_ft 31 80 = some (.i2l, 1) := by decide +kernel
theorem r31_80 {E : Nat → Value} {d : Nat} {st : List Value} {h : gm_H} {Q : gm_R → gm_H → Prop} {lv : List Value} {x : Int32} : gm_W E d 31 80 lv (.int x :: st) h Q ↔ gm_W E d 31 81 lv (.long (x.toInt64) :: st) h Q := gw_pure m31 f31_80 rfl
theorem f31_81 : gm_ft 31 81 = some (.lor, 1) := by decide +kernel
theorem r31_81 {E : Nat → Value} {d : Nat} {st : List Value} {h : gm_H} {Q : gm_R → gm_H → Prop} {lv : List Value} {x y : Int64} : gm_W E d 31 81 lv (.long y :: .long x :: st) h Q ↔ gm_W E d 31 82 lv (.long (x ||| y) :: st) h Q := gw_pure m31 f31_81 rfl
theorem f31_82 : gm_ft 31 82 = some (.lstore 4, 2) := by decide +kernel
theorem r31_82 {E : Nat → Value} {d : Nat} {st : List Value} {h : gm_H} {Q : gm_R → gm_H → Prop} {a0 a1 a2 a3 a4 a5 a6 a7 a8 : Value} {x : Int64} : gm_W E d 31 82 [a0, a1, a2, a3, a4, a5, a6, a7, a8] (.long x :: st) h Q ↔ gm_W E d 31 84 [a0, a1, a2, gm_k a3, .long x, gm_u, a6, a7, a8] st h Q := gw_loc m31 f31_82 rfl rfl
theorem f31_84 : gm_ft 31 84 = some (.iinc 8 1, 3) := by decide +kernel
theorem r31_84 {E : Nat → Value} {d : Nat} {st : List Value} {h : gm_H} {Q : gm_R → gm_H → Prop} {a0 a1 a2 a3 a4 a5 a6 a7 : Value} {x : Int32} : gm_W E d 31 84 [a0, a1, a2, a3, a4, a5, a6, a7, .int x] st h Q ↔ gm_W E d 31 87 [a0, a1, a2, a3, a4, a5, a6, gm_k a7, .int (x + (1 : Int32))] st h Q := gw_loc m31 f31_84 rfl rfl
theorem f31_87 : gm_ft 31 87 = some (.goto (-28), 3) := by decide +kernel
theorem r31_87 {E : Nat → Value} {d : Nat} {st : List Value} {h : gm_H} {Q : gm_R → gm_H → Prop} {lv : List Value} : gm_W E d 31 87 lv st h Q ↔ gm_W E d 31 59 lv st h Q := gw_brT m31 f31_87 rfl rfl rfl rfl
theorem f31_90 : gm_ft 31 90 = some (.bipush 9, 2) := by decide +kernel
theorem r31_90 {E : Nat → Value} {d : Nat} {st : List Value} {h : gm_H} {Q : gm_R → gm_H → Prop} {lv : List Value} : gm_W E d 31 90 lv st h Q ↔ gm_W E d 31 92 lv (.int (9 : Int32) :: st) h Q := gw_pure m31 f31_90 rfl
theorem f31_92 : gm_ft 31 92 = some (.istore 8, 2) := by decide +kernel
theorem r31_92 {E : Nat → Value} {d : Nat} {st : List Value} {h : gm_H} {Q : gm_R → gm_H → Prop} {a0 a1 a2 a3 a4 a5 a6 a7 a8 : Value} {x : Int32} : gm_W E d 31 92 [a0, a1, a2, a3, a4, a5, a6, a7, a8] (.int x :: st) h Q ↔ gm_W E d 31 94 [a0, a1, a2, a3, a4, a5, a6, gm_k a7, .int x] st h Q := gw_loc m31 f31_92 rfl rfl
theorem f31_94 : gm_ft 31 94 = some (.iload 8, 2) := by decide +kernel
theorem r31_94 {E : Nat → Value} {d : Nat} {st : List Value} {h : gm_H} {Q : gm_R → gm_H → Prop} {a0 a1 a2 a3 a4 a5 a6 a7 : Value} {x : Int32} : gm_W E d 31 94 [a0, a1, a2, a3, a4, a5, a6, a7, .int x] st h Q ↔ gm_W E d 31 96 [a0, a1, a2, a3, a4, a5, a6, a7, .int x] (.int x :: st) h Q := gw_loc m31 f31_94 rfl rfl
theorem f31_96 : gm_ft 31 96 = some (.bipush 17, 2) := by decide +kernel
theorem r31_96 {E : Nat → Value} {d : Nat} {st : List Value} {h : gm_H} {Q : gm_R → gm_H → Prop} {lv : List Value} : gm_W E d 31 96 lv st h Q ↔ gm_W E d 31 98 lv (.int (17 : Int32) :: st) h Q := gw_pure m31 f31_96 rfl
theorem f31_98 : gm_ft 31 98 = some (.if_icmp .ge 27, 3) := by decide +kernel
theorem r31_98 {E : Nat → Value} {d : Nat} {st : List Value} {h : gm_H} {Q : gm_R → gm_H → Prop} {lv : List Value} {x y : Int32} : gm_W E d 31 98 lv (.int y :: .int x :: st) h Q ↔ (if y ≤ x then gm_W E d 31 125 lv st h Q else gm_W E d 31 101 lv st h Q) := (gw_br m31 f31_98 rfl rfl rfl rfl).trans gw_if
theorem f31_101 : gm_ft 31 101 = some (.lload 6, 2) := by decide +kernel
theorem r31_101 {E : Nat → Value} {d : Nat} {st : List Value} {h : gm_H} {Q : gm_R → gm_H → Prop} {a0 a1 a2 a3 a4 a5 a7 a8 : Value} {x : Int64} : gm_W E d 31 101 [a0, a1, a2, a3, a4, a5, .long x, a7, a8] st h Q ↔ gm_W E d 31 103 [a0, a1, a2, a3, a4, a5, .long x, a7, a8] (.long x :: st) h Q := gw_loc m31 f31_101 rfl rfl
theorem f31_103 : gm_ft 31 103 = some (.bipush 8, 2) := by decide +kernel
theorem r31_103 {E : Nat → Value} {d : Nat} {st : List Value} {h : gm_H} {Q : gm_R → gm_H → Prop} {lv : List Value} : gm_W E d 31 103 lv st h Q ↔ gm_W E d 31 105 lv (.int (8 : Int32) :: st) h Q := gw_pure m31 f31_103 rfl
theorem f31_105 : gm_ft 31 105 = some (.lshl, 1) := by decide +kernel
theorem r31_105 {E : Nat → Value} {d : Nat} {st : List Value} {h : gm_H} {Q : gm_R → gm_H → Prop} {lv : List Value} {x : Int64} {y : Int32} : gm_W E d 31 105 lv (.int y :: .long x :: st) h Q ↔ gm_W E d 31 106 lv (.long (x <<< (y.toInt64 &&& 63)) :: st) h Q := gw_pure m31 f31_105 rfl
theorem f31_106 : gm_ft 31 106 = some (.aload_n 0, 1) := by decide +kernel
theorem r31_106 {E : Nat → Value} {d : Nat} {st : List Value} {h : gm_H} {Q : gm_R → gm_H → Prop} {a1 a2 a3 a4 a5 a6 a7 a8 : Value} {x : Nat} : gm_W E d 31 106 [.ref x, a1, a2, a3, a4, a5, a6, a7, a8] st h Q ↔ gm_W E d 31 107 [.ref x, a1, a2, a3, a4, a5, a6, a7, a8] (.ref x :: st) h Q := gw_loc m31 f31_106 rfl rfl
theorem r31_106n {E : Nat → Value} {d : Nat} {st : List Value} {h : gm_H} {Q : gm_R → gm_H → Prop} {a1 a2 a3 a4 a5 a6 a7 a8 : Value}  : gm_W E d 31 106 [.null, a1, a2, a3, a4, a5, a6, a7, a8] st h Q ↔ gm_W E d 31 107 [.null, a1, a2, a3, a4, a5, a6, a7, a8] (.null :: st) h Q := gw_loc m31 f31_106 rfl rfl
theorem f31_107 : gm_ft 31 107 = some (.getfield 7, 3) := by decide +kernel
theorem r31_107 {E : Nat → Value} {d : Nat} {st : List Value} {h : gm_H} {Q : gm_R → gm_H → Prop} {lv : List Value} {a : Nat} (hk : gm_kd h a = 5) : gm_W E d 31 107 lv (.ref a :: st) h Q ↔ gm_W E d 31 110 lv (gm_fv h a 4 :: st) h Q := gw_rd m31 f31_107 rfl rfl rfl rfl (gs_get k5_7 hk (by decide))
theorem f31_110 : gm_ft 31 110 = some (.iload_n 1, 1) := by decide +kernel
theorem r31_110 {E : Nat → Value} {d : Nat} {st : List Value} {h : gm_H} {Q : gm_R → gm_H → Prop} {a0 a2 a3 a4 a5 a6 a7 a8 : Value} {x : Int32} : gm_W E d 31 110 [a0, .int x, a2, a3, a4, a5, a6, a7, a8] st h Q ↔ gm_W E d 31 111 [a0, .int x, a2, a3, a4, a5, a6, a7, a8] (.int x :: st) h Q := gw_loc m31 f31_110 rfl rfl
theorem f31_111 : gm_ft 31 111 = some (.iload 8, 2) := by decide +kernel
theorem r31_111 {E : Nat → Value} {d : Nat} {st : List Value} {h : gm_H} {Q : gm_R → gm_H → Prop} {a0 a1 a2 a3 a4 a5 a6 a7 : Value} {x : Int32} : gm_W E d 31 111 [a0, a1, a2, a3, a4, a5, a6, a7, .int x] st h Q ↔ gm_W E d 31 113 [a0, a1, a2, a3, a4, a5, a6, a7, .int x] (.int x :: st) h Q := gw_loc m31 f31_111 rfl rfl
theorem f31_113 : gm_ft 31 113 = some (.iadd, 1) := by decide +kernel
theorem r31_113 {E : Nat → Value} {d : Nat} {st : List Value} {h : gm_H} {Q : gm_R → gm_H → Prop} {lv : List Value} {x y : Int32} : gm_W E d 31 113 lv (.int y :: .int x :: st) h Q ↔ gm_W E d 31 114 lv (.int (x + y) :: st) h Q := gw_pure m31 f31_113 rfl
theorem f31_114 : gm_ft 31 114 = some (.iaload, 1) := by decide +kernel
theorem r31_114 {E : Nat → Value} {d : Nat} {st : List Value} {h : gm_H} {Q : gm_R → gm_H → Prop} {lv : List Value} {a j : Nat} (hk : gm_kd h a % 100 = 0 ∧ 100 ≤ gm_kd h a ∧ gm_kd h a < 900) (hj : j < gm_ln h a) (hl : gm_ln h a < 2 ^ 31) : gm_W E d 31 114 lv (.int (nI j) :: .ref a :: st) h Q ↔ gm_W E d 31 115 lv (gm_fv h a j :: st) h Q := gw_rd m31 f31_114 rfl rfl rfl rfl (gs_ld (P := fun t => t == 0) hk.2 (by have := hk.1; simp [this] <;> omega) hj hl)
theorem f31_115 : gm_ft 31 115 = some (.i2l, 1) := by decide +kernel
theorem r31_115 {E : Nat → Value} {d : Nat} {st : List Value} {h : gm_H} {Q : gm_R → gm_H → Prop} {lv : List Value} {x : Int32} : gm_W E d 31 115 lv (.int x :: st) h Q ↔ gm_W E d 31 116 lv (.long (x.toInt64) :: st) h Q := gw_pure m31 f31_115 rfl
theorem f31_116 : gm_ft 31 116 = some (.lor, 1) := by decide +kernel
theorem r31_116 {E : Nat → Value} {d : Nat} {st : List Value} {h : gm_H} {Q : gm_R → gm_H → Prop} {lv : List Value} {x y : Int64} : gm_W E d 31 116 lv (.long y :: .long x :: st) h Q ↔ gm_W E d 31 117 lv (.long (x ||| y) :: st) h Q := gw_pure m31 f31_116 rfl
theorem f31_117 : gm_ft 31 117 = some (.lstore 6, 2) := by decide +kernel
theorem r31_117 {E : Nat → Value} {d : Nat} {st : List Value} {h : gm_H} {Q : gm_R → gm_H → Prop} {a0 a1 a2 a3 a4 a5 a6 a7 a8 : Value} {x : Int64} : gm_W E d 31 117 [a0, a1, a2, a3, a4, a5, a6, a7, a8] (.long x :: st) h Q ↔ gm_W E d 31 119 [a0, a1, a2, a3, a4, gm_k a5, .long x, gm_u, a8] st h Q := gw_loc m31 f31_117 rfl rfl
theorem f31_119 : gm_ft 31 119 = some (.iinc 8 1, 3) := by decide +kernel
theorem r31_119 {E : Nat → Value} {d : Nat} {st : List Value} {h : gm_H} {Q : gm_R → gm_H → Prop} {a0 a1 a2 a3 a4 a5 a6 a7 : Value} {x : Int32} : gm_W E d 31 119 [a0, a1, a2, a3, a4, a5, a6, a7, .int x] st h Q ↔ gm_W E d 31 122 [a0, a1, a2, a3, a4, a5, a6, gm_k a7, .int (x + (1 : Int32))] st h Q := gw_loc m31 f31_119 rfl rfl
theorem f31_122 : gm_ft 31 122 = some (.goto (-28), 3) := by decide +kernel
theorem r31_122 {E : Nat → Value} {d : Nat} {st : List Value} {h : gm_H} {Q : gm_R → gm_H → Prop} {lv : List Value} : gm_W E d 31 122 lv st h Q ↔ gm_W E d 31 94 lv st h Q := gw_brT m31 f31_122 rfl rfl rfl rfl
theorem f31_125 : gm_ft 31 125 = some (.lload 4, 2) := by decide +kernel
theorem r31_125 {E : Nat → Value} {d : Nat} {st : List Value} {h : gm_H} {Q : gm_R → gm_H → Prop} {a0 a1 a2 a3 a5 a6 a7 a8 : Value} {x : Int64} : gm_W E d 31 125 [a0, a1, a2, a3, .long x, a5, a6, a7, a8] st h Q ↔ gm_W E d 31 127 [a0, a1, a2, a3, .long x, a5, a6, a7, a8] (.long x :: st) h Q := gw_loc m31 f31_125 rfl rfl
theorem f31_127 : gm_ft 31 127 = some (.ldc2_w 237, 3) := by decide +kernel
theorem r31_127 {E : Nat → Value} {d : Nat} {st : List Value} {h : gm_H} {Q : gm_R → gm_H → Prop} {lv : List Value} : gm_W E d 31 127 lv st h Q ↔ gm_W E d 31 130 lv (.long (5506320655478320225 : Int64) :: st) h Q := gw_rd m31 f31_127 rfl rfl rfl rfl rfl
theorem f31_130 : gm_ft 31 130 = some (.lcmp, 1) := by decide +kernel
theorem r31_130 {E : Nat → Value} {d : Nat} {st : List Value} {h : gm_H} {Q : gm_R → gm_H → Prop} {lv : List Value} {x y : Int64} : gm_W E d 31 130 lv (.long y :: .long x :: st) h Q ↔ gm_W E d 31 131 lv (.int (lg_cmp x y) :: st) h Q := gw_pure m31 f31_130 rfl
theorem f31_131 : gm_ft 31 131 = some (.ifCond .ne 44, 3) := by decide +kernel
theorem r31_131 {E : Nat → Value} {d : Nat} {st : List Value} {h : gm_H} {Q : gm_R → gm_H → Prop} {lv : List Value} {x : Int32} : gm_W E d 31 131 lv (.int x :: st) h Q ↔ (if x = 0 then gm_W E d 31 134 lv st h Q else gm_W E d 31 175 lv st h Q) := (gw_br m31 f31_131 rfl rfl rfl rfl).trans gw_ifn
theorem f31_134 : gm_ft 31 134 = some (.lload 6, 2) := by decide +kernel
theorem r31_134 {E : Nat → Value} {d : Nat} {st : List Value} {h : gm_H} {Q : gm_R → gm_H → Prop} {a0 a1 a2 a3 a4 a5 a7 a8 : Value} {x : Int64} : gm_W E d 31 134 [a0, a1, a2, a3, a4, a5, .long x, a7, a8] st h Q ↔ gm_W E d 31 136 [a0, a1, a2, a3, a4, a5, .long x, a7, a8] (.long x :: st) h Q := gw_loc m31 f31_134 rfl rfl
theorem f31_136 : gm_ft 31 136 = some (.ldc2_w 239, 3) := by decide +kernel
theorem r31_136 {E : Nat → Value} {d : Nat} {st : List Value} {h : gm_H} {Q : gm_R → gm_H → Prop} {lv : List Value} : gm_W E d 31 136 lv st h Q ↔ gm_W E d 31 139 lv (.long (7955378185261704547 : Int64) :: st) h Q := gw_rd m31 f31_136 rfl rfl rfl rfl rfl
theorem f31_139 : gm_ft 31 139 = some (.lcmp, 1) := by decide +kernel
theorem r31_139 {E : Nat → Value} {d : Nat} {st : List Value} {h : gm_H} {Q : gm_R → gm_H → Prop} {lv : List Value} {x y : Int64} : gm_W E d 31 139 lv (.long y :: .long x :: st) h Q ↔ gm_W E d 31 140 lv (.int (lg_cmp x y) :: st) h Q := gw_pure m31 f31_139 rfl
theorem f31_140 : gm_ft 31 140 = some (.ifCond .ne 35, 3) := by decide +kernel
theorem r31_140 {E : Nat → Value} {d : Nat} {st : List Value} {h : gm_H} {Q : gm_R → gm_H → Prop} {lv : List Value} {x : Int32} : gm_W E d 31 140 lv (.int x :: st) h Q ↔ (if x = 0 then gm_W E d 31 143 lv st h Q else gm_W E d 31 175 lv st h Q) := (gw_br m31 f31_140 rfl rfl rfl rfl).trans gw_ifn
theorem f31_143 : gm_ft 31 143 = some (.aload_n 0, 1) := by decide +kernel
theorem r31_143 {E : Nat → Value} {d : Nat} {st : List Value} {h : gm_H} {Q : gm_R → gm_H → Prop} {a1 a2 a3 a4 a5 a6 a7 a8 : Value} {x : Nat} : gm_W E d 31 143 [.ref x, a1, a2, a3, a4, a5, a6, a7, a8] st h Q ↔ gm_W E d 31 144 [.ref x, a1, a2, a3, a4, a5, a6, a7, a8] (.ref x :: st) h Q := gw_loc m31 f31_143 rfl rfl
theorem r31_143n {E : Nat → Value} {d : Nat} {st : List Value} {h : gm_H} {Q : gm_R → gm_H → Prop} {a1 a2 a3 a4 a5 a6 a7 a8 : Value}  : gm_W E d 31 143 [.null, a1, a2, a3, a4, a5, a6, a7, a8] st h Q ↔ gm_W E d 31 144 [.null, a1, a2, a3, a4, a5, a6, a7, a8] (.null :: st) h Q := gw_loc m31 f31_143 rfl rfl
theorem f31_144 : gm_ft 31 144 = some (.getfield 7, 3) := by decide +kernel
theorem r31_144 {E : Nat → Value} {d : Nat} {st : List Value} {h : gm_H} {Q : gm_R → gm_H → Prop} {lv : List Value} {a : Nat} (hk : gm_kd h a = 5) : gm_W E d 31 144 lv (.ref a :: st) h Q ↔ gm_W E d 31 147 lv (gm_fv h a 4 :: st) h Q := gw_rd m31 f31_144 rfl rfl rfl rfl (gs_get k5_7 hk (by decide))
theorem f31_147 : gm_ft 31 147 = some (.iload_n 1, 1) := by decide +kernel
theorem r31_147 {E : Nat → Value} {d : Nat} {st : List Value} {h : gm_H} {Q : gm_R → gm_H → Prop} {a0 a2 a3 a4 a5 a6 a7 a8 : Value} {x : Int32} : gm_W E d 31 147 [a0, .int x, a2, a3, a4, a5, a6, a7, a8] st h Q ↔ gm_W E d 31 148 [a0, .int x, a2, a3, a4, a5, a6, a7, a8] (.int x :: st) h Q := gw_loc m31 f31_147 rfl rfl
theorem f31_148 : gm_ft 31 148 = some (.bipush 17, 2) := by decide +kernel
theorem r31_148 {E : Nat → Value} {d : Nat} {st : List Value} {h : gm_H} {Q : gm_R → gm_H → Prop} {lv : List Value} : gm_W E d 31 148 lv st h Q ↔ gm_W E d 31 150 lv (.int (17 : Int32) :: st) h Q := gw_pure m31 f31_148 rfl
theorem f31_150 : gm_ft 31 150 = some (.iadd, 1) := by decide +kernel
theorem r31_150 {E : Nat → Value} {d : Nat} {st : List Value} {h : gm_H} {Q : gm_R → gm_H → Prop} {lv : List Value} {x y : Int32} : gm_W E d 31 150 lv (.int y :: .int x :: st) h Q ↔ gm_W E d 31 151 lv (.int (x + y) :: st) h Q := gw_pure m31 f31_150 rfl
theorem f31_151 : gm_ft 31 151 = some (.iaload, 1) := by decide +kernel
theorem r31_151 {E : Nat → Value} {d : Nat} {st : List Value} {h : gm_H} {Q : gm_R → gm_H → Prop} {lv : List Value} {a j : Nat} (hk : gm_kd h a % 100 = 0 ∧ 100 ≤ gm_kd h a ∧ gm_kd h a < 900) (hj : j < gm_ln h a) (hl : gm_ln h a < 2 ^ 31) : gm_W E d 31 151 lv (.int (nI j) :: .ref a :: st) h Q ↔ gm_W E d 31 152 lv (gm_fv h a j :: st) h Q := gw_rd m31 f31_151 rfl rfl rfl rfl (gs_ld (P := fun t => t == 0) hk.2 (by have := hk.1; simp [this] <;> omega) hj hl)
theorem f31_152 : gm_ft 31 152 = some (.bipush 116, 2) := by decide +kernel
theorem r31_152 {E : Nat → Value} {d : Nat} {st : List Value} {h : gm_H} {Q : gm_R → gm_H → Prop} {lv : List Value} : gm_W E d 31 152 lv st h Q ↔ gm_W E d 31 154 lv (.int (116 : Int32) :: st) h Q := gw_pure m31 f31_152 rfl
theorem f31_154 : gm_ft 31 154 = some (.if_icmp .ne 21, 3) := by decide +kernel
theorem r31_154 {E : Nat → Value} {d : Nat} {st : List Value} {h : gm_H} {Q : gm_R → gm_H → Prop} {lv : List Value} {x y : Int32} : gm_W E d 31 154 lv (.int y :: .int x :: st) h Q ↔ (if x = y then gm_W E d 31 157 lv st h Q else gm_W E d 31 175 lv st h Q) := (gw_br m31 f31_154 rfl rfl rfl rfl).trans gw_ifn
theorem f31_157 : gm_ft 31 157 = some (.aload_n 0, 1) := by decide +kernel
theorem r31_157 {E : Nat → Value} {d : Nat} {st : List Value} {h : gm_H} {Q : gm_R → gm_H → Prop} {a1 a2 a3 a4 a5 a6 a7 a8 : Value} {x : Nat} : gm_W E d 31 157 [.ref x, a1, a2, a3, a4, a5, a6, a7, a8] st h Q ↔ gm_W E d 31 158 [.ref x, a1, a2, a3, a4, a5, a6, a7, a8] (.ref x :: st) h Q := gw_loc m31 f31_157 rfl rfl
theorem r31_157n {E : Nat → Value} {d : Nat} {st : List Value} {h : gm_H} {Q : gm_R → gm_H → Prop} {a1 a2 a3 a4 a5 a6 a7 a8 : Value}  : gm_W E d 31 157 [.null, a1, a2, a3, a4, a5, a6, a7, a8] st h Q ↔ gm_W E d 31 158 [.null, a1, a2, a3, a4, a5, a6, a7, a8] (.null :: st) h Q := gw_loc m31 f31_157 rfl rfl
theorem f31_158 : gm_ft 31 158 = some (.getfield 7, 3) := by decide +kernel
theorem r31_158 {E : Nat → Value} {d : Nat} {st : List Value} {h : gm_H} {Q : gm_R → gm_H → Prop} {lv : List Value} {a : Nat} (hk : gm_kd h a = 5) : gm_W E d 31 158 lv (.ref a :: st) h Q ↔ gm_W E d 31 161 lv (gm_fv h a 4 :: st) h Q := gw_rd m31 f31_158 rfl rfl rfl rfl (gs_get k5_7 hk (by decide))
theorem f31_161 : gm_ft 31 161 = some (.iload_n 1, 1) := by decide +kernel
theorem r31_161 {E : Nat → Value} {d : Nat} {st : List Value} {h : gm_H} {Q : gm_R → gm_H → Prop} {a0 a2 a3 a4 a5 a6 a7 a8 : Value} {x : Int32} : gm_W E d 31 161 [a0, .int x, a2, a3, a4, a5, a6, a7, a8] st h Q ↔ gm_W E d 31 162 [a0, .int x, a2, a3, a4, a5, a6, a7, a8] (.int x :: st) h Q := gw_loc m31 f31_161 rfl rfl
theorem f31_162 : gm_ft 31 162 = some (.bipush 18, 2) := by decide +kernel
theorem r31_162 {E : Nat → Value} {d : Nat} {st : List Value} {h : gm_H} {Q : gm_R → gm_H → Prop} {lv : List Value} : gm_W E d 31 162 lv st h Q ↔ gm_W E d 31 164 lv (.int (18 : Int32) :: st) h Q := gw_pure m31 f31_162 rfl
theorem f31_164 : gm_ft 31 164 = some (.iadd, 1) := by decide +kernel
theorem r31_164 {E : Nat → Value} {d : Nat} {st : List Value} {h : gm_H} {Q : gm_R → gm_H → Prop} {lv : List Value} {x y : Int32} : gm_W E d 31 164 lv (.int y :: .int x :: st) h Q ↔ gm_W E d 31 165 lv (.int (x + y) :: st) h Q := gw_pure m31 f31_164 rfl
theorem f31_165 : gm_ft 31 165 = some (.iaload, 1) := by decide +kernel
theorem r31_165 {E : Nat → Value} {d : Nat} {st : List Value} {h : gm_H} {Q : gm_R → gm_H → Prop} {lv : List Value} {a j : Nat} (hk : gm_kd h a % 100 = 0 ∧ 100 ≤ gm_kd h a ∧ gm_kd h a < 900) (hj : j < gm_ln h a) (hl : gm_ln h a < 2 ^ 31) : gm_W E d 31 165 lv (.int (nI j) :: .ref a :: st) h Q ↔ gm_W E d 31 166 lv (gm_fv h a j :: st) h Q := gw_rd m31 f31_165 rfl rfl rfl rfl (gs_ld (P := fun t => t == 0) hk.2 (by have := hk.1; simp [this] <;> omega) hj hl)
theorem f31_166 : gm_ft 31 166 = some (.bipush 59, 2) := by decide +kernel
theorem r31_166 {E : Nat → Value} {d : Nat} {st : List Value} {h : gm_H} {Q : gm_R → gm_H → Prop} {lv : List Value} : gm_W E d 31 166 lv st h Q ↔ gm_W E d 31 168 lv (.int (59 : Int32) :: st) h Q := gw_pure m31 f31_166 rfl
theorem f31_168 : gm_ft 31 168 = some (.if_icmp .ne 7, 3) := by decide +kernel
theorem r31_168 {E : Nat → Value} {d : Nat} {st : List Value} {h : gm_H} {Q : gm_R → gm_H → Prop} {lv : List Value} {x y : Int32} : gm_W E d 31 168 lv (.int y :: .int x :: st) h Q ↔ (if x = y then gm_W E d 31 171 lv st h Q else gm_W E d 31 175 lv st h Q) := (gw_br m31 f31_168 rfl rfl rfl rfl).trans gw_ifn
theorem f31_171 : gm_ft 31 171 = some (.iconst 1, 1) := by decide +kernel
theorem r31_171 {E : Nat → Value} {d : Nat} {st : List Value} {h : gm_H} {Q : gm_R → gm_H → Prop} {lv : List Value} : gm_W E d 31 171 lv st h Q ↔ gm_W E d 31 172 lv (.int (1 : Int32) :: st) h Q := gw_pure m31 f31_171 rfl
theorem f31_172 : gm_ft 31 172 = some (.goto 4, 3) := by decide +kernel
theorem r31_172 {E : Nat → Value} {d : Nat} {st : List Value} {h : gm_H} {Q : gm_R → gm_H → Prop} {lv : List Value} : gm_W E d 31 172 lv st h Q ↔ gm_W E d 31 176 lv st h Q := gw_brT m31 f31_172 rfl rfl rfl rfl
theorem f31_175 : gm_ft 31 175 = some (.iconst 0, 1) := by decide +kernel
theorem r31_175 {E : Nat → Value} {d : Nat} {st : List Value} {h : gm_H} {Q : gm_R → gm_H → Prop} {lv : List Value} : gm_W E d 31 175 lv st h Q ↔ gm_W E d 31 176 lv (.int (0 : Int32) :: st) h Q := gw_pure m31 f31_175 rfl
theorem f31_176 : gm_ft 31 176 = some (.ireturn, 1) := by decide +kernel
theorem r31_176 {E : Nat → Value} {d : Nat} {h : gm_H} {Q : gm_R → gm_H → Prop} {lv : List Value} {x : Int32} (hx : x = 0 ∨ x = 1) : gm_W E d 31 176 lv [.int x] h Q ↔ Q (.inl (some (.int x))) h := gw_ret m31 f31_176 rfl rfl rfl rfl rfl rfl rfl rfl (by unfold gm_rt; dsimp only; rw [if_pos ⟨rfl, (gs_nb hx).1⟩])
/-! GraphReaderModel.startDescriptor(I)V -/
theorem m32 : gm_mt[32]? = some (⟨"GraphReaderModel", "startDescriptor", "(I)V"⟩, prog_7_method_31_code, 11, none, [], 5, 2) := rfl
theorem f32_0 : gm_ft 32 0 = some (.aload_n 0, 1) := by decide +kernel
theorem r32_0 {E : Nat → Value} {d : Nat} {st : List Value} {h : gm_H} {Q : gm_R → gm_H → Prop} {a1 a2 a3 a4 a5 a6 a7 a8 a9 a10 : Value} {x : Nat} : gm_W E d 32 0 [.ref x, a1, a2, a3, a4, a5, a6, a7, a8, a9, a10] st h Q ↔ gm_W E d 32 1 [.ref x, a1, a2, a3, a4, a5, a6, a7, a8, a9, a10] (.ref x :: st) h Q := gw_loc m32 f32_0 rfl rfl
theorem r32_0n {E : Nat → Value} {d : Nat} {st : List Value} {h : gm_H} {Q : gm_R → gm_H → Prop} {a1 a2 a3 a4 a5 a6 a7 a8 a9 a10 : Value}  : gm_W E d 32 0 [.null, a1, a2, a3, a4, a5, a6, a7, a8, a9, a10] st h Q ↔ gm_W E d 32 1 [.null, a1, a2, a3, a4, a5, a6, a7, a8, a9, a10] (.null :: st) h Q := gw_loc m32 f32_0 rfl rfl
theorem f32_1 : gm_ft 32 1 = some (.invokevirtual 155, 3) := by decide +kernel
theorem c32_1 {E : Nat → Value} {d : Nat} {st : List Value} {h : gm_H} {Q : gm_R → gm_H → Prop} {lv : List Value} {a : Nat} {Qc : gm_R → gm_H → Prop} (hs : (st.map fun v => v.category).sum ≤ 8) (hr : gm_kd h a = 5) (hd : 1 ≤ d) (hc : gm_Ca E (d - 1) 11 [.ref a] h Qc) (kn : ∀ (v9 : Option Value) (h9 : gm_H), Qc (.inl v9) h9 → gm_W E d 32 4 lv (v9.toList ++ st) h9 Q) (kx : ∀ (x9 : Nat) (h9 : gm_H), Qc (.inr x9) h9 → Q (.inr x9) h9) : gm_W E d 32 1 lv (.ref a :: st) h Q := gw_call (gn_call m32 f32_1 rfl rfl rfl rfl rfl rfl rfl (gs_virt (bs := []) (w := 848) (L := 1) rfl rfl rfl rfl hs (by simp [gm_en1]) hr (by decide)) (by decide)) m32 rfl rfl hd hc kn kx
theorem f32_4 : gm_ft 32 4 = some (.istore_n 2, 1) := by decide +kernel
theorem r32_4 {E : Nat → Value} {d : Nat} {st : List Value} {h : gm_H} {Q : gm_R → gm_H → Prop} {a0 a1 a2 a3 a4 a5 a6 a7 a8 a9 a10 : Value} {x : Int32} : gm_W E d 32 4 [a0, a1, a2, a3, a4, a5, a6, a7, a8, a9, a10] (.int x :: st) h Q ↔ gm_W E d 32 5 [a0, gm_k a1, .int x, a3, a4, a5, a6, a7, a8, a9, a10] st h Q := gw_loc m32 f32_4 rfl rfl
theorem f32_5 : gm_ft 32 5 = some (.aload_n 0, 1) := by decide +kernel
theorem r32_5 {E : Nat → Value} {d : Nat} {st : List Value} {h : gm_H} {Q : gm_R → gm_H → Prop} {a1 a2 a3 a4 a5 a6 a7 a8 a9 a10 : Value} {x : Nat} : gm_W E d 32 5 [.ref x, a1, a2, a3, a4, a5, a6, a7, a8, a9, a10] st h Q ↔ gm_W E d 32 6 [.ref x, a1, a2, a3, a4, a5, a6, a7, a8, a9, a10] (.ref x :: st) h Q := gw_loc m32 f32_5 rfl rfl
theorem r32_5n {E : Nat → Value} {d : Nat} {st : List Value} {h : gm_H} {Q : gm_R → gm_H → Prop} {a1 a2 a3 a4 a5 a6 a7 a8 a9 a10 : Value}  : gm_W E d 32 5 [.null, a1, a2, a3, a4, a5, a6, a7, a8, a9, a10] st h Q ↔ gm_W E d 32 6 [.null, a1, a2, a3, a4, a5, a6, a7, a8, a9, a10] (.null :: st) h Q := gw_loc m32 f32_5 rfl rfl
theorem f32_6 : gm_ft 32 6 = some (.getfield 145, 3) := by decide +kernel
theorem r32_6 {E : Nat → Value} {d : Nat} {st : List Value} {h : gm_H} {Q : gm_R → gm_H → Prop} {lv : List Value} {a : Nat} (hk : gm_kd h a = 5) : gm_W E d 32 6 lv (.ref a :: st) h Q ↔ gm_W E d 32 9 lv (gm_fv h a 8 :: st) h Q := gw_rd m32 f32_6 rfl rfl rfl rfl (gs_get k5_145 hk (by decide))
theorem f32_9 : gm_ft 32 9 = some (.ifCond .eq 4, 3) := by decide +kernel
theorem r32_9 {E : Nat → Value} {d : Nat} {st : List Value} {h : gm_H} {Q : gm_R → gm_H → Prop} {lv : List Value} {x : Int32} : gm_W E d 32 9 lv (.int x :: st) h Q ↔ (if x = 0 then gm_W E d 32 13 lv st h Q else gm_W E d 32 12 lv st h Q) := (gw_br m32 f32_9 rfl rfl rfl rfl).trans gw_if
theorem f32_12 : gm_ft 32 12 = some (.return_, 1) := by decide +kernel
theorem r32_12 {E : Nat → Value} {d : Nat} {h : gm_H} {Q : gm_R → gm_H → Prop} {lv : List Value} : gm_W E d 32 12 lv [] h Q ↔ Q (.inl none) h := gw_ret m32 f32_12 rfl rfl rfl rfl rfl rfl rfl rfl rfl
theorem f32_13 : gm_ft 32 13 = some (.iload_n 2, 1) := by decide +kernel
theorem r32_13 {E : Nat → Value} {d : Nat} {st : List Value} {h : gm_H} {Q : gm_R → gm_H → Prop} {a0 a1 a3 a4 a5 a6 a7 a8 a9 a10 : Value} {x : Int32} : gm_W E d 32 13 [a0, a1, .int x, a3, a4, a5, a6, a7, a8, a9, a10] st h Q ↔ gm_W E d 32 14 [a0, a1, .int x, a3, a4, a5, a6, a7, a8, a9, a10] (.int x :: st) h Q := gw_loc m32 f32_13 rfl rfl
theorem f32_14 : gm_ft 32 14 = some (.bipush 112, 2) := by decide +kernel
theorem r32_14 {E : Nat → Value} {d : Nat} {st : List Value} {h : gm_H} {Q : gm_R → gm_H → Prop} {lv : List Value} : gm_W E d 32 14 lv st h Q ↔ gm_W E d 32 16 lv (.int (112 : Int32) :: st) h Q := gw_pure m32 f32_14 rfl
theorem f32_16 : gm_ft 32 16 = some (.if_icmp .ne 10, 3) := by decide +kernel
theorem r32_16 {E : Nat → Value} {d : Nat} {st : List Value} {h : gm_H} {Q : gm_R → gm_H → Prop} {lv : List Value} {x y : Int32} : gm_W E d 32 16 lv (.int y :: .int x :: st) h Q ↔ (if x = y then gm_W E d 32 19 lv st h Q else gm_W E d 32 26 lv st h Q) := (gw_br m32 f32_16 rfl rfl rfl rfl).trans gw_ifn
theorem f32_19 : gm_ft 32 19 = some (.aload_n 0, 1) := by decide +kernel
theorem r32_19 {E : Nat → Value} {d : Nat} {st : List Value} {h : gm_H} {Q : gm_R → gm_H → Prop} {a1 a2 a3 a4 a5 a6 a7 a8 a9 a10 : Value} {x : Nat} : gm_W E d 32 19 [.ref x, a1, a2, a3, a4, a5, a6, a7, a8, a9, a10] st h Q ↔ gm_W E d 32 20 [.ref x, a1, a2, a3, a4, a5, a6, a7, a8, a9, a10] (.ref x :: st) h Q := gw_loc m32 f32_19 rfl rfl
theorem r32_19n {E : Nat → Value} {d : Nat} {st : List Value} {h : gm_H} {Q : gm_R → gm_H → Prop} {a1 a2 a3 a4 a5 a6 a7 a8 a9 a10 : Value}  : gm_W E d 32 19 [.null, a1, a2, a3, a4, a5, a6, a7, a8, a9, a10] st h Q ↔ gm_W E d 32 20 [.null, a1, a2, a3, a4, a5, a6, a7, a8, a9, a10] (.null :: st) h Q := gw_loc m32 f32_19 rfl rfl
theorem f32_20 : gm_ft 32 20 = some (.bipush (-2), 2) := by decide +kernel
theorem r32_20 {E : Nat → Value} {d : Nat} {st : List Value} {h : gm_H} {Q : gm_R → gm_H → Prop} {lv : List Value} : gm_W E d 32 20 lv st h Q ↔ gm_W E d 32 22 lv (.int (-2 : Int32) :: st) h Q := gw_pure m32 f32_20 rfl
theorem f32_22 : gm_ft 32 22 = some (.invokevirtual 182, 3) := by decide +kernel
theorem c32_22 {E : Nat → Value} {d : Nat} {st : List Value} {h : gm_H} {Q : gm_R → gm_H → Prop} {lv : List Value} {b0 : Int32} {a : Nat} {Qc : gm_R → gm_H → Prop} (hs : (st.map fun v => v.category).sum ≤ 8) (hr : gm_kd h a = 5) (hd : 1 ≤ d) (hc : gm_Ca E (d - 1) 16 [.ref a, .int b0] h Qc) (kn : ∀ (v9 : Option Value) (h9 : gm_H), Qc (.inl v9) h9 → gm_W E d 32 25 lv (v9.toList ++ st) h9 Q) (kx : ∀ (x9 : Nat) (h9 : gm_H), Qc (.inr x9) h9 → Q (.inr x9) h9) : gm_W E d 32 22 lv (.int b0 :: .ref a :: st) h Q := gw_call (gn_call m32 f32_22 rfl rfl rfl rfl rfl rfl rfl (gs_virt (bs := [.int b0]) (w := 872) (L := 2) rfl rfl rfl rfl hs (by simp [gm_en1]) hr (by decide)) (by decide)) m32 rfl rfl hd hc kn kx
theorem f32_25 : gm_ft 32 25 = some (.return_, 1) := by decide +kernel
theorem r32_25 {E : Nat → Value} {d : Nat} {h : gm_H} {Q : gm_R → gm_H → Prop} {lv : List Value} : gm_W E d 32 25 lv [] h Q ↔ Q (.inl none) h := gw_ret m32 f32_25 rfl rfl rfl rfl rfl rfl rfl rfl rfl
theorem f32_26 : gm_ft 32 26 = some (.iload_n 2, 1) := by decide +kernel
theorem r32_26 {E : Nat → Value} {d : Nat} {st : List Value} {h : gm_H} {Q : gm_R → gm_H → Prop} {a0 a1 a3 a4 a5 a6 a7 a8 a9 a10 : Value} {x : Int32} : gm_W E d 32 26 [a0, a1, .int x, a3, a4, a5, a6, a7, a8, a9, a10] st h Q ↔ gm_W E d 32 27 [a0, a1, .int x, a3, a4, a5, a6, a7, a8, a9, a10] (.int x :: st) h Q := gw_loc m32 f32_26 rfl rfl
theorem f32_27 : gm_ft 32 27 = some (.bipush 113, 2) := by decide +kernel
theorem r32_27 {E : Nat → Value} {d : Nat} {st : List Value} {h : gm_H} {Q : gm_R → gm_H → Prop} {lv : List Value} : gm_W E d 32 27 lv st h Q ↔ gm_W E d 32 29 lv (.int (113 : Int32) :: st) h Q := gw_pure m32 f32_27 rfl
theorem f32_29 : gm_ft 32 29 = some (.if_icmp .ne 10, 3) := by decide +kernel
theorem r32_29 {E : Nat → Value} {d : Nat} {st : List Value} {h : gm_H} {Q : gm_R → gm_H → Prop} {lv : List Value} {x y : Int32} : gm_W E d 32 29 lv (.int y :: .int x :: st) h Q ↔ (if x = y then gm_W E d 32 32 lv st h Q else gm_W E d 32 39 lv st h Q) := (gw_br m32 f32_29 rfl rfl rfl rfl).trans gw_ifn
theorem f32_32 : gm_ft 32 32 = some (.aload_n 0, 1) := by decide +kernel
theorem r32_32 {E : Nat → Value} {d : Nat} {st : List Value} {h : gm_H} {Q : gm_R → gm_H → Prop} {a1 a2 a3 a4 a5 a6 a7 a8 a9 a10 : Value} {x : Nat} : gm_W E d 32 32 [.ref x, a1, a2, a3, a4, a5, a6, a7, a8, a9, a10] st h Q ↔ gm_W E d 32 33 [.ref x, a1, a2, a3, a4, a5, a6, a7, a8, a9, a10] (.ref x :: st) h Q := gw_loc m32 f32_32 rfl rfl
theorem r32_32n {E : Nat → Value} {d : Nat} {st : List Value} {h : gm_H} {Q : gm_R → gm_H → Prop} {a1 a2 a3 a4 a5 a6 a7 a8 a9 a10 : Value}  : gm_W E d 32 32 [.null, a1, a2, a3, a4, a5, a6, a7, a8, a9, a10] st h Q ↔ gm_W E d 32 33 [.null, a1, a2, a3, a4, a5, a6, a7, a8, a9, a10] (.null :: st) h Q := gw_loc m32 f32_32 rfl rfl
theorem f32_33 : gm_ft 32 33 = some (.iload_n 1, 1) := by decide +kernel
theorem r32_33 {E : Nat → Value} {d : Nat} {st : List Value} {h : gm_H} {Q : gm_R → gm_H → Prop} {a0 a2 a3 a4 a5 a6 a7 a8 a9 a10 : Value} {x : Int32} : gm_W E d 32 33 [a0, .int x, a2, a3, a4, a5, a6, a7, a8, a9, a10] st h Q ↔ gm_W E d 32 34 [a0, .int x, a2, a3, a4, a5, a6, a7, a8, a9, a10] (.int x :: st) h Q := gw_loc m32 f32_33 rfl rfl
theorem f32_34 : gm_ft 32 34 = some (.iconst 1, 1) := by decide +kernel
theorem r32_34 {E : Nat → Value} {d : Nat} {st : List Value} {h : gm_H} {Q : gm_R → gm_H → Prop} {lv : List Value} : gm_W E d 32 34 lv st h Q ↔ gm_W E d 32 35 lv (.int (1 : Int32) :: st) h Q := gw_pure m32 f32_34 rfl
theorem f32_35 : gm_ft 32 35 = some (.invokevirtual 185, 3) := by decide +kernel
theorem c32_35 {E : Nat → Value} {d : Nat} {st : List Value} {h : gm_H} {Q : gm_R → gm_H → Prop} {lv : List Value} {b0 : Int32} {b1 : Int32} {a : Nat} {Qc : gm_R → gm_H → Prop} (hs : (st.map fun v => v.category).sum ≤ 8) (hr : gm_kd h a = 5) (hd : 1 ≤ d) (hc : gm_Ca E (d - 1) 22 [.ref a, .int b0, .int b1] h Qc) (kn : ∀ (v9 : Option Value) (h9 : gm_H), Qc (.inl v9) h9 → gm_W E d 32 38 lv (v9.toList ++ st) h9 Q) (kx : ∀ (x9 : Nat) (h9 : gm_H), Qc (.inr x9) h9 → Q (.inr x9) h9) : gm_W E d 32 35 lv (.int b1 :: .int b0 :: .ref a :: st) h Q := gw_call (gn_call m32 f32_35 rfl rfl rfl rfl rfl rfl rfl (gs_virt (bs := [.int b1, .int b0]) (w := 876) (L := 5) rfl rfl rfl rfl hs (by simp [gm_en1]) hr (by decide)) (by decide)) m32 rfl rfl hd hc kn kx
theorem f32_38 : gm_ft 32 38 = some (.return_, 1) := by decide +kernel
theorem r32_38 {E : Nat → Value} {d : Nat} {h : gm_H} {Q : gm_R → gm_H → Prop} {lv : List Value} : gm_W E d 32 38 lv [] h Q ↔ Q (.inl none) h := gw_ret m32 f32_38 rfl rfl rfl rfl rfl rfl rfl rfl rfl
theorem f32_39 : gm_ft 32 39 = some (.iload_n 2, 1) := by decide +kernel
theorem r32_39 {E : Nat → Value} {d : Nat} {st : List Value} {h : gm_H} {Q : gm_R → gm_H → Prop} {a0 a1 a3 a4 a5 a6 a7 a8 a9 a10 : Value} {x : Int32} : gm_W E d 32 39 [a0, a1, .int x, a3, a4, a5, a6, a7, a8, a9, a10] st h Q ↔ gm_W E d 32 40 [a0, a1, .int x, a3, a4, a5, a6, a7, a8, a9, a10] (.int x :: st) h Q := gw_loc m32 f32_39 rfl rfl
theorem f32_40 : gm_ft 32 40 = some (.bipush 114, 2) := by decide +kernel
theorem r32_40 {E : Nat → Value} {d : Nat} {st : List Value} {h : gm_H} {Q : gm_R → gm_H → Prop} {lv : List Value} : gm_W E d 32 40 lv st h Q ↔ gm_W E d 32 42 lv (.int (114 : Int32) :: st) h Q := gw_pure m32 f32_40 rfl
theorem f32_42 : gm_ft 32 42 = some (.if_icmp .ne 14, 3) := by decide +kernel
theorem r32_42 {E : Nat → Value} {d : Nat} {st : List Value} {h : gm_H} {Q : gm_R → gm_H → Prop} {lv : List Value} {x y : Int32} : gm_W E d 32 42 lv (.int y :: .int x :: st) h Q ↔ (if x = y then gm_W E d 32 45 lv st h Q else gm_W E d 32 56 lv st h Q) := (gw_br m32 f32_42 rfl rfl rfl rfl).trans gw_ifn
theorem f32_45 : gm_ft 32 45 = some (.aload_n 0, 1) := by decide +kernel
theorem r32_45 {E : Nat → Value} {d : Nat} {st : List Value} {h : gm_H} {Q : gm_R → gm_H → Prop} {a1 a2 a3 a4 a5 a6 a7 a8 a9 a10 : Value} {x : Nat} : gm_W E d 32 45 [.ref x, a1, a2, a3, a4, a5, a6, a7, a8, a9, a10] st h Q ↔ gm_W E d 32 46 [.ref x, a1, a2, a3, a4, a5, a6, a7, a8, a9, a10] (.ref x :: st) h Q := gw_loc m32 f32_45 rfl rfl
theorem r32_45n {E : Nat → Value} {d : Nat} {st : List Value} {h : gm_H} {Q : gm_R → gm_H → Prop} {a1 a2 a3 a4 a5 a6 a7 a8 a9 a10 : Value}  : gm_W E d 32 45 [.null, a1, a2, a3, a4, a5, a6, a7, a8, a9, a10] st h Q ↔ gm_W E d 32 46 [.null, a1, a2, a3, a4, a5, a6, a7, a8, a9, a10] (.null :: st) h Q := gw_loc m32 f32_45 rfl rfl
theorem f32_46 : gm_ft 32 46 = some (.getfield 102, 3) := by decide +kernel
theorem r32_46 {E : Nat → Value} {d : Nat} {st : List Value} {h : gm_H} {Q : gm_R → gm_H → Prop} {lv : List Value} {a : Nat} (hk : gm_kd h a = 5) : gm_W E d 32 46 lv (.ref a :: st) h Q ↔ gm_W E d 32 49 lv (gm_fv h a 43 :: st) h Q := gw_rd m32 f32_46 rfl rfl rfl rfl (gs_get k5_102 hk (by decide))
theorem f32_49 : gm_ft 32 49 = some (.iload_n 1, 1) := by decide +kernel
theorem r32_49 {E : Nat → Value} {d : Nat} {st : List Value} {h : gm_H} {Q : gm_R → gm_H → Prop} {a0 a2 a3 a4 a5 a6 a7 a8 a9 a10 : Value} {x : Int32} : gm_W E d 32 49 [a0, .int x, a2, a3, a4, a5, a6, a7, a8, a9, a10] st h Q ↔ gm_W E d 32 50 [a0, .int x, a2, a3, a4, a5, a6, a7, a8, a9, a10] (.int x :: st) h Q := gw_loc m32 f32_49 rfl rfl
theorem f32_50 : gm_ft 32 50 = some (.iaload, 1) := by decide +kernel
theorem r32_50 {E : Nat → Value} {d : Nat} {st : List Value} {h : gm_H} {Q : gm_R → gm_H → Prop} {lv : List Value} {a j : Nat} (hk : gm_kd h a % 100 = 0 ∧ 100 ≤ gm_kd h a ∧ gm_kd h a < 900) (hj : j < gm_ln h a) (hl : gm_ln h a < 2 ^ 31) : gm_W E d 32 50 lv (.int (nI j) :: .ref a :: st) h Q ↔ gm_W E d 32 51 lv (gm_fv h a j :: st) h Q := gw_rd m32 f32_50 rfl rfl rfl rfl (gs_ld (P := fun t => t == 0) hk.2 (by have := hk.1; simp [this] <;> omega) hj hl)
theorem f32_51 : gm_ft 32 51 = some (.bipush 8, 2) := by decide +kernel
theorem r32_51 {E : Nat → Value} {d : Nat} {st : List Value} {h : gm_H} {Q : gm_R → gm_H → Prop} {lv : List Value} : gm_W E d 32 51 lv st h Q ↔ gm_W E d 32 53 lv (.int (8 : Int32) :: st) h Q := gw_pure m32 f32_51 rfl
theorem f32_53 : gm_ft 32 53 = some (.if_icmp .le 10, 3) := by decide +kernel
theorem r32_53 {E : Nat → Value} {d : Nat} {st : List Value} {h : gm_H} {Q : gm_R → gm_H → Prop} {lv : List Value} {x y : Int32} : gm_W E d 32 53 lv (.int y :: .int x :: st) h Q ↔ (if x ≤ y then gm_W E d 32 63 lv st h Q else gm_W E d 32 56 lv st h Q) := (gw_br m32 f32_53 rfl rfl rfl rfl).trans gw_if
theorem f32_56 : gm_ft 32 56 = some (.aload_n 0, 1) := by decide +kernel
theorem r32_56 {E : Nat → Value} {d : Nat} {st : List Value} {h : gm_H} {Q : gm_R → gm_H → Prop} {a1 a2 a3 a4 a5 a6 a7 a8 a9 a10 : Value} {x : Nat} : gm_W E d 32 56 [.ref x, a1, a2, a3, a4, a5, a6, a7, a8, a9, a10] st h Q ↔ gm_W E d 32 57 [.ref x, a1, a2, a3, a4, a5, a6, a7, a8, a9, a10] (.ref x :: st) h Q := gw_loc m32 f32_56 rfl rfl
theorem r32_56n {E : Nat → Value} {d : Nat} {st : List Value} {h : gm_H} {Q : gm_R → gm_H → Prop} {a1 a2 a3 a4 a5 a6 a7 a8 a9 a10 : Value}  : gm_W E d 32 56 [.null, a1, a2, a3, a4, a5, a6, a7, a8, a9, a10] st h Q ↔ gm_W E d 32 57 [.null, a1, a2, a3, a4, a5, a6, a7, a8, a9, a10] (.null :: st) h Q := gw_loc m32 f32_56 rfl rfl
theorem f32_57 : gm_ft 32 57 = some (.bipush (-4), 2) := by decide +kernel
theorem r32_57 {E : Nat → Value} {d : Nat} {st : List Value} {h : gm_H} {Q : gm_R → gm_H → Prop} {lv : List Value} : gm_W E d 32 57 lv st h Q ↔ gm_W E d 32 59 lv (.int (-4 : Int32) :: st) h Q := gw_pure m32 f32_57 rfl
theorem f32_59 : gm_ft 32 59 = some (.invokevirtual 151, 3) := by decide +kernel
theorem c32_59 {E : Nat → Value} {d : Nat} {st : List Value} {h : gm_H} {Q : gm_R → gm_H → Prop} {lv : List Value} {b0 : Int32} {a : Nat} {Qc : gm_R → gm_H → Prop} (hs : (st.map fun v => v.category).sum ≤ 8) (hr : gm_kd h a = 5) (hd : 1 ≤ d) (hc : gm_Ca E (d - 1) 10 [.ref a, .int b0] h Qc) (kn : ∀ (v9 : Option Value) (h9 : gm_H), Qc (.inl v9) h9 → gm_W E d 32 62 lv (v9.toList ++ st) h9 Q) (kx : ∀ (x9 : Nat) (h9 : gm_H), Qc (.inr x9) h9 → Q (.inr x9) h9) : gm_W E d 32 59 lv (.int b0 :: .ref a :: st) h Q := gw_call (gn_call m32 f32_59 rfl rfl rfl rfl rfl rfl rfl (gs_virt (bs := [.int b0]) (w := 844) (L := 2) rfl rfl rfl rfl hs (by simp [gm_en1]) hr (by decide)) (by decide)) m32 rfl rfl hd hc kn kx
theorem f32_62 : gm_ft 32 62 = some (.return_, 1) := by decide +kernel
theorem r32_62 {E : Nat → Value} {d : Nat} {h : gm_H} {Q : gm_R → gm_H → Prop} {lv : List Value} : gm_W E d 32 62 lv [] h Q ↔ Q (.inl none) h := gw_ret m32 f32_62 rfl rfl rfl rfl rfl rfl rfl rfl rfl
theorem f32_63 : gm_ft 32 63 = some (.aload_n 0, 1) := by decide +kernel
theorem r32_63 {E : Nat → Value} {d : Nat} {st : List Value} {h : gm_H} {Q : gm_R → gm_H → Prop} {a1 a2 a3 a4 a5 a6 a7 a8 a9 a10 : Value} {x : Nat} : gm_W E d 32 63 [.ref x, a1, a2, a3, a4, a5, a6, a7, a8, a9, a10] st h Q ↔ gm_W E d 32 64 [.ref x, a1, a2, a3, a4, a5, a6, a7, a8, a9, a10] (.ref x :: st) h Q := gw_loc m32 f32_63 rfl rfl
theorem r32_63n {E : Nat → Value} {d : Nat} {st : List Value} {h : gm_H} {Q : gm_R → gm_H → Prop} {a1 a2 a3 a4 a5 a6 a7 a8 a9 a10 : Value}  : gm_W E d 32 63 [.null, a1, a2, a3, a4, a5, a6, a7, a8, a9, a10] st h Q ↔ gm_W E d 32 64 [.null, a1, a2, a3, a4, a5, a6, a7, a8, a9, a10] (.null :: st) h Q := gw_loc m32 f32_63 rfl rfl
theorem f32_64 : gm_ft 32 64 = some (.invokevirtual 193, 3) := by decide +kernel
theorem c32_64 {E : Nat → Value} {d : Nat} {st : List Value} {h : gm_H} {Q : gm_R → gm_H → Prop} {lv : List Value} {a : Nat} {Qc : gm_R → gm_H → Prop} (hs : (st.map fun v => v.category).sum ≤ 8) (hr : gm_kd h a = 5) (hd : 1 ≤ d) (hc : gm_Ca E (d - 1) 13 [.ref a] h Qc) (kn : ∀ (v9 : Option Value) (h9 : gm_H), Qc (.inl v9) h9 → gm_W E d 32 67 lv (v9.toList ++ st) h9 Q) (kx : ∀ (x9 : Nat) (h9 : gm_H), Qc (.inr x9) h9 → Q (.inr x9) h9) : gm_W E d 32 64 lv (.ref a :: st) h Q := gw_call (gn_call m32 f32_64 rfl rfl rfl rfl rfl rfl rfl (gs_virt (bs := []) (w := 889) (L := 4) rfl rfl rfl rfl hs (by simp [gm_en1]) hr (by decide)) (by decide)) m32 rfl rfl hd hc kn kx
theorem f32_67 : gm_ft 32 67 = some (.istore_n 3, 1) := by decide +kernel
theorem r32_67 {E : Nat → Value} {d : Nat} {st : List Value} {h : gm_H} {Q : gm_R → gm_H → Prop} {a0 a1 a2 a3 a4 a5 a6 a7 a8 a9 a10 : Value} {x : Int32} : gm_W E d 32 67 [a0, a1, a2, a3, a4, a5, a6, a7, a8, a9, a10] (.int x :: st) h Q ↔ gm_W E d 32 68 [a0, a1, gm_k a2, .int x, a4, a5, a6, a7, a8, a9, a10] st h Q := gw_loc m32 f32_67 rfl rfl
theorem f32_68 : gm_ft 32 68 = some (.aload_n 0, 1) := by decide +kernel
theorem r32_68 {E : Nat → Value} {d : Nat} {st : List Value} {h : gm_H} {Q : gm_R → gm_H → Prop} {a1 a2 a3 a4 a5 a6 a7 a8 a9 a10 : Value} {x : Nat} : gm_W E d 32 68 [.ref x, a1, a2, a3, a4, a5, a6, a7, a8, a9, a10] st h Q ↔ gm_W E d 32 69 [.ref x, a1, a2, a3, a4, a5, a6, a7, a8, a9, a10] (.ref x :: st) h Q := gw_loc m32 f32_68 rfl rfl
theorem r32_68n {E : Nat → Value} {d : Nat} {st : List Value} {h : gm_H} {Q : gm_R → gm_H → Prop} {a1 a2 a3 a4 a5 a6 a7 a8 a9 a10 : Value}  : gm_W E d 32 68 [.null, a1, a2, a3, a4, a5, a6, a7, a8, a9, a10] st h Q ↔ gm_W E d 32 69 [.null, a1, a2, a3, a4, a5, a6, a7, a8, a9, a10] (.null :: st) h Q := gw_loc m32 f32_68 rfl rfl
theorem f32_69 : gm_ft 32 69 = some (.getfield 148, 3) := by decide +kernel
theorem r32_69 {E : Nat → Value} {d : Nat} {st : List Value} {h : gm_H} {Q : gm_R → gm_H → Prop} {lv : List Value} {a : Nat} (hk : gm_kd h a = 5) : gm_W E d 32 69 lv (.ref a :: st) h Q ↔ gm_W E d 32 72 lv (gm_fv h a 6 :: st) h Q := gw_rd m32 f32_69 rfl rfl rfl rfl (gs_get k5_148 hk (by decide))
theorem f32_72 : gm_ft 32 72 = some (.iload_n 3, 1) := by decide +kernel
theorem r32_72 {E : Nat → Value} {d : Nat} {st : List Value} {h : gm_H} {Q : gm_R → gm_H → Prop} {a0 a1 a2 a4 a5 a6 a7 a8 a9 a10 : Value} {x : Int32} : gm_W E d 32 72 [a0, a1, a2, .int x, a4, a5, a6, a7, a8, a9, a10] st h Q ↔ gm_W E d 32 73 [a0, a1, a2, .int x, a4, a5, a6, a7, a8, a9, a10] (.int x :: st) h Q := gw_loc m32 f32_72 rfl rfl
theorem f32_73 : gm_ft 32 73 = some (.isub, 1) := by decide +kernel
theorem r32_73 {E : Nat → Value} {d : Nat} {st : List Value} {h : gm_H} {Q : gm_R → gm_H → Prop} {lv : List Value} {x y : Int32} : gm_W E d 32 73 lv (.int y :: .int x :: st) h Q ↔ gm_W E d 32 74 lv (.int (x - y) :: st) h Q := gw_pure m32 f32_73 rfl
theorem f32_74 : gm_ft 32 74 = some (.istore 4, 2) := by decide +kernel
theorem r32_74 {E : Nat → Value} {d : Nat} {st : List Value} {h : gm_H} {Q : gm_R → gm_H → Prop} {a0 a1 a2 a3 a4 a5 a6 a7 a8 a9 a10 : Value} {x : Int32} : gm_W E d 32 74 [a0, a1, a2, a3, a4, a5, a6, a7, a8, a9, a10] (.int x :: st) h Q ↔ gm_W E d 32 76 [a0, a1, a2, gm_k a3, .int x, a5, a6, a7, a8, a9, a10] st h Q := gw_loc m32 f32_74 rfl rfl
theorem f32_76 : gm_ft 32 76 = some (.aload_n 0, 1) := by decide +kernel
theorem r32_76 {E : Nat → Value} {d : Nat} {st : List Value} {h : gm_H} {Q : gm_R → gm_H → Prop} {a1 a2 a3 a4 a5 a6 a7 a8 a9 a10 : Value} {x : Nat} : gm_W E d 32 76 [.ref x, a1, a2, a3, a4, a5, a6, a7, a8, a9, a10] st h Q ↔ gm_W E d 32 77 [.ref x, a1, a2, a3, a4, a5, a6, a7, a8, a9, a10] (.ref x :: st) h Q := gw_loc m32 f32_76 rfl rfl
theorem r32_76n {E : Nat → Value} {d : Nat} {st : List Value} {h : gm_H} {Q : gm_R → gm_H → Prop} {a1 a2 a3 a4 a5 a6 a7 a8 a9 a10 : Value}  : gm_W E d 32 76 [.null, a1, a2, a3, a4, a5, a6, a7, a8, a9, a10] st h Q ↔ gm_W E d 32 77 [.null, a1, a2, a3, a4, a5, a6, a7, a8, a9, a10] (.null :: st) h Q := gw_loc m32 f32_76 rfl rfl
theorem f32_77 : gm_ft 32 77 = some (.bipush 8, 2) := by decide +kernel
theorem r32_77 {E : Nat → Value} {d : Nat} {st : List Value} {h : gm_H} {Q : gm_R → gm_H → Prop} {lv : List Value} : gm_W E d 32 77 lv st h Q ↔ gm_W E d 32 79 lv (.int (8 : Int32) :: st) h Q := gw_pure m32 f32_77 rfl
theorem f32_79 : gm_ft 32 79 = some (.invokevirtual 159, 3) := by decide +kernel
theorem c32_79 {E : Nat → Value} {d : Nat} {st : List Value} {h : gm_H} {Q : gm_R → gm_H → Prop} {lv : List Value} {b0 : Int32} {a : Nat} {Qc : gm_R → gm_H → Prop} (hs : (st.map fun v => v.category).sum ≤ 8) (hr : gm_kd h a = 5) (hd : 1 ≤ d) (hc : gm_Ca E (d - 1) 12 [.ref a, .int b0] h Qc) (kn : ∀ (v9 : Option Value) (h9 : gm_H), Qc (.inl v9) h9 → gm_W E d 32 82 lv (v9.toList ++ st) h9 Q) (kx : ∀ (x9 : Nat) (h9 : gm_H), Qc (.inr x9) h9 → Q (.inr x9) h9) : gm_W E d 32 79 lv (.int b0 :: .ref a :: st) h Q := gw_call (gn_call m32 f32_79 rfl rfl rfl rfl rfl rfl rfl (gs_virt (bs := [.int b0]) (w := 880) (L := 5) rfl rfl rfl rfl hs (by simp [gm_en1]) hr (by decide)) (by decide)) m32 rfl rfl hd hc kn kx
theorem f32_82 : gm_ft 32 82 = some (.lstore 5, 2) := by decide +kernel
theorem r32_82 {E : Nat → Value} {d : Nat} {st : List Value} {h : gm_H} {Q : gm_R → gm_H → Prop} {a0 a1 a2 a3 a4 a5 a6 a7 a8 a9 a10 : Value} {x : Int64} : gm_W E d 32 82 [a0, a1, a2, a3, a4, a5, a6, a7, a8, a9, a10] (.long x :: st) h Q ↔ gm_W E d 32 84 [a0, a1, a2, a3, gm_k a4, .long x, gm_u, a7, a8, a9, a10] st h Q := gw_loc m32 f32_82 rfl rfl
theorem f32_84 : gm_ft 32 84 = some (.aload_n 0, 1) := by decide +kernel
theorem r32_84 {E : Nat → Value} {d : Nat} {st : List Value} {h : gm_H} {Q : gm_R → gm_H → Prop} {a1 a2 a3 a4 a5 a6 a7 a8 a9 a10 : Value} {x : Nat} : gm_W E d 32 84 [.ref x, a1, a2, a3, a4, a5, a6, a7, a8, a9, a10] st h Q ↔ gm_W E d 32 85 [.ref x, a1, a2, a3, a4, a5, a6, a7, a8, a9, a10] (.ref x :: st) h Q := gw_loc m32 f32_84 rfl rfl
theorem r32_84n {E : Nat → Value} {d : Nat} {st : List Value} {h : gm_H} {Q : gm_R → gm_H → Prop} {a1 a2 a3 a4 a5 a6 a7 a8 a9 a10 : Value}  : gm_W E d 32 84 [.null, a1, a2, a3, a4, a5, a6, a7, a8, a9, a10] st h Q ↔ gm_W E d 32 85 [.null, a1, a2, a3, a4, a5, a6, a7, a8, a9, a10] (.null :: st) h Q := gw_loc m32 f32_84 rfl rfl
theorem f32_85 : gm_ft 32 85 = some (.getfield 145, 3) := by decide +kernel
theorem r32_85 {E : Nat → Value} {d : Nat} {st : List Value} {h : gm_H} {Q : gm_R → gm_H → Prop} {lv : List Value} {a : Nat} (hk : gm_kd h a = 5) : gm_W E d 32 85 lv (.ref a :: st) h Q ↔ gm_W E d 32 88 lv (gm_fv h a 8 :: st) h Q := gw_rd m32 f32_85 rfl rfl rfl rfl (gs_get k5_145 hk (by decide))
theorem f32_88 : gm_ft 32 88 = some (.ifCond .eq 4, 3) := by decide +kernel
theorem r32_88 {E : Nat → Value} {d : Nat} {st : List Value} {h : gm_H} {Q : gm_R → gm_H → Prop} {lv : List Value} {x : Int32} : gm_W E d 32 88 lv (.int x :: st) h Q ↔ (if x = 0 then gm_W E d 32 92 lv st h Q else gm_W E d 32 91 lv st h Q) := (gw_br m32 f32_88 rfl rfl rfl rfl).trans gw_if
theorem f32_91 : gm_ft 32 91 = some (.return_, 1) := by decide +kernel
theorem r32_91 {E : Nat → Value} {d : Nat} {h : gm_H} {Q : gm_R → gm_H → Prop} {lv : List Value} : gm_W E d 32 91 lv [] h Q ↔ Q (.inl none) h := gw_ret m32 f32_91 rfl rfl rfl rfl rfl rfl rfl rfl rfl
theorem f32_92 : gm_ft 32 92 = some (.aload_n 0, 1) := by decide +kernel
theorem r32_92 {E : Nat → Value} {d : Nat} {st : List Value} {h : gm_H} {Q : gm_R → gm_H → Prop} {a1 a2 a3 a4 a5 a6 a7 a8 a9 a10 : Value} {x : Nat} : gm_W E d 32 92 [.ref x, a1, a2, a3, a4, a5, a6, a7, a8, a9, a10] st h Q ↔ gm_W E d 32 93 [.ref x, a1, a2, a3, a4, a5, a6, a7, a8, a9, a10] (.ref x :: st) h Q := gw_loc m32 f32_92 rfl rfl
theorem r32_92n {E : Nat → Value} {d : Nat} {st : List Value} {h : gm_H} {Q : gm_R → gm_H → Prop} {a1 a2 a3 a4 a5 a6 a7 a8 a9 a10 : Value}  : gm_W E d 32 92 [.null, a1, a2, a3, a4, a5, a6, a7, a8, a9, a10] st h Q ↔ gm_W E d 32 93 [.null, a1, a2, a3, a4, a5, a6, a7, a8, a9, a10] (.null :: st) h Q := gw_loc m32 f32_92 rfl rfl
theorem f32_93 : gm_ft 32 93 = some (.getfield 169, 3) := by decide +kernel
theorem r32_93 {E : Nat → Value} {d : Nat} {st : List Value} {h : gm_H} {Q : gm_R → gm_H → Prop} {lv : List Value} {a : Nat} (hk : gm_kd h a = 5) : gm_W E d 32 93 lv (.ref a :: st) h Q ↔ gm_W E d 32 96 lv (gm_fv h a 39 :: st) h Q := gw_rd m32 f32_93 rfl rfl rfl rfl (gs_get k5_169 hk (by decide))
theorem f32_96 : gm_ft 32 96 = some (.istore 7, 2) := by decide +kernel
theorem r32_96 {E : Nat → Value} {d : Nat} {st : List Value} {h : gm_H} {Q : gm_R → gm_H → Prop} {a0 a1 a2 a3 a4 a5 a6 a7 a8 a9 a10 : Value} {x : Int32} : gm_W E d 32 96 [a0, a1, a2, a3, a4, a5, a6, a7, a8, a9, a10] (.int x :: st) h Q ↔ gm_W E d 32 98 [a0, a1, a2, a3, a4, a5, gm_k a6, .int x, a8, a9, a10] st h Q := gw_loc m32 f32_96 rfl rfl
theorem f32_98 : gm_ft 32 98 = some (.aload_n 0, 1) := by decide +kernel
theorem r32_98 {E : Nat → Value} {d : Nat} {st : List Value} {h : gm_H} {Q : gm_R → gm_H → Prop} {a1 a2 a3 a4 a5 a6 a7 a8 a9 a10 : Value} {x : Nat} : gm_W E d 32 98 [.ref x, a1, a2, a3, a4, a5, a6, a7, a8, a9, a10] st h Q ↔ gm_W E d 32 99 [.ref x, a1, a2, a3, a4, a5, a6, a7, a8, a9, a10] (.ref x :: st) h Q := gw_loc m32 f32_98 rfl rfl
theorem r32_98n {E : Nat → Value} {d : Nat} {st : List Value} {h : gm_H} {Q : gm_R → gm_H → Prop} {a1 a2 a3 a4 a5 a6 a7 a8 a9 a10 : Value}  : gm_W E d 32 98 [.null, a1, a2, a3, a4, a5, a6, a7, a8, a9, a10] st h Q ↔ gm_W E d 32 99 [.null, a1, a2, a3, a4, a5, a6, a7, a8, a9, a10] (.null :: st) h Q := gw_loc m32 f32_98 rfl rfl
theorem f32_99 : gm_ft 32 99 = some (.dup, 1) := by decide +kernel
theorem r32_99 {E : Nat → Value} {d : Nat} {st : List Value} {h : gm_H} {Q : gm_R → gm_H → Prop} {lv : List Value} {a : Nat} : gm_W E d 32 99 lv (.ref a :: st) h Q ↔ gm_W E d 32 100 lv (.ref a :: .ref a :: st) h Q := gw_pure m32 f32_99 rfl
theorem r32_99i {E : Nat → Value} {d : Nat} {st : List Value} {h : gm_H} {Q : gm_R → gm_H → Prop} {lv : List Value} {x : Int32} : gm_W E d 32 99 lv (.int x :: st) h Q ↔ gm_W E d 32 100 lv (.int x :: .int x :: st) h Q := gw_pure m32 f32_99 rfl
theorem f32_100 : gm_ft 32 100 = some (.getfield 169, 3) := by decide +kernel
theorem r32_100 {E : Nat → Value} {d : Nat} {st : List Value} {h : gm_H} {Q : gm_R → gm_H → Prop} {lv : List Value} {a : Nat} (hk : gm_kd h a = 5) : gm_W E d 32 100 lv (.ref a :: st) h Q ↔ gm_W E d 32 103 lv (gm_fv h a 39 :: st) h Q := gw_rd m32 f32_100 rfl rfl rfl rfl (gs_get k5_169 hk (by decide))
theorem f32_103 : gm_ft 32 103 = some (.iconst 1, 1) := by decide +kernel
theorem r32_103 {E : Nat → Value} {d : Nat} {st : List Value} {h : gm_H} {Q : gm_R → gm_H → Prop} {lv : List Value} : gm_W E d 32 103 lv st h Q ↔ gm_W E d 32 104 lv (.int (1 : Int32) :: st) h Q := gw_pure m32 f32_103 rfl
theorem f32_104 : gm_ft 32 104 = some (.iadd, 1) := by decide +kernel
theorem r32_104 {E : Nat → Value} {d : Nat} {st : List Value} {h : gm_H} {Q : gm_R → gm_H → Prop} {lv : List Value} {x y : Int32} : gm_W E d 32 104 lv (.int y :: .int x :: st) h Q ↔ gm_W E d 32 105 lv (.int (x + y) :: st) h Q := gw_pure m32 f32_104 rfl
theorem f32_105 : gm_ft 32 105 = some (.putfield 169, 3) := by decide +kernel
theorem r32_105 {E : Nat → Value} {d : Nat} {st : List Value} {h : gm_H} {Q : gm_R → gm_H → Prop} {lv : List Value} {a : Nat} {x : Int32} (hk : gm_kd h a = 5) : gm_W E d 32 105 lv (.int x :: .ref a :: st) h Q ↔ gm_W E d 32 108 lv st (gm_sf h a 39 (.int x)) Q := gw_wr m32 f32_105 rfl rfl rfl rfl rfl (gs_put k5_169 hk (by decide) (by decide) ⟨rfl, rfl⟩ (by decide))
theorem f32_108 : gm_ft 32 108 = some (.iload_n 3, 1) := by decide +kernel
theorem r32_108 {E : Nat → Value} {d : Nat} {st : List Value} {h : gm_H} {Q : gm_R → gm_H → Prop} {a0 a1 a2 a4 a5 a6 a7 a8 a9 a10 : Value} {x : Int32} : gm_W E d 32 108 [a0, a1, a2, .int x, a4, a5, a6, a7, a8, a9, a10] st h Q ↔ gm_W E d 32 109 [a0, a1, a2, .int x, a4, a5, a6, a7, a8, a9, a10] (.int x :: st) h Q := gw_loc m32 f32_108 rfl rfl
theorem f32_109 : gm_ft 32 109 = some (.iconst 1, 1) := by decide +kernel
theorem r32_109 {E : Nat → Value} {d : Nat} {st : List Value} {h : gm_H} {Q : gm_R → gm_H → Prop} {lv : List Value} : gm_W E d 32 109 lv st h Q ↔ gm_W E d 32 110 lv (.int (1 : Int32) :: st) h Q := gw_pure m32 f32_109 rfl
theorem f32_110 : gm_ft 32 110 = some (.if_icmp .ne 16, 3) := by decide +kernel
theorem r32_110 {E : Nat → Value} {d : Nat} {st : List Value} {h : gm_H} {Q : gm_R → gm_H → Prop} {lv : List Value} {x y : Int32} : gm_W E d 32 110 lv (.int y :: .int x :: st) h Q ↔ (if x = y then gm_W E d 32 113 lv st h Q else gm_W E d 32 126 lv st h Q) := (gw_br m32 f32_110 rfl rfl rfl rfl).trans gw_ifn
theorem f32_113 : gm_ft 32 113 = some (.aload_n 0, 1) := by decide +kernel
theorem r32_113 {E : Nat → Value} {d : Nat} {st : List Value} {h : gm_H} {Q : gm_R → gm_H → Prop} {a1 a2 a3 a4 a5 a6 a7 a8 a9 a10 : Value} {x : Nat} : gm_W E d 32 113 [.ref x, a1, a2, a3, a4, a5, a6, a7, a8, a9, a10] st h Q ↔ gm_W E d 32 114 [.ref x, a1, a2, a3, a4, a5, a6, a7, a8, a9, a10] (.ref x :: st) h Q := gw_loc m32 f32_113 rfl rfl
theorem r32_113n {E : Nat → Value} {d : Nat} {st : List Value} {h : gm_H} {Q : gm_R → gm_H → Prop} {a1 a2 a3 a4 a5 a6 a7 a8 a9 a10 : Value}  : gm_W E d 32 113 [.null, a1, a2, a3, a4, a5, a6, a7, a8, a9, a10] st h Q ↔ gm_W E d 32 114 [.null, a1, a2, a3, a4, a5, a6, a7, a8, a9, a10] (.null :: st) h Q := gw_loc m32 f32_113 rfl rfl
theorem f32_114 : gm_ft 32 114 = some (.getfield 7, 3) := by decide +kernel
theorem r32_114 {E : Nat → Value} {d : Nat} {st : List Value} {h : gm_H} {Q : gm_R → gm_H → Prop} {lv : List Value} {a : Nat} (hk : gm_kd h a = 5) : gm_W E d 32 114 lv (.ref a :: st) h Q ↔ gm_W E d 32 117 lv (gm_fv h a 4 :: st) h Q := gw_rd m32 f32_114 rfl rfl rfl rfl (gs_get k5_7 hk (by decide))
theorem f32_117 : gm_ft 32 117 = some (.iload 4, 2) := by decide +kernel
theorem r32_117 {E : Nat → Value} {d : Nat} {st : List Value} {h : gm_H} {Q : gm_R → gm_H → Prop} {a0 a1 a2 a3 a5 a6 a7 a8 a9 a10 : Value} {x : Int32} : gm_W E d 32 117 [a0, a1, a2, a3, .int x, a5, a6, a7, a8, a9, a10] st h Q ↔ gm_W E d 32 119 [a0, a1, a2, a3, .int x, a5, a6, a7, a8, a9, a10] (.int x :: st) h Q := gw_loc m32 f32_117 rfl rfl
theorem f32_119 : gm_ft 32 119 = some (.iaload, 1) := by decide +kernel
theorem r32_119 {E : Nat → Value} {d : Nat} {st : List Value} {h : gm_H} {Q : gm_R → gm_H → Prop} {lv : List Value} {a j : Nat} (hk : gm_kd h a % 100 = 0 ∧ 100 ≤ gm_kd h a ∧ gm_kd h a < 900) (hj : j < gm_ln h a) (hl : gm_ln h a < 2 ^ 31) : gm_W E d 32 119 lv (.int (nI j) :: .ref a :: st) h Q ↔ gm_W E d 32 120 lv (gm_fv h a j :: st) h Q := gw_rd m32 f32_119 rfl rfl rfl rfl (gs_ld (P := fun t => t == 0) hk.2 (by have := hk.1; simp [this] <;> omega) hj hl)
theorem f32_120 : gm_ft 32 120 = some (.bipush 65, 2) := by decide +kernel
theorem r32_120 {E : Nat → Value} {d : Nat} {st : List Value} {h : gm_H} {Q : gm_R → gm_H → Prop} {lv : List Value} : gm_W E d 32 120 lv st h Q ↔ gm_W E d 32 122 lv (.int (65 : Int32) :: st) h Q := gw_pure m32 f32_120 rfl
theorem f32_122 : gm_ft 32 122 = some (.isub, 1) := by decide +kernel
theorem r32_122 {E : Nat → Value} {d : Nat} {st : List Value} {h : gm_H} {Q : gm_R → gm_H → Prop} {lv : List Value} {x y : Int32} : gm_W E d 32 122 lv (.int y :: .int x :: st) h Q ↔ gm_W E d 32 123 lv (.int (x - y) :: st) h Q := gw_pure m32 f32_122 rfl
theorem f32_123 : gm_ft 32 123 = some (.goto 4, 3) := by decide +kernel
theorem r32_123 {E : Nat → Value} {d : Nat} {st : List Value} {h : gm_H} {Q : gm_R → gm_H → Prop} {lv : List Value} : gm_W E d 32 123 lv st h Q ↔ gm_W E d 32 127 lv st h Q := gw_brT m32 f32_123 rfl rfl rfl rfl
theorem f32_126 : gm_ft 32 126 = some (.iconst (-1), 1) := by decide +kernel
theorem r32_126 {E : Nat → Value} {d : Nat} {st : List Value} {h : gm_H} {Q : gm_R → gm_H → Prop} {lv : List Value} : gm_W E d 32 126 lv st h Q ↔ gm_W E d 32 127 lv (.int (-1 : Int32) :: st) h Q := gw_pure m32 f32_126 rfl
theorem f32_127 : gm_ft 32 127 = some (.istore 8, 2) := by decide +kernel
theorem r32_127 {E : Nat → Value} {d : Nat} {st : List Value} {h : gm_H} {Q : gm_R → gm_H → Prop} {a0 a1 a2 a3 a4 a5 a6 a7 a8 a9 a10 : Value} {x : Int32} : gm_W E d 32 127 [a0, a1, a2, a3, a4, a5, a6, a7, a8, a9, a10] (.int x :: st) h Q ↔ gm_W E d 32 129 [a0, a1, a2, a3, a4, a5, a6, gm_k a7, .int x, a9, a10] st h Q := gw_loc m32 f32_127 rfl rfl
theorem f32_129 : gm_ft 32 129 = some (.aload_n 0, 1) := by decide +kernel
theorem r32_129 {E : Nat → Value} {d : Nat} {st : List Value} {h : gm_H} {Q : gm_R → gm_H → Prop} {a1 a2 a3 a4 a5 a6 a7 a8 a9 a10 : Value} {x : Nat} : gm_W E d 32 129 [.ref x, a1, a2, a3, a4, a5, a6, a7, a8, a9, a10] st h Q ↔ gm_W E d 32 130 [.ref x, a1, a2, a3, a4, a5, a6, a7, a8, a9, a10] (.ref x :: st) h Q := gw_loc m32 f32_129 rfl rfl
theorem r32_129n {E : Nat → Value} {d : Nat} {st : List Value} {h : gm_H} {Q : gm_R → gm_H → Prop} {a1 a2 a3 a4 a5 a6 a7 a8 a9 a10 : Value}  : gm_W E d 32 129 [.null, a1, a2, a3, a4, a5, a6, a7, a8, a9, a10] st h Q ↔ gm_W E d 32 130 [.null, a1, a2, a3, a4, a5, a6, a7, a8, a9, a10] (.null :: st) h Q := gw_loc m32 f32_129 rfl rfl
theorem f32_130 : gm_ft 32 130 = some (.getfield 69, 3) := by decide +kernel
theorem r32_130 {E : Nat → Value} {d : Nat} {st : List Value} {h : gm_H} {Q : gm_R → gm_H → Prop} {lv : List Value} {a : Nat} (hk : gm_kd h a = 5) : gm_W E d 32 130 lv (.ref a :: st) h Q ↔ gm_W E d 32 133 lv (gm_fv h a 31 :: st) h Q := gw_rd m32 f32_130 rfl rfl rfl rfl (gs_get k5_69 hk (by decide))
theorem f32_133 : gm_ft 32 133 = some (.iload 7, 2) := by decide +kernel
theorem r32_133 {E : Nat → Value} {d : Nat} {st : List Value} {h : gm_H} {Q : gm_R → gm_H → Prop} {a0 a1 a2 a3 a4 a5 a6 a8 a9 a10 : Value} {x : Int32} : gm_W E d 32 133 [a0, a1, a2, a3, a4, a5, a6, .int x, a8, a9, a10] st h Q ↔ gm_W E d 32 135 [a0, a1, a2, a3, a4, a5, a6, .int x, a8, a9, a10] (.int x :: st) h Q := gw_loc m32 f32_133 rfl rfl
theorem f32_135 : gm_ft 32 135 = some (.aload_n 0, 1) := by decide +kernel
theorem r32_135 {E : Nat → Value} {d : Nat} {st : List Value} {h : gm_H} {Q : gm_R → gm_H → Prop} {a1 a2 a3 a4 a5 a6 a7 a8 a9 a10 : Value} {x : Nat} : gm_W E d 32 135 [.ref x, a1, a2, a3, a4, a5, a6, a7, a8, a9, a10] st h Q ↔ gm_W E d 32 136 [.ref x, a1, a2, a3, a4, a5, a6, a7, a8, a9, a10] (.ref x :: st) h Q := gw_loc m32 f32_135 rfl rfl
theorem r32_135n {E : Nat → Value} {d : Nat} {st : List Value} {h : gm_H} {Q : gm_R → gm_H → Prop} {a1 a2 a3 a4 a5 a6 a7 a8 a9 a10 : Value}  : gm_W E d 32 135 [.null, a1, a2, a3, a4, a5, a6, a7, a8, a9, a10] st h Q ↔ gm_W E d 32 136 [.null, a1, a2, a3, a4, a5, a6, a7, a8, a9, a10] (.null :: st) h Q := gw_loc m32 f32_135 rfl rfl
theorem f32_136 : gm_ft 32 136 = some (.iload 8, 2) := by decide +kernel
theorem r32_136 {E : Nat → Value} {d : Nat} {st : List Value} {h : gm_H} {Q : gm_R → gm_H → Prop} {a0 a1 a2 a3 a4 a5 a6 a7 a9 a10 : Value} {x : Int32} : gm_W E d 32 136 [a0, a1, a2, a3, a4, a5, a6, a7, .int x, a9, a10] st h Q ↔ gm_W E d 32 138 [a0, a1, a2, a3, a4, a5, a6, a7, .int x, a9, a10] (.int x :: st) h Q := gw_loc m32 f32_136 rfl rfl
theorem f32_138 : gm_ft 32 138 = some (.bipush 6, 2) := by decide +kernel
theorem r32_138 {E : Nat → Value} {d : Nat} {st : List Value} {h : gm_H} {Q : gm_R → gm_H → Prop} {lv : List Value} : gm_W E d 32 138 lv st h Q ↔ gm_W E d 32 140 lv (.int (6 : Int32) :: st) h Q := gw_pure m32 f32_138 rfl
theorem f32_140 : gm_ft 32 140 = some (.invokevirtual 131, 3) := by decide +kernel
theorem c32_140 {E : Nat → Value} {d : Nat} {st : List Value} {h : gm_H} {Q : gm_R → gm_H → Prop} {lv : List Value} {b0 : Int32} {b1 : Int32} {a : Nat} {Qc : gm_R → gm_H → Prop} (hs : (st.map fun v => v.category).sum ≤ 8) (hr : gm_kd h a = 5) (hd : 1 ≤ d) (hc : gm_Ca E (d - 1) 4 [.ref a, .int b0, .int b1] h Qc) (kn : ∀ (v9 : Option Value) (h9 : gm_H), Qc (.inl v9) h9 → gm_W E d 32 143 lv (v9.toList ++ st) h9 Q) (kx : ∀ (x9 : Nat) (h9 : gm_H), Qc (.inr x9) h9 → Q (.inr x9) h9) : gm_W E d 32 140 lv (.int b1 :: .int b0 :: .ref a :: st) h Q := gw_call (gn_call m32 f32_140 rfl rfl rfl rfl rfl rfl rfl (gs_virt (bs := [.int b1, .int b0]) (w := 820) (L := 3) rfl rfl rfl rfl hs (by simp [gm_en1]) hr (by decide)) (by decide)) m32 rfl rfl hd hc kn kx
theorem f32_143 : gm_ft 32 143 = some (.ifCond .ne 13, 3) := by decide +kernel
theorem r32_143 {E : Nat → Value} {d : Nat} {st : List Value} {h : gm_H} {Q : gm_R → gm_H → Prop} {lv : List Value} {x : Int32} : gm_W E d 32 143 lv (.int x :: st) h Q ↔ (if x = 0 then gm_W E d 32 146 lv st h Q else gm_W E d 32 156 lv st h Q) := (gw_br m32 f32_143 rfl rfl rfl rfl).trans gw_ifn
theorem f32_146 : gm_ft 32 146 = some (.aload_n 0, 1) := by decide +kernel
theorem r32_146 {E : Nat → Value} {d : Nat} {st : List Value} {h : gm_H} {Q : gm_R → gm_H → Prop} {a1 a2 a3 a4 a5 a6 a7 a8 a9 a10 : Value} {x : Nat} : gm_W E d 32 146 [.ref x, a1, a2, a3, a4, a5, a6, a7, a8, a9, a10] st h Q ↔ gm_W E d 32 147 [.ref x, a1, a2, a3, a4, a5, a6, a7, a8, a9, a10] (.ref x :: st) h Q := gw_loc m32 f32_146 rfl rfl
theorem r32_146n {E : Nat → Value} {d : Nat} {st : List Value} {h : gm_H} {Q : gm_R → gm_H → Prop} {a1 a2 a3 a4 a5 a6 a7 a8 a9 a10 : Value}  : gm_W E d 32 146 [.null, a1, a2, a3, a4, a5, a6, a7, a8, a9, a10] st h Q ↔ gm_W E d 32 147 [.null, a1, a2, a3, a4, a5, a6, a7, a8, a9, a10] (.null :: st) h Q := gw_loc m32 f32_146 rfl rfl
theorem f32_147 : gm_ft 32 147 = some (.getfield 13, 3) := by decide +kernel
theorem r32_147 {E : Nat → Value} {d : Nat} {st : List Value} {h : gm_H} {Q : gm_R → gm_H → Prop} {lv : List Value} {a : Nat} (hk : gm_kd h a = 5) : gm_W E d 32 147 lv (.ref a :: st) h Q ↔ gm_W E d 32 150 lv (gm_fv h a 10 :: st) h Q := gw_rd m32 f32_147 rfl rfl rfl rfl (gs_get k5_13 hk (by decide))
theorem f32_150 : gm_ft 32 150 = some (.iload 8, 2) := by decide +kernel
theorem r32_150 {E : Nat → Value} {d : Nat} {st : List Value} {h : gm_H} {Q : gm_R → gm_H → Prop} {a0 a1 a2 a3 a4 a5 a6 a7 a9 a10 : Value} {x : Int32} : gm_W E d 32 150 [a0, a1, a2, a3, a4, a5, a6, a7, .int x, a9, a10] st h Q ↔ gm_W E d 32 152 [a0, a1, a2, a3, a4, a5, a6, a7, .int x, a9, a10] (.int x :: st) h Q := gw_loc m32 f32_150 rfl rfl
theorem f32_152 : gm_ft 32 152 = some (.iaload, 1) := by decide +kernel
theorem r32_152 {E : Nat → Value} {d : Nat} {st : List Value} {h : gm_H} {Q : gm_R → gm_H → Prop} {lv : List Value} {a j : Nat} (hk : gm_kd h a % 100 = 0 ∧ 100 ≤ gm_kd h a ∧ gm_kd h a < 900) (hj : j < gm_ln h a) (hl : gm_ln h a < 2 ^ 31) : gm_W E d 32 152 lv (.int (nI j) :: .ref a :: st) h Q ↔ gm_W E d 32 153 lv (gm_fv h a j :: st) h Q := gw_rd m32 f32_152 rfl rfl rfl rfl (gs_ld (P := fun t => t == 0) hk.2 (by have := hk.1; simp [this] <;> omega) hj hl)
theorem f32_153 : gm_ft 32 153 = some (.ifCond .ge 7, 3) := by decide +kernel
theorem r32_153 {E : Nat → Value} {d : Nat} {st : List Value} {h : gm_H} {Q : gm_R → gm_H → Prop} {lv : List Value} {x : Int32} : gm_W E d 32 153 lv (.int x :: st) h Q ↔ (if 0 ≤ x then gm_W E d 32 160 lv st h Q else gm_W E d 32 156 lv st h Q) := (gw_br m32 f32_153 rfl rfl rfl rfl).trans gw_if
theorem f32_156 : gm_ft 32 156 = some (.iconst (-1), 1) := by decide +kernel
theorem r32_156 {E : Nat → Value} {d : Nat} {st : List Value} {h : gm_H} {Q : gm_R → gm_H → Prop} {lv : List Value} : gm_W E d 32 156 lv st h Q ↔ gm_W E d 32 157 lv (.int (-1 : Int32) :: st) h Q := gw_pure m32 f32_156 rfl
theorem f32_157 : gm_ft 32 157 = some (.goto 5, 3) := by decide +kernel
theorem r32_157 {E : Nat → Value} {d : Nat} {st : List Value} {h : gm_H} {Q : gm_R → gm_H → Prop} {lv : List Value} : gm_W E d 32 157 lv st h Q ↔ gm_W E d 32 162 lv st h Q := gw_brT m32 f32_157 rfl rfl rfl rfl
theorem f32_160 : gm_ft 32 160 = some (.iload 8, 2) := by decide +kernel
theorem r32_160 {E : Nat → Value} {d : Nat} {st : List Value} {h : gm_H} {Q : gm_R → gm_H → Prop} {a0 a1 a2 a3 a4 a5 a6 a7 a9 a10 : Value} {x : Int32} : gm_W E d 32 160 [a0, a1, a2, a3, a4, a5, a6, a7, .int x, a9, a10] st h Q ↔ gm_W E d 32 162 [a0, a1, a2, a3, a4, a5, a6, a7, .int x, a9, a10] (.int x :: st) h Q := gw_loc m32 f32_160 rfl rfl
theorem f32_162 : gm_ft 32 162 = some (.iastore, 1) := by decide +kernel
theorem r32_162 {E : Nat → Value} {d : Nat} {st : List Value} {h : gm_H} {Q : gm_R → gm_H → Prop} {lv : List Value} {a j : Nat} {x : Int32} (hk : gm_kd h a = 200) (hj : j < gm_ln h a) (hl : gm_ln h a < 2 ^ 31) : gm_W E d 32 162 lv (.int x :: .int (nI j) :: .ref a :: st) h Q ↔ gm_W E d 32 163 lv st (gm_sf h a j (.int x)) Q := gw_wr m32 f32_162 rfl rfl rfl rfl rfl (gs_st hk (by decide) hj hl)
theorem f32_163 : gm_ft 32 163 = some (.aload_n 0, 1) := by decide +kernel
theorem r32_163 {E : Nat → Value} {d : Nat} {st : List Value} {h : gm_H} {Q : gm_R → gm_H → Prop} {a1 a2 a3 a4 a5 a6 a7 a8 a9 a10 : Value} {x : Nat} : gm_W E d 32 163 [.ref x, a1, a2, a3, a4, a5, a6, a7, a8, a9, a10] st h Q ↔ gm_W E d 32 164 [.ref x, a1, a2, a3, a4, a5, a6, a7, a8, a9, a10] (.ref x :: st) h Q := gw_loc m32 f32_163 rfl rfl
theorem r32_163n {E : Nat → Value} {d : Nat} {st : List Value} {h : gm_H} {Q : gm_R → gm_H → Prop} {a1 a2 a3 a4 a5 a6 a7 a8 a9 a10 : Value}  : gm_W E d 32 163 [.null, a1, a2, a3, a4, a5, a6, a7, a8, a9, a10] st h Q ↔ gm_W E d 32 164 [.null, a1, a2, a3, a4, a5, a6, a7, a8, a9, a10] (.null :: st) h Q := gw_loc m32 f32_163 rfl rfl
theorem f32_164 : gm_ft 32 164 = some (.getfield 72, 3) := by decide +kernel
theorem r32_164 {E : Nat → Value} {d : Nat} {st : List Value} {h : gm_H} {Q : gm_R → gm_H → Prop} {lv : List Value} {a : Nat} (hk : gm_kd h a = 5) : gm_W E d 32 164 lv (.ref a :: st) h Q ↔ gm_W E d 32 167 lv (gm_fv h a 32 :: st) h Q := gw_rd m32 f32_164 rfl rfl rfl rfl (gs_get k5_72 hk (by decide))
theorem f32_167 : gm_ft 32 167 = some (.iload 7, 2) := by decide +kernel
theorem r32_167 {E : Nat → Value} {d : Nat} {st : List Value} {h : gm_H} {Q : gm_R → gm_H → Prop} {a0 a1 a2 a3 a4 a5 a6 a8 a9 a10 : Value} {x : Int32} : gm_W E d 32 167 [a0, a1, a2, a3, a4, a5, a6, .int x, a8, a9, a10] st h Q ↔ gm_W E d 32 169 [a0, a1, a2, a3, a4, a5, a6, .int x, a8, a9, a10] (.int x :: st) h Q := gw_loc m32 f32_167 rfl rfl
theorem f32_169 : gm_ft 32 169 = some (.aload_n 0, 1) := by decide +kernel
theorem r32_169 {E : Nat → Value} {d : Nat} {st : List Value} {h : gm_H} {Q : gm_R → gm_H → Prop} {a1 a2 a3 a4 a5 a6 a7 a8 a9 a10 : Value} {x : Nat} : gm_W E d 32 169 [.ref x, a1, a2, a3, a4, a5, a6, a7, a8, a9, a10] st h Q ↔ gm_W E d 32 170 [.ref x, a1, a2, a3, a4, a5, a6, a7, a8, a9, a10] (.ref x :: st) h Q := gw_loc m32 f32_169 rfl rfl
theorem r32_169n {E : Nat → Value} {d : Nat} {st : List Value} {h : gm_H} {Q : gm_R → gm_H → Prop} {a1 a2 a3 a4 a5 a6 a7 a8 a9 a10 : Value}  : gm_W E d 32 169 [.null, a1, a2, a3, a4, a5, a6, a7, a8, a9, a10] st h Q ↔ gm_W E d 32 170 [.null, a1, a2, a3, a4, a5, a6, a7, a8, a9, a10] (.null :: st) h Q := gw_loc m32 f32_169 rfl rfl
theorem f32_170 : gm_ft 32 170 = some (.iload 4, 2) := by decide +kernel
theorem r32_170 {E : Nat → Value} {d : Nat} {st : List Value} {h : gm_H} {Q : gm_R → gm_H → Prop} {a0 a1 a2 a3 a5 a6 a7 a8 a9 a10 : Value} {x : Int32} : gm_W E d 32 170 [a0, a1, a2, a3, .int x, a5, a6, a7, a8, a9, a10] st h Q ↔ gm_W E d 32 172 [a0, a1, a2, a3, .int x, a5, a6, a7, a8, a9, a10] (.int x :: st) h Q := gw_loc m32 f32_170 rfl rfl
theorem f32_172 : gm_ft 32 172 = some (.iload_n 3, 1) := by decide +kernel
theorem r32_172 {E : Nat → Value} {d : Nat} {st : List Value} {h : gm_H} {Q : gm_R → gm_H → Prop} {a0 a1 a2 a4 a5 a6 a7 a8 a9 a10 : Value} {x : Int32} : gm_W E d 32 172 [a0, a1, a2, .int x, a4, a5, a6, a7, a8, a9, a10] st h Q ↔ gm_W E d 32 173 [a0, a1, a2, .int x, a4, a5, a6, a7, a8, a9, a10] (.int x :: st) h Q := gw_loc m32 f32_172 rfl rfl
theorem f32_173 : gm_ft 32 173 = some (.iconst 1, 1) := by decide +kernel
theorem r32_173 {E : Nat → Value} {d : Nat} {st : List Value} {h : gm_H} {Q : gm_R → gm_H → Prop} {lv : List Value} : gm_W E d 32 173 lv st h Q ↔ gm_W E d 32 174 lv (.int (1 : Int32) :: st) h Q := gw_pure m32 f32_173 rfl
theorem f32_174 : gm_ft 32 174 = some (.invokevirtual 241, 3) := by decide +kernel
theorem c32_174 {E : Nat → Value} {d : Nat} {st : List Value} {h : gm_H} {Q : gm_R → gm_H → Prop} {lv : List Value} {b0 : Int32} {b1 : Int32} {b2 : Int32} {a : Nat} {Qc : gm_R → gm_H → Prop} (hs : (st.map fun v => v.category).sum ≤ 8) (hr : gm_kd h a = 5) (hd : 1 ≤ d) (hc : gm_Ca E (d - 1) 31 [.ref a, .int b0, .int b1, .int b2] h Qc) (kn : ∀ (v9 : Option Value) (h9 : gm_H), Qc (.inl v9) h9 → gm_W E d 32 177 lv (v9.toList ++ st) h9 Q) (kx : ∀ (x9 : Nat) (h9 : gm_H), Qc (.inr x9) h9 → Q (.inr x9) h9) : gm_W E d 32 174 lv (.int b2 :: .int b1 :: .int b0 :: .ref a :: st) h Q := gw_call (gn_call m32 f32_174 rfl rfl rfl rfl rfl rfl rfl (gs_virt (bs := [.int b2, .int b1, .int b0]) (w := 939) (L := 9) rfl rfl rfl rfl hs (by simp [gm_en1]) hr (by decide)) (by decide)) m32 rfl rfl hd hc kn kx
theorem f32_177 : gm_ft 32 177 = some (.ifCond .eq 7, 3) := by decide +kernel
theorem r32_177 {E : Nat → Value} {d : Nat} {st : List Value} {h : gm_H} {Q : gm_R → gm_H → Prop} {lv : List Value} {x : Int32} : gm_W E d 32 177 lv (.int x :: st) h Q ↔ (if x = 0 then gm_W E d 32 184 lv st h Q else gm_W E d 32 180 lv st h Q) := (gw_br m32 f32_177 rfl rfl rfl rfl).trans gw_if
theorem f32_180 : gm_ft 32 180 = some (.iconst 1, 1) := by decide +kernel
theorem r32_180 {E : Nat → Value} {d : Nat} {st : List Value} {h : gm_H} {Q : gm_R → gm_H → Prop} {lv : List Value} : gm_W E d 32 180 lv st h Q ↔ gm_W E d 32 181 lv (.int (1 : Int32) :: st) h Q := gw_pure m32 f32_180 rfl
theorem f32_181 : gm_ft 32 181 = some (.goto 19, 3) := by decide +kernel
theorem r32_181 {E : Nat → Value} {d : Nat} {st : List Value} {h : gm_H} {Q : gm_R → gm_H → Prop} {lv : List Value} : gm_W E d 32 181 lv st h Q ↔ gm_W E d 32 200 lv st h Q := gw_brT m32 f32_181 rfl rfl rfl rfl
theorem f32_184 : gm_ft 32 184 = some (.aload_n 0, 1) := by decide +kernel
theorem r32_184 {E : Nat → Value} {d : Nat} {st : List Value} {h : gm_H} {Q : gm_R → gm_H → Prop} {a1 a2 a3 a4 a5 a6 a7 a8 a9 a10 : Value} {x : Nat} : gm_W E d 32 184 [.ref x, a1, a2, a3, a4, a5, a6, a7, a8, a9, a10] st h Q ↔ gm_W E d 32 185 [.ref x, a1, a2, a3, a4, a5, a6, a7, a8, a9, a10] (.ref x :: st) h Q := gw_loc m32 f32_184 rfl rfl
theorem r32_184n {E : Nat → Value} {d : Nat} {st : List Value} {h : gm_H} {Q : gm_R → gm_H → Prop} {a1 a2 a3 a4 a5 a6 a7 a8 a9 a10 : Value}  : gm_W E d 32 184 [.null, a1, a2, a3, a4, a5, a6, a7, a8, a9, a10] st h Q ↔ gm_W E d 32 185 [.null, a1, a2, a3, a4, a5, a6, a7, a8, a9, a10] (.null :: st) h Q := gw_loc m32 f32_184 rfl rfl
theorem f32_185 : gm_ft 32 185 = some (.iload 4, 2) := by decide +kernel
theorem r32_185 {E : Nat → Value} {d : Nat} {st : List Value} {h : gm_H} {Q : gm_R → gm_H → Prop} {a0 a1 a2 a3 a5 a6 a7 a8 a9 a10 : Value} {x : Int32} : gm_W E d 32 185 [a0, a1, a2, a3, .int x, a5, a6, a7, a8, a9, a10] st h Q ↔ gm_W E d 32 187 [a0, a1, a2, a3, .int x, a5, a6, a7, a8, a9, a10] (.int x :: st) h Q := gw_loc m32 f32_185 rfl rfl
theorem f32_187 : gm_ft 32 187 = some (.iload_n 3, 1) := by decide +kernel
theorem r32_187 {E : Nat → Value} {d : Nat} {st : List Value} {h : gm_H} {Q : gm_R → gm_H → Prop} {a0 a1 a2 a4 a5 a6 a7 a8 a9 a10 : Value} {x : Int32} : gm_W E d 32 187 [a0, a1, a2, .int x, a4, a5, a6, a7, a8, a9, a10] st h Q ↔ gm_W E d 32 188 [a0, a1, a2, .int x, a4, a5, a6, a7, a8, a9, a10] (.int x :: st) h Q := gw_loc m32 f32_187 rfl rfl
theorem f32_188 : gm_ft 32 188 = some (.iconst 0, 1) := by decide +kernel
theorem r32_188 {E : Nat → Value} {d : Nat} {st : List Value} {h : gm_H} {Q : gm_R → gm_H → Prop} {lv : List Value} : gm_W E d 32 188 lv st h Q ↔ gm_W E d 32 189 lv (.int (0 : Int32) :: st) h Q := gw_pure m32 f32_188 rfl
theorem f32_189 : gm_ft 32 189 = some (.invokevirtual 241, 3) := by decide +kernel
theorem c32_189 {E : Nat → Value} {d : Nat} {st : List Value} {h : gm_H} {Q : gm_R → gm_H → Prop} {lv : List Value} {b0 : Int32} {b1 : Int32} {b2 : Int32} {a : Nat} {Qc : gm_R → gm_H → Prop} (hs : (st.map fun v => v.category).sum ≤ 8) (hr : gm_kd h a = 5) (hd : 1 ≤ d) (hc : gm_Ca E (d - 1) 31 [.ref a, .int b0, .int b1, .int b2] h Qc) (kn : ∀ (v9 : Option Value) (h9 : gm_H), Qc (.inl v9) h9 → gm_W E d 32 192 lv (v9.toList ++ st) h9 Q) (kx : ∀ (x9 : Nat) (h9 : gm_H), Qc (.inr x9) h9 → Q (.inr x9) h9) : gm_W E d 32 189 lv (.int b2 :: .int b1 :: .int b0 :: .ref a :: st) h Q := gw_call (gn_call m32 f32_189 rfl rfl rfl rfl rfl rfl rfl (gs_virt (bs := [.int b2, .int b1, .int b0]) (w := 939) (L := 9) rfl rfl rfl rfl hs (by simp [gm_en1]) hr (by decide)) (by decide)) m32 rfl rfl hd hc kn kx
theorem f32_192 : gm_ft 32 192 = some (.ifCond .eq 7, 3) := by decide +kernel
theorem r32_192 {E : Nat → Value} {d : Nat} {st : List Value} {h : gm_H} {Q : gm_R → gm_H → Prop} {lv : List Value} {x : Int32} : gm_W E d 32 192 lv (.int x :: st) h Q ↔ (if x = 0 then gm_W E d 32 199 lv st h Q else gm_W E d 32 195 lv st h Q) := (gw_br m32 f32_192 rfl rfl rfl rfl).trans gw_if
theorem f32_195 : gm_ft 32 195 = some (.iconst 2, 1) := by decide +kernel
theorem r32_195 {E : Nat → Value} {d : Nat} {st : List Value} {h : gm_H} {Q : gm_R → gm_H → Prop} {lv : List Value} : gm_W E d 32 195 lv st h Q ↔ gm_W E d 32 196 lv (.int (2 : Int32) :: st) h Q := gw_pure m32 f32_195 rfl
theorem f32_196 : gm_ft 32 196 = some (.goto 4, 3) := by decide +kernel
theorem r32_196 {E : Nat → Value} {d : Nat} {st : List Value} {h : gm_H} {Q : gm_R → gm_H → Prop} {lv : List Value} : gm_W E d 32 196 lv st h Q ↔ gm_W E d 32 200 lv st h Q := gw_brT m32 f32_196 rfl rfl rfl rfl
theorem f32_199 : gm_ft 32 199 = some (.iconst 0, 1) := by decide +kernel
theorem r32_199 {E : Nat → Value} {d : Nat} {st : List Value} {h : gm_H} {Q : gm_R → gm_H → Prop} {lv : List Value} : gm_W E d 32 199 lv st h Q ↔ gm_W E d 32 200 lv (.int (0 : Int32) :: st) h Q := gw_pure m32 f32_199 rfl
theorem f32_200 : gm_ft 32 200 = some (.iastore, 1) := by decide +kernel
theorem r32_200 {E : Nat → Value} {d : Nat} {st : List Value} {h : gm_H} {Q : gm_R → gm_H → Prop} {lv : List Value} {a j : Nat} {x : Int32} (hk : gm_kd h a = 200) (hj : j < gm_ln h a) (hl : gm_ln h a < 2 ^ 31) : gm_W E d 32 200 lv (.int x :: .int (nI j) :: .ref a :: st) h Q ↔ gm_W E d 32 201 lv st (gm_sf h a j (.int x)) Q := gw_wr m32 f32_200 rfl rfl rfl rfl rfl (gs_st hk (by decide) hj hl)
theorem f32_201 : gm_ft 32 201 = some (.aload_n 0, 1) := by decide +kernel
theorem r32_201 {E : Nat → Value} {d : Nat} {st : List Value} {h : gm_H} {Q : gm_R → gm_H → Prop} {a1 a2 a3 a4 a5 a6 a7 a8 a9 a10 : Value} {x : Nat} : gm_W E d 32 201 [.ref x, a1, a2, a3, a4, a5, a6, a7, a8, a9, a10] st h Q ↔ gm_W E d 32 202 [.ref x, a1, a2, a3, a4, a5, a6, a7, a8, a9, a10] (.ref x :: st) h Q := gw_loc m32 f32_201 rfl rfl
theorem r32_201n {E : Nat → Value} {d : Nat} {st : List Value} {h : gm_H} {Q : gm_R → gm_H → Prop} {a1 a2 a3 a4 a5 a6 a7 a8 a9 a10 : Value}  : gm_W E d 32 201 [.null, a1, a2, a3, a4, a5, a6, a7, a8, a9, a10] st h Q ↔ gm_W E d 32 202 [.null, a1, a2, a3, a4, a5, a6, a7, a8, a9, a10] (.null :: st) h Q := gw_loc m32 f32_201 rfl rfl
theorem f32_202 : gm_ft 32 202 = some (.getfield 78, 3) := by decide +kernel
theorem r32_202 {E : Nat → Value} {d : Nat} {st : List Value} {h : gm_H} {Q : gm_R → gm_H → Prop} {lv : List Value} {a : Nat} (hk : gm_kd h a = 5) : gm_W E d 32 202 lv (.ref a :: st) h Q ↔ gm_W E d 32 205 lv (gm_fv h a 34 :: st) h Q := gw_rd m32 f32_202 rfl rfl rfl rfl (gs_get k5_78 hk (by decide))
theorem f32_205 : gm_ft 32 205 = some (.iload 7, 2) := by decide +kernel
theorem r32_205 {E : Nat → Value} {d : Nat} {st : List Value} {h : gm_H} {Q : gm_R → gm_H → Prop} {a0 a1 a2 a3 a4 a5 a6 a8 a9 a10 : Value} {x : Int32} : gm_W E d 32 205 [a0, a1, a2, a3, a4, a5, a6, .int x, a8, a9, a10] st h Q ↔ gm_W E d 32 207 [a0, a1, a2, a3, a4, a5, a6, .int x, a8, a9, a10] (.int x :: st) h Q := gw_loc m32 f32_205 rfl rfl
theorem f32_207 : gm_ft 32 207 = some (.lload 5, 2) := by decide +kernel
theorem r32_207 {E : Nat → Value} {d : Nat} {st : List Value} {h : gm_H} {Q : gm_R → gm_H → Prop} {a0 a1 a2 a3 a4 a6 a7 a8 a9 a10 : Value} {x : Int64} : gm_W E d 32 207 [a0, a1, a2, a3, a4, .long x, a6, a7, a8, a9, a10] st h Q ↔ gm_W E d 32 209 [a0, a1, a2, a3, a4, .long x, a6, a7, a8, a9, a10] (.long x :: st) h Q := gw_loc m32 f32_207 rfl rfl
theorem f32_209 : gm_ft 32 209 = some (.lastore, 1) := by decide +kernel
theorem r32_209 {E : Nat → Value} {d : Nat} {st : List Value} {h : gm_H} {Q : gm_R → gm_H → Prop} {lv : List Value} {a j : Nat} {x : Int64} (hk : gm_kd h a = 201) (hj : j < gm_ln h a) (hl : gm_ln h a < 2 ^ 31) : gm_W E d 32 209 lv (.long x :: .int (nI j) :: .ref a :: st) h Q ↔ gm_W E d 32 210 lv st (gm_sf h a j (.long x)) Q := gw_wr m32 f32_209 rfl rfl rfl rfl rfl (gs_st hk (by decide) hj hl)
theorem f32_210 : gm_ft 32 210 = some (.aload_n 0, 1) := by decide +kernel
theorem r32_210 {E : Nat → Value} {d : Nat} {st : List Value} {h : gm_H} {Q : gm_R → gm_H → Prop} {a1 a2 a3 a4 a5 a6 a7 a8 a9 a10 : Value} {x : Nat} : gm_W E d 32 210 [.ref x, a1, a2, a3, a4, a5, a6, a7, a8, a9, a10] st h Q ↔ gm_W E d 32 211 [.ref x, a1, a2, a3, a4, a5, a6, a7, a8, a9, a10] (.ref x :: st) h Q := gw_loc m32 f32_210 rfl rfl
theorem r32_210n {E : Nat → Value} {d : Nat} {st : List Value} {h : gm_H} {Q : gm_R → gm_H → Prop} {a1 a2 a3 a4 a5 a6 a7 a8 a9 a10 : Value}  : gm_W E d 32 210 [.null, a1, a2, a3, a4, a5, a6, a7, a8, a9, a10] st h Q ↔ gm_W E d 32 211 [.null, a1, a2, a3, a4, a5, a6, a7, a8, a9, a10] (.null :: st) h Q := gw_loc m32 f32_210 rfl rfl
theorem f32_211 : gm_ft 32 211 = some (.getfield 105, 3) := by decide +kernel
theorem r32_211 {E : Nat → Value} {d : Nat} {st : List Value} {h : gm_H} {Q : gm_R → gm_H → Prop} {lv : List Value} {a : Nat} (hk : gm_kd h a = 5) : gm_W E d 32 211 lv (.ref a :: st) h Q ↔ gm_W E d 32 214 lv (gm_fv h a 44 :: st) h Q := gw_rd m32 f32_211 rfl rfl rfl rfl (gs_get k5_105 hk (by decide))
theorem f32_214 : gm_ft 32 214 = some (.iload_n 1, 1) := by decide +kernel
theorem r32_214 {E : Nat → Value} {d : Nat} {st : List Value} {h : gm_H} {Q : gm_R → gm_H → Prop} {a0 a2 a3 a4 a5 a6 a7 a8 a9 a10 : Value} {x : Int32} : gm_W E d 32 214 [a0, .int x, a2, a3, a4, a5, a6, a7, a8, a9, a10] st h Q ↔ gm_W E d 32 215 [a0, .int x, a2, a3, a4, a5, a6, a7, a8, a9, a10] (.int x :: st) h Q := gw_loc m32 f32_214 rfl rfl
theorem f32_215 : gm_ft 32 215 = some (.iload 7, 2) := by decide +kernel
theorem r32_215 {E : Nat → Value} {d : Nat} {st : List Value} {h : gm_H} {Q : gm_R → gm_H → Prop} {a0 a1 a2 a3 a4 a5 a6 a8 a9 a10 : Value} {x : Int32} : gm_W E d 32 215 [a0, a1, a2, a3, a4, a5, a6, .int x, a8, a9, a10] st h Q ↔ gm_W E d 32 217 [a0, a1, a2, a3, a4, a5, a6, .int x, a8, a9, a10] (.int x :: st) h Q := gw_loc m32 f32_215 rfl rfl
theorem f32_217 : gm_ft 32 217 = some (.iastore, 1) := by decide +kernel
theorem r32_217 {E : Nat → Value} {d : Nat} {st : List Value} {h : gm_H} {Q : gm_R → gm_H → Prop} {lv : List Value} {a j : Nat} {x : Int32} (hk : gm_kd h a = 200) (hj : j < gm_ln h a) (hl : gm_ln h a < 2 ^ 31) : gm_W E d 32 217 lv (.int x :: .int (nI j) :: .ref a :: st) h Q ↔ gm_W E d 32 218 lv st (gm_sf h a j (.int x)) Q := gw_wr m32 f32_217 rfl rfl rfl rfl rfl (gs_st hk (by decide) hj hl)
theorem f32_218 : gm_ft 32 218 = some (.aload_n 0, 1) := by decide +kernel
theorem r32_218 {E : Nat → Value} {d : Nat} {st : List Value} {h : gm_H} {Q : gm_R → gm_H → Prop} {a1 a2 a3 a4 a5 a6 a7 a8 a9 a10 : Value} {x : Nat} : gm_W E d 32 218 [.ref x, a1, a2, a3, a4, a5, a6, a7, a8, a9, a10] st h Q ↔ gm_W E d 32 219 [.ref x, a1, a2, a3, a4, a5, a6, a7, a8, a9, a10] (.ref x :: st) h Q := gw_loc m32 f32_218 rfl rfl
theorem r32_218n {E : Nat → Value} {d : Nat} {st : List Value} {h : gm_H} {Q : gm_R → gm_H → Prop} {a1 a2 a3 a4 a5 a6 a7 a8 a9 a10 : Value}  : gm_W E d 32 218 [.null, a1, a2, a3, a4, a5, a6, a7, a8, a9, a10] st h Q ↔ gm_W E d 32 219 [.null, a1, a2, a3, a4, a5, a6, a7, a8, a9, a10] (.null :: st) h Q := gw_loc m32 f32_218 rfl rfl
theorem f32_219 : gm_ft 32 219 = some (.getfield 111, 3) := by decide +kernel
theorem r32_219 {E : Nat → Value} {d : Nat} {st : List Value} {h : gm_H} {Q : gm_R → gm_H → Prop} {lv : List Value} {a : Nat} (hk : gm_kd h a = 5) : gm_W E d 32 219 lv (.ref a :: st) h Q ↔ gm_W E d 32 222 lv (gm_fv h a 46 :: st) h Q := gw_rd m32 f32_219 rfl rfl rfl rfl (gs_get k5_111 hk (by decide))
theorem f32_222 : gm_ft 32 222 = some (.iload_n 1, 1) := by decide +kernel
theorem r32_222 {E : Nat → Value} {d : Nat} {st : List Value} {h : gm_H} {Q : gm_R → gm_H → Prop} {a0 a2 a3 a4 a5 a6 a7 a8 a9 a10 : Value} {x : Int32} : gm_W E d 32 222 [a0, .int x, a2, a3, a4, a5, a6, a7, a8, a9, a10] st h Q ↔ gm_W E d 32 223 [a0, .int x, a2, a3, a4, a5, a6, a7, a8, a9, a10] (.int x :: st) h Q := gw_loc m32 f32_222 rfl rfl
theorem f32_223 : gm_ft 32 223 = some (.aload_n 0, 1) := by decide +kernel
theorem r32_223 {E : Nat → Value} {d : Nat} {st : List Value} {h : gm_H} {Q : gm_R → gm_H → Prop} {a1 a2 a3 a4 a5 a6 a7 a8 a9 a10 : Value} {x : Nat} : gm_W E d 32 223 [.ref x, a1, a2, a3, a4, a5, a6, a7, a8, a9, a10] st h Q ↔ gm_W E d 32 224 [.ref x, a1, a2, a3, a4, a5, a6, a7, a8, a9, a10] (.ref x :: st) h Q := gw_loc m32 f32_223 rfl rfl
theorem r32_223n {E : Nat → Value} {d : Nat} {st : List Value} {h : gm_H} {Q : gm_R → gm_H → Prop} {a1 a2 a3 a4 a5 a6 a7 a8 a9 a10 : Value}  : gm_W E d 32 223 [.null, a1, a2, a3, a4, a5, a6, a7, a8, a9, a10] st h Q ↔ gm_W E d 32 224 [.null, a1, a2, a3, a4, a5, a6, a7, a8, a9, a10] (.null :: st) h Q := gw_loc m32 f32_223 rfl rfl
theorem f32_224 : gm_ft 32 224 = some (.iconst 0, 1) := by decide +kernel
theorem r32_224 {E : Nat → Value} {d : Nat} {st : List Value} {h : gm_H} {Q : gm_R → gm_H → Prop} {lv : List Value} : gm_W E d 32 224 lv st h Q ↔ gm_W E d 32 225 lv (.int (0 : Int32) :: st) h Q := gw_pure m32 f32_224 rfl
theorem f32_225 : gm_ft 32 225 = some (.iload 7, 2) := by decide +kernel
theorem r32_225 {E : Nat → Value} {d : Nat} {st : List Value} {h : gm_H} {Q : gm_R → gm_H → Prop} {a0 a1 a2 a3 a4 a5 a6 a8 a9 a10 : Value} {x : Int32} : gm_W E d 32 225 [a0, a1, a2, a3, a4, a5, a6, .int x, a8, a9, a10] st h Q ↔ gm_W E d 32 227 [a0, a1, a2, a3, a4, a5, a6, .int x, a8, a9, a10] (.int x :: st) h Q := gw_loc m32 f32_225 rfl rfl
theorem f32_227 : gm_ft 32 227 = some (.invokevirtual 189, 3) := by decide +kernel
theorem c32_227 {E : Nat → Value} {d : Nat} {st : List Value} {h : gm_H} {Q : gm_R → gm_H → Prop} {lv : List Value} {b0 : Int32} {b1 : Int32} {a : Nat} {Qc : gm_R → gm_H → Prop} (hs : (st.map fun v => v.category).sum ≤ 8) (hr : gm_kd h a = 5) (hd : 1 ≤ d) (hc : gm_Ca E (d - 1) 17 [.ref a, .int b0, .int b1] h Qc) (kn : ∀ (v9 : Option Value) (h9 : gm_H), Qc (.inl v9) h9 → gm_W E d 32 230 lv (v9.toList ++ st) h9 Q) (kx : ∀ (x9 : Nat) (h9 : gm_H), Qc (.inr x9) h9 → Q (.inr x9) h9) : gm_W E d 32 227 lv (.int b1 :: .int b0 :: .ref a :: st) h Q := gw_call (gn_call m32 f32_227 rfl rfl rfl rfl rfl rfl rfl (gs_virt (bs := [.int b1, .int b0]) (w := 885) (L := 3) rfl rfl rfl rfl hs (by simp [gm_en1]) hr (by decide)) (by decide)) m32 rfl rfl hd hc kn kx
theorem f32_230 : gm_ft 32 230 = some (.iastore, 1) := by decide +kernel
theorem r32_230 {E : Nat → Value} {d : Nat} {st : List Value} {h : gm_H} {Q : gm_R → gm_H → Prop} {lv : List Value} {a j : Nat} {x : Int32} (hk : gm_kd h a = 200) (hj : j < gm_ln h a) (hl : gm_ln h a < 2 ^ 31) : gm_W E d 32 230 lv (.int x :: .int (nI j) :: .ref a :: st) h Q ↔ gm_W E d 32 231 lv st (gm_sf h a j (.int x)) Q := gw_wr m32 f32_230 rfl rfl rfl rfl rfl (gs_st hk (by decide) hj hl)
theorem f32_231 : gm_ft 32 231 = some (.aload_n 0, 1) := by decide +kernel
theorem r32_231 {E : Nat → Value} {d : Nat} {st : List Value} {h : gm_H} {Q : gm_R → gm_H → Prop} {a1 a2 a3 a4 a5 a6 a7 a8 a9 a10 : Value} {x : Nat} : gm_W E d 32 231 [.ref x, a1, a2, a3, a4, a5, a6, a7, a8, a9, a10] st h Q ↔ gm_W E d 32 232 [.ref x, a1, a2, a3, a4, a5, a6, a7, a8, a9, a10] (.ref x :: st) h Q := gw_loc m32 f32_231 rfl rfl
theorem r32_231n {E : Nat → Value} {d : Nat} {st : List Value} {h : gm_H} {Q : gm_R → gm_H → Prop} {a1 a2 a3 a4 a5 a6 a7 a8 a9 a10 : Value}  : gm_W E d 32 231 [.null, a1, a2, a3, a4, a5, a6, a7, a8, a9, a10] st h Q ↔ gm_W E d 32 232 [.null, a1, a2, a3, a4, a5, a6, a7, a8, a9, a10] (.null :: st) h Q := gw_loc m32 f32_231 rfl rfl
theorem f32_232 : gm_ft 32 232 = some (.invokevirtual 155, 3) := by decide +kernel
theorem c32_232 {E : Nat → Value} {d : Nat} {st : List Value} {h : gm_H} {Q : gm_R → gm_H → Prop} {lv : List Value} {a : Nat} {Qc : gm_R → gm_H → Prop} (hs : (st.map fun v => v.category).sum ≤ 8) (hr : gm_kd h a = 5) (hd : 1 ≤ d) (hc : gm_Ca E (d - 1) 11 [.ref a] h Qc) (kn : ∀ (v9 : Option Value) (h9 : gm_H), Qc (.inl v9) h9 → gm_W E d 32 235 lv (v9.toList ++ st) h9 Q) (kx : ∀ (x9 : Nat) (h9 : gm_H), Qc (.inr x9) h9 → Q (.inr x9) h9) : gm_W E d 32 232 lv (.ref a :: st) h Q := gw_call (gn_call m32 f32_232 rfl rfl rfl rfl rfl rfl rfl (gs_virt (bs := []) (w := 848) (L := 1) rfl rfl rfl rfl hs (by simp [gm_en1]) hr (by decide)) (by decide)) m32 rfl rfl hd hc kn kx
theorem f32_235 : gm_ft 32 235 = some (.istore 9, 2) := by decide +kernel
theorem r32_235 {E : Nat → Value} {d : Nat} {st : List Value} {h : gm_H} {Q : gm_R → gm_H → Prop} {a0 a1 a2 a3 a4 a5 a6 a7 a8 a9 a10 : Value} {x : Int32} : gm_W E d 32 235 [a0, a1, a2, a3, a4, a5, a6, a7, a8, a9, a10] (.int x :: st) h Q ↔ gm_W E d 32 237 [a0, a1, a2, a3, a4, a5, a6, a7, gm_k a8, .int x, a10] st h Q := gw_loc m32 f32_235 rfl rfl
theorem f32_237 : gm_ft 32 237 = some (.aload_n 0, 1) := by decide +kernel
theorem r32_237 {E : Nat → Value} {d : Nat} {st : List Value} {h : gm_H} {Q : gm_R → gm_H → Prop} {a1 a2 a3 a4 a5 a6 a7 a8 a9 a10 : Value} {x : Nat} : gm_W E d 32 237 [.ref x, a1, a2, a3, a4, a5, a6, a7, a8, a9, a10] st h Q ↔ gm_W E d 32 238 [.ref x, a1, a2, a3, a4, a5, a6, a7, a8, a9, a10] (.ref x :: st) h Q := gw_loc m32 f32_237 rfl rfl
theorem r32_237n {E : Nat → Value} {d : Nat} {st : List Value} {h : gm_H} {Q : gm_R → gm_H → Prop} {a1 a2 a3 a4 a5 a6 a7 a8 a9 a10 : Value}  : gm_W E d 32 237 [.null, a1, a2, a3, a4, a5, a6, a7, a8, a9, a10] st h Q ↔ gm_W E d 32 238 [.null, a1, a2, a3, a4, a5, a6, a7, a8, a9, a10] (.null :: st) h Q := gw_loc m32 f32_237 rfl rfl
theorem f32_238 : gm_ft 32 238 = some (.getfield 75, 3) := by decide +kernel
theorem r32_238 {E : Nat → Value} {d : Nat} {st : List Value} {h : gm_H} {Q : gm_R → gm_H → Prop} {lv : List Value} {a : Nat} (hk : gm_kd h a = 5) : gm_W E d 32 238 lv (.ref a :: st) h Q ↔ gm_W E d 32 241 lv (gm_fv h a 33 :: st) h Q := gw_rd m32 f32_238 rfl rfl rfl rfl (gs_get k5_75 hk (by decide))
theorem f32_241 : gm_ft 32 241 = some (.iload 7, 2) := by decide +kernel
theorem r32_241 {E : Nat → Value} {d : Nat} {st : List Value} {h : gm_H} {Q : gm_R → gm_H → Prop} {a0 a1 a2 a3 a4 a5 a6 a8 a9 a10 : Value} {x : Int32} : gm_W E d 32 241 [a0, a1, a2, a3, a4, a5, a6, .int x, a8, a9, a10] st h Q ↔ gm_W E d 32 243 [a0, a1, a2, a3, a4, a5, a6, .int x, a8, a9, a10] (.int x :: st) h Q := gw_loc m32 f32_241 rfl rfl
theorem f32_243 : gm_ft 32 243 = some (.iload 9, 2) := by decide +kernel
theorem r32_243 {E : Nat → Value} {d : Nat} {st : List Value} {h : gm_H} {Q : gm_R → gm_H → Prop} {a0 a1 a2 a3 a4 a5 a6 a7 a8 a10 : Value} {x : Int32} : gm_W E d 32 243 [a0, a1, a2, a3, a4, a5, a6, a7, a8, .int x, a10] st h Q ↔ gm_W E d 32 245 [a0, a1, a2, a3, a4, a5, a6, a7, a8, .int x, a10] (.int x :: st) h Q := gw_loc m32 f32_243 rfl rfl
theorem f32_245 : gm_ft 32 245 = some (.iastore, 1) := by decide +kernel
theorem r32_245 {E : Nat → Value} {d : Nat} {st : List Value} {h : gm_H} {Q : gm_R → gm_H → Prop} {lv : List Value} {a j : Nat} {x : Int32} (hk : gm_kd h a = 200) (hj : j < gm_ln h a) (hl : gm_ln h a < 2 ^ 31) : gm_W E d 32 245 lv (.int x :: .int (nI j) :: .ref a :: st) h Q ↔ gm_W E d 32 246 lv st (gm_sf h a j (.int x)) Q := gw_wr m32 f32_245 rfl rfl rfl rfl rfl (gs_st hk (by decide) hj hl)
theorem f32_246 : gm_ft 32 246 = some (.aload_n 0, 1) := by decide +kernel
theorem r32_246 {E : Nat → Value} {d : Nat} {st : List Value} {h : gm_H} {Q : gm_R → gm_H → Prop} {a1 a2 a3 a4 a5 a6 a7 a8 a9 a10 : Value} {x : Nat} : gm_W E d 32 246 [.ref x, a1, a2, a3, a4, a5, a6, a7, a8, a9, a10] st h Q ↔ gm_W E d 32 247 [.ref x, a1, a2, a3, a4, a5, a6, a7, a8, a9, a10] (.ref x :: st) h Q := gw_loc m32 f32_246 rfl rfl
theorem r32_246n {E : Nat → Value} {d : Nat} {st : List Value} {h : gm_H} {Q : gm_R → gm_H → Prop} {a1 a2 a3 a4 a5 a6 a7 a8 a9 a10 : Value}  : gm_W E d 32 246 [.null, a1, a2, a3, a4, a5, a6, a7, a8, a9, a10] st h Q ↔ gm_W E d 32 247 [.null, a1, a2, a3, a4, a5, a6, a7, a8, a9, a10] (.null :: st) h Q := gw_loc m32 f32_246 rfl rfl
theorem f32_247 : gm_ft 32 247 = some (.getfield 145, 3) := by decide +kernel
theorem r32_247 {E : Nat → Value} {d : Nat} {st : List Value} {h : gm_H} {Q : gm_R → gm_H → Prop} {lv : List Value} {a : Nat} (hk : gm_kd h a = 5) : gm_W E d 32 247 lv (.ref a :: st) h Q ↔ gm_W E d 32 250 lv (gm_fv h a 8 :: st) h Q := gw_rd m32 f32_247 rfl rfl rfl rfl (gs_get k5_145 hk (by decide))
theorem f32_250 : gm_ft 32 250 = some (.ifCond .ne 34, 3) := by decide +kernel
theorem r32_250 {E : Nat → Value} {d : Nat} {st : List Value} {h : gm_H} {Q : gm_R → gm_H → Prop} {lv : List Value} {x : Int32} : gm_W E d 32 250 lv (.int x :: st) h Q ↔ (if x = 0 then gm_W E d 32 253 lv st h Q else gm_W E d 32 284 lv st h Q) := (gw_br m32 f32_250 rfl rfl rfl rfl).trans gw_ifn
theorem f32_253 : gm_ft 32 253 = some (.iload 9, 2) := by decide +kernel
theorem r32_253 {E : Nat → Value} {d : Nat} {st : List Value} {h : gm_H} {Q : gm_R → gm_H → Prop} {a0 a1 a2 a3 a4 a5 a6 a7 a8 a10 : Value} {x : Int32} : gm_W E d 32 253 [a0, a1, a2, a3, a4, a5, a6, a7, a8, .int x, a10] st h Q ↔ gm_W E d 32 255 [a0, a1, a2, a3, a4, a5, a6, a7, a8, .int x, a10] (.int x :: st) h Q := gw_loc m32 f32_253 rfl rfl
theorem f32_255 : gm_ft 32 255 = some (.bipush 6, 2) := by decide +kernel
theorem r32_255 {E : Nat → Value} {d : Nat} {st : List Value} {h : gm_H} {Q : gm_R → gm_H → Prop} {lv : List Value} : gm_W E d 32 255 lv st h Q ↔ gm_W E d 32 257 lv (.int (6 : Int32) :: st) h Q := gw_pure m32 f32_255 rfl
theorem f32_257 : gm_ft 32 257 = some (.iand, 1) := by decide +kernel
theorem r32_257 {E : Nat → Value} {d : Nat} {st : List Value} {h : gm_H} {Q : gm_R → gm_H → Prop} {lv : List Value} {x y : Int32} : gm_W E d 32 257 lv (.int y :: .int x :: st) h Q ↔ gm_W E d 32 258 lv (.int (x &&& y) :: st) h Q := gw_pure m32 f32_257 rfl
theorem f32_258 : gm_ft 32 258 = some (.bipush 6, 2) := by decide +kernel
theorem r32_258 {E : Nat → Value} {d : Nat} {st : List Value} {h : gm_H} {Q : gm_R → gm_H → Prop} {lv : List Value} : gm_W E d 32 258 lv st h Q ↔ gm_W E d 32 260 lv (.int (6 : Int32) :: st) h Q := gw_pure m32 f32_258 rfl
theorem f32_260 : gm_ft 32 260 = some (.if_icmp .eq 18, 3) := by decide +kernel
theorem r32_260 {E : Nat → Value} {d : Nat} {st : List Value} {h : gm_H} {Q : gm_R → gm_H → Prop} {lv : List Value} {x y : Int32} : gm_W E d 32 260 lv (.int y :: .int x :: st) h Q ↔ (if x = y then gm_W E d 32 278 lv st h Q else gm_W E d 32 263 lv st h Q) := (gw_br m32 f32_260 rfl rfl rfl rfl).trans gw_if
theorem f32_263 : gm_ft 32 263 = some (.iload 9, 2) := by decide +kernel
theorem r32_263 {E : Nat → Value} {d : Nat} {st : List Value} {h : gm_H} {Q : gm_R → gm_H → Prop} {a0 a1 a2 a3 a4 a5 a6 a7 a8 a10 : Value} {x : Int32} : gm_W E d 32 263 [a0, a1, a2, a3, a4, a5, a6, a7, a8, .int x, a10] st h Q ↔ gm_W E d 32 265 [a0, a1, a2, a3, a4, a5, a6, a7, a8, .int x, a10] (.int x :: st) h Q := gw_loc m32 f32_263 rfl rfl
theorem f32_265 : gm_ft 32 265 = some (.bipush 16, 2) := by decide +kernel
theorem r32_265 {E : Nat → Value} {d : Nat} {st : List Value} {h : gm_H} {Q : gm_R → gm_H → Prop} {lv : List Value} : gm_W E d 32 265 lv st h Q ↔ gm_W E d 32 267 lv (.int (16 : Int32) :: st) h Q := gw_pure m32 f32_265 rfl
theorem f32_267 : gm_ft 32 267 = some (.iand, 1) := by decide +kernel
theorem r32_267 {E : Nat → Value} {d : Nat} {st : List Value} {h : gm_H} {Q : gm_R → gm_H → Prop} {lv : List Value} {x y : Int32} : gm_W E d 32 267 lv (.int y :: .int x :: st) h Q ↔ gm_W E d 32 268 lv (.int (x &&& y) :: st) h Q := gw_pure m32 f32_267 rfl
theorem f32_268 : gm_ft 32 268 = some (.ifCond .eq 16, 3) := by decide +kernel
theorem r32_268 {E : Nat → Value} {d : Nat} {st : List Value} {h : gm_H} {Q : gm_R → gm_H → Prop} {lv : List Value} {x : Int32} : gm_W E d 32 268 lv (.int x :: st) h Q ↔ (if x = 0 then gm_W E d 32 284 lv st h Q else gm_W E d 32 271 lv st h Q) := (gw_br m32 f32_268 rfl rfl rfl rfl).trans gw_if
theorem f32_271 : gm_ft 32 271 = some (.lload 5, 2) := by decide +kernel
theorem r32_271 {E : Nat → Value} {d : Nat} {st : List Value} {h : gm_H} {Q : gm_R → gm_H → Prop} {a0 a1 a2 a3 a4 a6 a7 a8 a9 a10 : Value} {x : Int64} : gm_W E d 32 271 [a0, a1, a2, a3, a4, .long x, a6, a7, a8, a9, a10] st h Q ↔ gm_W E d 32 273 [a0, a1, a2, a3, a4, .long x, a6, a7, a8, a9, a10] (.long x :: st) h Q := gw_loc m32 f32_271 rfl rfl
theorem f32_273 : gm_ft 32 273 = some (.lconst 0, 1) := by decide +kernel
theorem r32_273 {E : Nat → Value} {d : Nat} {st : List Value} {h : gm_H} {Q : gm_R → gm_H → Prop} {lv : List Value} : gm_W E d 32 273 lv st h Q ↔ gm_W E d 32 274 lv (.long 0 :: st) h Q := gw_pure m32 f32_273 rfl
theorem f32_274 : gm_ft 32 274 = some (.lcmp, 1) := by decide +kernel
theorem r32_274 {E : Nat → Value} {d : Nat} {st : List Value} {h : gm_H} {Q : gm_R → gm_H → Prop} {lv : List Value} {x y : Int64} : gm_W E d 32 274 lv (.long y :: .long x :: st) h Q ↔ gm_W E d 32 275 lv (.int (lg_cmp x y) :: st) h Q := gw_pure m32 f32_274 rfl
theorem f32_275 : gm_ft 32 275 = some (.ifCond .eq 9, 3) := by decide +kernel
theorem r32_275 {E : Nat → Value} {d : Nat} {st : List Value} {h : gm_H} {Q : gm_R → gm_H → Prop} {lv : List Value} {x : Int32} : gm_W E d 32 275 lv (.int x :: st) h Q ↔ (if x = 0 then gm_W E d 32 284 lv st h Q else gm_W E d 32 278 lv st h Q) := (gw_br m32 f32_275 rfl rfl rfl rfl).trans gw_if
theorem f32_278 : gm_ft 32 278 = some (.aload_n 0, 1) := by decide +kernel
theorem r32_278 {E : Nat → Value} {d : Nat} {st : List Value} {h : gm_H} {Q : gm_R → gm_H → Prop} {a1 a2 a3 a4 a5 a6 a7 a8 a9 a10 : Value} {x : Nat} : gm_W E d 32 278 [.ref x, a1, a2, a3, a4, a5, a6, a7, a8, a9, a10] st h Q ↔ gm_W E d 32 279 [.ref x, a1, a2, a3, a4, a5, a6, a7, a8, a9, a10] (.ref x :: st) h Q := gw_loc m32 f32_278 rfl rfl
theorem r32_278n {E : Nat → Value} {d : Nat} {st : List Value} {h : gm_H} {Q : gm_R → gm_H → Prop} {a1 a2 a3 a4 a5 a6 a7 a8 a9 a10 : Value}  : gm_W E d 32 278 [.null, a1, a2, a3, a4, a5, a6, a7, a8, a9, a10] st h Q ↔ gm_W E d 32 279 [.null, a1, a2, a3, a4, a5, a6, a7, a8, a9, a10] (.null :: st) h Q := gw_loc m32 f32_278 rfl rfl
theorem f32_279 : gm_ft 32 279 = some (.bipush (-5), 2) := by decide +kernel
theorem r32_279 {E : Nat → Value} {d : Nat} {st : List Value} {h : gm_H} {Q : gm_R → gm_H → Prop} {lv : List Value} : gm_W E d 32 279 lv st h Q ↔ gm_W E d 32 281 lv (.int (-5 : Int32) :: st) h Q := gw_pure m32 f32_279 rfl
theorem f32_281 : gm_ft 32 281 = some (.invokevirtual 151, 3) := by decide +kernel
theorem c32_281 {E : Nat → Value} {d : Nat} {st : List Value} {h : gm_H} {Q : gm_R → gm_H → Prop} {lv : List Value} {b0 : Int32} {a : Nat} {Qc : gm_R → gm_H → Prop} (hs : (st.map fun v => v.category).sum ≤ 8) (hr : gm_kd h a = 5) (hd : 1 ≤ d) (hc : gm_Ca E (d - 1) 10 [.ref a, .int b0] h Qc) (kn : ∀ (v9 : Option Value) (h9 : gm_H), Qc (.inl v9) h9 → gm_W E d 32 284 lv (v9.toList ++ st) h9 Q) (kx : ∀ (x9 : Nat) (h9 : gm_H), Qc (.inr x9) h9 → Q (.inr x9) h9) : gm_W E d 32 281 lv (.int b0 :: .ref a :: st) h Q := gw_call (gn_call m32 f32_281 rfl rfl rfl rfl rfl rfl rfl (gs_virt (bs := [.int b0]) (w := 844) (L := 2) rfl rfl rfl rfl hs (by simp [gm_en1]) hr (by decide)) (by decide)) m32 rfl rfl hd hc kn kx
theorem f32_284 : gm_ft 32 284 = some (.aload_n 0, 1) := by decide +kernel
theorem r32_284 {E : Nat → Value} {d : Nat} {st : List Value} {h : gm_H} {Q : gm_R → gm_H → Prop} {a1 a2 a3 a4 a5 a6 a7 a8 a9 a10 : Value} {x : Nat} : gm_W E d 32 284 [.ref x, a1, a2, a3, a4, a5, a6, a7, a8, a9, a10] st h Q ↔ gm_W E d 32 285 [.ref x, a1, a2, a3, a4, a5, a6, a7, a8, a9, a10] (.ref x :: st) h Q := gw_loc m32 f32_284 rfl rfl
theorem r32_284n {E : Nat → Value} {d : Nat} {st : List Value} {h : gm_H} {Q : gm_R → gm_H → Prop} {a1 a2 a3 a4 a5 a6 a7 a8 a9 a10 : Value}  : gm_W E d 32 284 [.null, a1, a2, a3, a4, a5, a6, a7, a8, a9, a10] st h Q ↔ gm_W E d 32 285 [.null, a1, a2, a3, a4, a5, a6, a7, a8, a9, a10] (.null :: st) h Q := gw_loc m32 f32_284 rfl rfl
theorem f32_285 : gm_ft 32 285 = some (.iconst 2, 1) := by decide +kernel
theorem r32_285 {E : Nat → Value} {d : Nat} {st : List Value} {h : gm_H} {Q : gm_R → gm_H → Prop} {lv : List Value} : gm_W E d 32 285 lv st h Q ↔ gm_W E d 32 286 lv (.int (2 : Int32) :: st) h Q := gw_pure m32 f32_285 rfl
theorem f32_286 : gm_ft 32 286 = some (.invokevirtual 159, 3) := by decide +kernel
theorem c32_286 {E : Nat → Value} {d : Nat} {st : List Value} {h : gm_H} {Q : gm_R → gm_H → Prop} {lv : List Value} {b0 : Int32} {a : Nat} {Qc : gm_R → gm_H → Prop} (hs : (st.map fun v => v.category).sum ≤ 8) (hr : gm_kd h a = 5) (hd : 1 ≤ d) (hc : gm_Ca E (d - 1) 12 [.ref a, .int b0] h Qc) (kn : ∀ (v9 : Option Value) (h9 : gm_H), Qc (.inl v9) h9 → gm_W E d 32 289 lv (v9.toList ++ st) h9 Q) (kx : ∀ (x9 : Nat) (h9 : gm_H), Qc (.inr x9) h9 → Q (.inr x9) h9) : gm_W E d 32 286 lv (.int b0 :: .ref a :: st) h Q := gw_call (gn_call m32 f32_286 rfl rfl rfl rfl rfl rfl rfl (gs_virt (bs := [.int b0]) (w := 880) (L := 5) rfl rfl rfl rfl hs (by simp [gm_en1]) hr (by decide)) (by decide)) m32 rfl rfl hd hc kn kx
theorem f32_289 : gm_ft 32 289 = some (.l2i, 1) := by decide +kernel
theorem r32_289 {E : Nat → Value} {d : Nat} {st : List Value} {h : gm_H} {Q : gm_R → gm_H → Prop} {lv : List Value} {x : Int64} : gm_W E d 32 289 lv (.long x :: st) h Q ↔ gm_W E d 32 290 lv (.int (x.toInt32) :: st) h Q := gw_pure m32 f32_289 rfl
theorem f32_290 : gm_ft 32 290 = some (.istore 10, 2) := by decide +kernel
theorem r32_290 {E : Nat → Value} {d : Nat} {st : List Value} {h : gm_H} {Q : gm_R → gm_H → Prop} {a0 a1 a2 a3 a4 a5 a6 a7 a8 a9 a10 : Value} {x : Int32} : gm_W E d 32 290 [a0, a1, a2, a3, a4, a5, a6, a7, a8, a9, a10] (.int x :: st) h Q ↔ gm_W E d 32 292 [a0, a1, a2, a3, a4, a5, a6, a7, a8, gm_k a9, .int x] st h Q := gw_loc m32 f32_290 rfl rfl
theorem f32_292 : gm_ft 32 292 = some (.aload_n 0, 1) := by decide +kernel
theorem r32_292 {E : Nat → Value} {d : Nat} {st : List Value} {h : gm_H} {Q : gm_R → gm_H → Prop} {a1 a2 a3 a4 a5 a6 a7 a8 a9 a10 : Value} {x : Nat} : gm_W E d 32 292 [.ref x, a1, a2, a3, a4, a5, a6, a7, a8, a9, a10] st h Q ↔ gm_W E d 32 293 [.ref x, a1, a2, a3, a4, a5, a6, a7, a8, a9, a10] (.ref x :: st) h Q := gw_loc m32 f32_292 rfl rfl
theorem r32_292n {E : Nat → Value} {d : Nat} {st : List Value} {h : gm_H} {Q : gm_R → gm_H → Prop} {a1 a2 a3 a4 a5 a6 a7 a8 a9 a10 : Value}  : gm_W E d 32 292 [.null, a1, a2, a3, a4, a5, a6, a7, a8, a9, a10] st h Q ↔ gm_W E d 32 293 [.null, a1, a2, a3, a4, a5, a6, a7, a8, a9, a10] (.null :: st) h Q := gw_loc m32 f32_292 rfl rfl
theorem f32_293 : gm_ft 32 293 = some (.getfield 145, 3) := by decide +kernel
theorem r32_293 {E : Nat → Value} {d : Nat} {st : List Value} {h : gm_H} {Q : gm_R → gm_H → Prop} {lv : List Value} {a : Nat} (hk : gm_kd h a = 5) : gm_W E d 32 293 lv (.ref a :: st) h Q ↔ gm_W E d 32 296 lv (gm_fv h a 8 :: st) h Q := gw_rd m32 f32_293 rfl rfl rfl rfl (gs_get k5_145 hk (by decide))
theorem f32_296 : gm_ft 32 296 = some (.ifCond .ne 16, 3) := by decide +kernel
theorem r32_296 {E : Nat → Value} {d : Nat} {st : List Value} {h : gm_H} {Q : gm_R → gm_H → Prop} {lv : List Value} {x : Int32} : gm_W E d 32 296 lv (.int x :: st) h Q ↔ (if x = 0 then gm_W E d 32 299 lv st h Q else gm_W E d 32 312 lv st h Q) := (gw_br m32 f32_296 rfl rfl rfl rfl).trans gw_ifn
theorem f32_299 : gm_ft 32 299 = some (.iload 10, 2) := by decide +kernel
theorem r32_299 {E : Nat → Value} {d : Nat} {st : List Value} {h : gm_H} {Q : gm_R → gm_H → Prop} {a0 a1 a2 a3 a4 a5 a6 a7 a8 a9 : Value} {x : Int32} : gm_W E d 32 299 [a0, a1, a2, a3, a4, a5, a6, a7, a8, a9, .int x] st h Q ↔ gm_W E d 32 301 [a0, a1, a2, a3, a4, a5, a6, a7, a8, a9, .int x] (.int x :: st) h Q := gw_loc m32 f32_299 rfl rfl
theorem f32_301 : gm_ft 32 301 = some (.bipush 8, 2) := by decide +kernel
theorem r32_301 {E : Nat → Value} {d : Nat} {st : List Value} {h : gm_H} {Q : gm_R → gm_H → Prop} {lv : List Value} : gm_W E d 32 301 lv st h Q ↔ gm_W E d 32 303 lv (.int (8 : Int32) :: st) h Q := gw_pure m32 f32_301 rfl
theorem f32_303 : gm_ft 32 303 = some (.if_icmp .le 9, 3) := by decide +kernel
theorem r32_303 {E : Nat → Value} {d : Nat} {st : List Value} {h : gm_H} {Q : gm_R → gm_H → Prop} {lv : List Value} {x y : Int32} : gm_W E d 32 303 lv (.int y :: .int x :: st) h Q ↔ (if x ≤ y then gm_W E d 32 312 lv st h Q else gm_W E d 32 306 lv st h Q) := (gw_br m32 f32_303 rfl rfl rfl rfl).trans gw_if
theorem f32_306 : gm_ft 32 306 = some (.aload_n 0, 1) := by decide +kernel
theorem r32_306 {E : Nat → Value} {d : Nat} {st : List Value} {h : gm_H} {Q : gm_R → gm_H → Prop} {a1 a2 a3 a4 a5 a6 a7 a8 a9 a10 : Value} {x : Nat} : gm_W E d 32 306 [.ref x, a1, a2, a3, a4, a5, a6, a7, a8, a9, a10] st h Q ↔ gm_W E d 32 307 [.ref x, a1, a2, a3, a4, a5, a6, a7, a8, a9, a10] (.ref x :: st) h Q := gw_loc m32 f32_306 rfl rfl
theorem r32_306n {E : Nat → Value} {d : Nat} {st : List Value} {h : gm_H} {Q : gm_R → gm_H → Prop} {a1 a2 a3 a4 a5 a6 a7 a8 a9 a10 : Value}  : gm_W E d 32 306 [.null, a1, a2, a3, a4, a5, a6, a7, a8, a9, a10] st h Q ↔ gm_W E d 32 307 [.null, a1, a2, a3, a4, a5, a6, a7, a8, a9, a10] (.null :: st) h Q := gw_loc m32 f32_306 rfl rfl
theorem f32_307 : gm_ft 32 307 = some (.bipush (-5), 2) := by decide +kernel
theorem r32_307 {E : Nat → Value} {d : Nat} {st : List Value} {h : gm_H} {Q : gm_R → gm_H → Prop} {lv : List Value} : gm_W E d 32 307 lv st h Q ↔ gm_W E d 32 309 lv (.int (-5 : Int32) :: st) h Q := gw_pure m32 f32_307 rfl
theorem f32_309 : gm_ft 32 309 = some (.invokevirtual 151, 3) := by decide +kernel
theorem c32_309 {E : Nat → Value} {d : Nat} {st : List Value} {h : gm_H} {Q : gm_R → gm_H → Prop} {lv : List Value} {b0 : Int32} {a : Nat} {Qc : gm_R → gm_H → Prop} (hs : (st.map fun v => v.category).sum ≤ 8) (hr : gm_kd h a = 5) (hd : 1 ≤ d) (hc : gm_Ca E (d - 1) 10 [.ref a, .int b0] h Qc) (kn : ∀ (v9 : Option Value) (h9 : gm_H), Qc (.inl v9) h9 → gm_W E d 32 312 lv (v9.toList ++ st) h9 Q) (kx : ∀ (x9 : Nat) (h9 : gm_H), Qc (.inr x9) h9 → Q (.inr x9) h9) : gm_W E d 32 309 lv (.int b0 :: .ref a :: st) h Q := gw_call (gn_call m32 f32_309 rfl rfl rfl rfl rfl rfl rfl (gs_virt (bs := [.int b0]) (w := 844) (L := 2) rfl rfl rfl rfl hs (by simp [gm_en1]) hr (by decide)) (by decide)) m32 rfl rfl hd hc kn kx
theorem f32_312 : gm_ft 32 312 = some (.aload_n 0, 1) := by decide +kernel
theorem r32_312 {E : Nat → Value} {d : Nat} {st : List Value} {h : gm_H} {Q : gm_R → gm_H → Prop} {a1 a2 a3 a4 a5 a6 a7 a8 a9 a10 : Value} {x : Nat} : gm_W E d 32 312 [.ref x, a1, a2, a3, a4, a5, a6, a7, a8, a9, a10] st h Q ↔ gm_W E d 32 313 [.ref x, a1, a2, a3, a4, a5, a6, a7, a8, a9, a10] (.ref x :: st) h Q := gw_loc m32 f32_312 rfl rfl
theorem r32_312n {E : Nat → Value} {d : Nat} {st : List Value} {h : gm_H} {Q : gm_R → gm_H → Prop} {a1 a2 a3 a4 a5 a6 a7 a8 a9 a10 : Value}  : gm_W E d 32 312 [.null, a1, a2, a3, a4, a5, a6, a7, a8, a9, a10] st h Q ↔ gm_W E d 32 313 [.null, a1, a2, a3, a4, a5, a6, a7, a8, a9, a10] (.null :: st) h Q := gw_loc m32 f32_312 rfl rfl
theorem f32_313 : gm_ft 32 313 = some (.getfield 81, 3) := by decide +kernel
theorem r32_313 {E : Nat → Value} {d : Nat} {st : List Value} {h : gm_H} {Q : gm_R → gm_H → Prop} {lv : List Value} {a : Nat} (hk : gm_kd h a = 5) : gm_W E d 32 313 lv (.ref a :: st) h Q ↔ gm_W E d 32 316 lv (gm_fv h a 35 :: st) h Q := gw_rd m32 f32_313 rfl rfl rfl rfl (gs_get k5_81 hk (by decide))
theorem f32_316 : gm_ft 32 316 = some (.iload 7, 2) := by decide +kernel
theorem r32_316 {E : Nat → Value} {d : Nat} {st : List Value} {h : gm_H} {Q : gm_R → gm_H → Prop} {a0 a1 a2 a3 a4 a5 a6 a8 a9 a10 : Value} {x : Int32} : gm_W E d 32 316 [a0, a1, a2, a3, a4, a5, a6, .int x, a8, a9, a10] st h Q ↔ gm_W E d 32 318 [a0, a1, a2, a3, a4, a5, a6, .int x, a8, a9, a10] (.int x :: st) h Q := gw_loc m32 f32_316 rfl rfl
theorem f32_318 : gm_ft 32 318 = some (.iload 10, 2) := by decide +kernel
theorem r32_318 {E : Nat → Value} {d : Nat} {st : List Value} {h : gm_H} {Q : gm_R → gm_H → Prop} {a0 a1 a2 a3 a4 a5 a6 a7 a8 a9 : Value} {x : Int32} : gm_W E d 32 318 [a0, a1, a2, a3, a4, a5, a6, a7, a8, a9, .int x] st h Q ↔ gm_W E d 32 320 [a0, a1, a2, a3, a4, a5, a6, a7, a8, a9, .int x] (.int x :: st) h Q := gw_loc m32 f32_318 rfl rfl
theorem f32_320 : gm_ft 32 320 = some (.iastore, 1) := by decide +kernel
theorem r32_320 {E : Nat → Value} {d : Nat} {st : List Value} {h : gm_H} {Q : gm_R → gm_H → Prop} {lv : List Value} {a j : Nat} {x : Int32} (hk : gm_kd h a = 200) (hj : j < gm_ln h a) (hl : gm_ln h a < 2 ^ 31) : gm_W E d 32 320 lv (.int x :: .int (nI j) :: .ref a :: st) h Q ↔ gm_W E d 32 321 lv st (gm_sf h a j (.int x)) Q := gw_wr m32 f32_320 rfl rfl rfl rfl rfl (gs_st hk (by decide) hj hl)
theorem f32_321 : gm_ft 32 321 = some (.aload_n 0, 1) := by decide +kernel
theorem r32_321 {E : Nat → Value} {d : Nat} {st : List Value} {h : gm_H} {Q : gm_R → gm_H → Prop} {a1 a2 a3 a4 a5 a6 a7 a8 a9 a10 : Value} {x : Nat} : gm_W E d 32 321 [.ref x, a1, a2, a3, a4, a5, a6, a7, a8, a9, a10] st h Q ↔ gm_W E d 32 322 [.ref x, a1, a2, a3, a4, a5, a6, a7, a8, a9, a10] (.ref x :: st) h Q := gw_loc m32 f32_321 rfl rfl
theorem r32_321n {E : Nat → Value} {d : Nat} {st : List Value} {h : gm_H} {Q : gm_R → gm_H → Prop} {a1 a2 a3 a4 a5 a6 a7 a8 a9 a10 : Value}  : gm_W E d 32 321 [.null, a1, a2, a3, a4, a5, a6, a7, a8, a9, a10] st h Q ↔ gm_W E d 32 322 [.null, a1, a2, a3, a4, a5, a6, a7, a8, a9, a10] (.null :: st) h Q := gw_loc m32 f32_321 rfl rfl
theorem f32_322 : gm_ft 32 322 = some (.getfield 96, 3) := by decide +kernel
theorem r32_322 {E : Nat → Value} {d : Nat} {st : List Value} {h : gm_H} {Q : gm_R → gm_H → Prop} {lv : List Value} {a : Nat} (hk : gm_kd h a = 5) : gm_W E d 32 322 lv (.ref a :: st) h Q ↔ gm_W E d 32 325 lv (gm_fv h a 41 :: st) h Q := gw_rd m32 f32_322 rfl rfl rfl rfl (gs_get k5_96 hk (by decide))
theorem f32_325 : gm_ft 32 325 = some (.iload_n 1, 1) := by decide +kernel
theorem r32_325 {E : Nat → Value} {d : Nat} {st : List Value} {h : gm_H} {Q : gm_R → gm_H → Prop} {a0 a2 a3 a4 a5 a6 a7 a8 a9 a10 : Value} {x : Int32} : gm_W E d 32 325 [a0, .int x, a2, a3, a4, a5, a6, a7, a8, a9, a10] st h Q ↔ gm_W E d 32 326 [a0, .int x, a2, a3, a4, a5, a6, a7, a8, a9, a10] (.int x :: st) h Q := gw_loc m32 f32_325 rfl rfl
theorem f32_326 : gm_ft 32 326 = some (.iconst 1, 1) := by decide +kernel
theorem r32_326 {E : Nat → Value} {d : Nat} {st : List Value} {h : gm_H} {Q : gm_R → gm_H → Prop} {lv : List Value} : gm_W E d 32 326 lv st h Q ↔ gm_W E d 32 327 lv (.int (1 : Int32) :: st) h Q := gw_pure m32 f32_326 rfl
theorem f32_327 : gm_ft 32 327 = some (.iastore, 1) := by decide +kernel
theorem r32_327 {E : Nat → Value} {d : Nat} {st : List Value} {h : gm_H} {Q : gm_R → gm_H → Prop} {lv : List Value} {a j : Nat} {x : Int32} (hk : gm_kd h a = 200) (hj : j < gm_ln h a) (hl : gm_ln h a < 2 ^ 31) : gm_W E d 32 327 lv (.int x :: .int (nI j) :: .ref a :: st) h Q ↔ gm_W E d 32 328 lv st (gm_sf h a j (.int x)) Q := gw_wr m32 f32_327 rfl rfl rfl rfl rfl (gs_st hk (by decide) hj hl)
theorem f32_328 : gm_ft 32 328 = some (.return_, 1) := by decide +kernel
theorem r32_328 {E : Nat → Value} {d : Nat} {h : gm_H} {Q : gm_R → gm_H → Prop} {lv : List Value} : gm_W E d 32 328 lv [] h Q ↔ Q (.inl none) h := gw_ret m32 f32_328 rfl rfl rfl rfl rfl rfl rfl rfl rfl
/-! GraphReaderModel.typeOf(I)I -/
theorem m33 : gm_mt[33]? = some (⟨"GraphReaderModel", "typeOf", "(I)I"⟩, prog_7_method_32_code, 2, (some .int), [], 5, 2) := rfl
theorem f33_0 : gm_ft 33 0 = some (.iload_n 1, 1) := by decide +kernel
theorem r33_0 {E : Nat → Value} {d : Nat} {st : List Value} {h : gm_H} {Q : gm_R → gm_H → Prop} {a0 : Value} {x : Int32} : gm_W E d 33 0 [a0, .int x] st h Q ↔ gm_W E d 33 1 [a0, .int x] (.int x :: st) h Q := gw_loc m33 f33_0 rfl rfl
theorem f33_1 : gm_ft 33 1 = some (.bipush 66, 2) := by decide +kernel
theorem r33_1 {E : Nat → Value} {d : Nat} {st : List Value} {h : gm_H} {Q : gm_R → gm_H → Prop} {lv : List Value} : gm_W E d 33 1 lv st h Q ↔ gm_W E d 33 3 lv (.int (66 : Int32) :: st) h Q := gw_pure m33 f33_1 rfl
theorem f33_3 : gm_ft 33 3 = some (.if_icmp .ne 7, 3) := by decide +kernel
theorem r33_3 {E : Nat → Value} {d : Nat} {st : List Value} {h : gm_H} {Q : gm_R → gm_H → Prop} {lv : List Value} {x y : Int32} : gm_W E d 33 3 lv (.int y :: .int x :: st) h Q ↔ (if x = y then gm_W E d 33 6 lv st h Q else gm_W E d 33 10 lv st h Q) := (gw_br m33 f33_3 rfl rfl rfl rfl).trans gw_ifn
theorem f33_6 : gm_ft 33 6 = some (.iconst 0, 1) := by decide +kernel
theorem r33_6 {E : Nat → Value} {d : Nat} {st : List Value} {h : gm_H} {Q : gm_R → gm_H → Prop} {lv : List Value} : gm_W E d 33 6 lv st h Q ↔ gm_W E d 33 7 lv (.int (0 : Int32) :: st) h Q := gw_pure m33 f33_6 rfl
theorem f33_7 : gm_ft 33 7 = some (.goto 76, 3) := by decide +kernel
theorem r33_7 {E : Nat → Value} {d : Nat} {st : List Value} {h : gm_H} {Q : gm_R → gm_H → Prop} {lv : List Value} : gm_W E d 33 7 lv st h Q ↔ gm_W E d 33 83 lv st h Q := gw_brT m33 f33_7 rfl rfl rfl rfl
theorem f33_10 : gm_ft 33 10 = some (.iload_n 1, 1) := by decide +kernel
theorem r33_10 {E : Nat → Value} {d : Nat} {st : List Value} {h : gm_H} {Q : gm_R → gm_H → Prop} {a0 : Value} {x : Int32} : gm_W E d 33 10 [a0, .int x] st h Q ↔ gm_W E d 33 11 [a0, .int x] (.int x :: st) h Q := gw_loc m33 f33_10 rfl rfl
theorem f33_11 : gm_ft 33 11 = some (.bipush 67, 2) := by decide +kernel
theorem r33_11 {E : Nat → Value} {d : Nat} {st : List Value} {h : gm_H} {Q : gm_R → gm_H → Prop} {lv : List Value} : gm_W E d 33 11 lv st h Q ↔ gm_W E d 33 13 lv (.int (67 : Int32) :: st) h Q := gw_pure m33 f33_11 rfl
theorem f33_13 : gm_ft 33 13 = some (.if_icmp .ne 7, 3) := by decide +kernel
theorem r33_13 {E : Nat → Value} {d : Nat} {st : List Value} {h : gm_H} {Q : gm_R → gm_H → Prop} {lv : List Value} {x y : Int32} : gm_W E d 33 13 lv (.int y :: .int x :: st) h Q ↔ (if x = y then gm_W E d 33 16 lv st h Q else gm_W E d 33 20 lv st h Q) := (gw_br m33 f33_13 rfl rfl rfl rfl).trans gw_ifn
theorem f33_16 : gm_ft 33 16 = some (.iconst 1, 1) := by decide +kernel
theorem r33_16 {E : Nat → Value} {d : Nat} {st : List Value} {h : gm_H} {Q : gm_R → gm_H → Prop} {lv : List Value} : gm_W E d 33 16 lv st h Q ↔ gm_W E d 33 17 lv (.int (1 : Int32) :: st) h Q := gw_pure m33 f33_16 rfl
theorem f33_17 : gm_ft 33 17 = some (.goto 66, 3) := by decide +kernel
theorem r33_17 {E : Nat → Value} {d : Nat} {st : List Value} {h : gm_H} {Q : gm_R → gm_H → Prop} {lv : List Value} : gm_W E d 33 17 lv st h Q ↔ gm_W E d 33 83 lv st h Q := gw_brT m33 f33_17 rfl rfl rfl rfl
theorem f33_20 : gm_ft 33 20 = some (.iload_n 1, 1) := by decide +kernel
theorem r33_20 {E : Nat → Value} {d : Nat} {st : List Value} {h : gm_H} {Q : gm_R → gm_H → Prop} {a0 : Value} {x : Int32} : gm_W E d 33 20 [a0, .int x] st h Q ↔ gm_W E d 33 21 [a0, .int x] (.int x :: st) h Q := gw_loc m33 f33_20 rfl rfl
theorem f33_21 : gm_ft 33 21 = some (.bipush 73, 2) := by decide +kernel
theorem r33_21 {E : Nat → Value} {d : Nat} {st : List Value} {h : gm_H} {Q : gm_R → gm_H → Prop} {lv : List Value} : gm_W E d 33 21 lv st h Q ↔ gm_W E d 33 23 lv (.int (73 : Int32) :: st) h Q := gw_pure m33 f33_21 rfl
theorem f33_23 : gm_ft 33 23 = some (.if_icmp .ne 7, 3) := by decide +kernel
theorem r33_23 {E : Nat → Value} {d : Nat} {st : List Value} {h : gm_H} {Q : gm_R → gm_H → Prop} {lv : List Value} {x y : Int32} : gm_W E d 33 23 lv (.int y :: .int x :: st) h Q ↔ (if x = y then gm_W E d 33 26 lv st h Q else gm_W E d 33 30 lv st h Q) := (gw_br m33 f33_23 rfl rfl rfl rfl).trans gw_ifn
theorem f33_26 : gm_ft 33 26 = some (.iconst 2, 1) := by decide +kernel
theorem r33_26 {E : Nat → Value} {d : Nat} {st : List Value} {h : gm_H} {Q : gm_R → gm_H → Prop} {lv : List Value} : gm_W E d 33 26 lv st h Q ↔ gm_W E d 33 27 lv (.int (2 : Int32) :: st) h Q := gw_pure m33 f33_26 rfl
theorem f33_27 : gm_ft 33 27 = some (.goto 56, 3) := by decide +kernel
theorem r33_27 {E : Nat → Value} {d : Nat} {st : List Value} {h : gm_H} {Q : gm_R → gm_H → Prop} {lv : List Value} : gm_W E d 33 27 lv st h Q ↔ gm_W E d 33 83 lv st h Q := gw_brT m33 f33_27 rfl rfl rfl rfl
theorem f33_30 : gm_ft 33 30 = some (.iload_n 1, 1) := by decide +kernel
theorem r33_30 {E : Nat → Value} {d : Nat} {st : List Value} {h : gm_H} {Q : gm_R → gm_H → Prop} {a0 : Value} {x : Int32} : gm_W E d 33 30 [a0, .int x] st h Q ↔ gm_W E d 33 31 [a0, .int x] (.int x :: st) h Q := gw_loc m33 f33_30 rfl rfl
theorem f33_31 : gm_ft 33 31 = some (.bipush 74, 2) := by decide +kernel
theorem r33_31 {E : Nat → Value} {d : Nat} {st : List Value} {h : gm_H} {Q : gm_R → gm_H → Prop} {lv : List Value} : gm_W E d 33 31 lv st h Q ↔ gm_W E d 33 33 lv (.int (74 : Int32) :: st) h Q := gw_pure m33 f33_31 rfl
theorem f33_33 : gm_ft 33 33 = some (.if_icmp .ne 7, 3) := by decide +kernel
theorem r33_33 {E : Nat → Value} {d : Nat} {st : List Value} {h : gm_H} {Q : gm_R → gm_H → Prop} {lv : List Value} {x y : Int32} : gm_W E d 33 33 lv (.int y :: .int x :: st) h Q ↔ (if x = y then gm_W E d 33 36 lv st h Q else gm_W E d 33 40 lv st h Q) := (gw_br m33 f33_33 rfl rfl rfl rfl).trans gw_ifn
theorem f33_36 : gm_ft 33 36 = some (.iconst 3, 1) := by decide +kernel
theorem r33_36 {E : Nat → Value} {d : Nat} {st : List Value} {h : gm_H} {Q : gm_R → gm_H → Prop} {lv : List Value} : gm_W E d 33 36 lv st h Q ↔ gm_W E d 33 37 lv (.int (3 : Int32) :: st) h Q := gw_pure m33 f33_36 rfl
theorem f33_37 : gm_ft 33 37 = some (.goto 46, 3) := by decide +kernel
theorem r33_37 {E : Nat → Value} {d : Nat} {st : List Value} {h : gm_H} {Q : gm_R → gm_H → Prop} {lv : List Value} : gm_W E d 33 37 lv st h Q ↔ gm_W E d 33 83 lv st h Q := gw_brT m33 f33_37 rfl rfl rfl rfl
theorem f33_40 : gm_ft 33 40 = some (.iload_n 1, 1) := by decide +kernel
theorem r33_40 {E : Nat → Value} {d : Nat} {st : List Value} {h : gm_H} {Q : gm_R → gm_H → Prop} {a0 : Value} {x : Int32} : gm_W E d 33 40 [a0, .int x] st h Q ↔ gm_W E d 33 41 [a0, .int x] (.int x :: st) h Q := gw_loc m33 f33_40 rfl rfl
theorem f33_41 : gm_ft 33 41 = some (.bipush 83, 2) := by decide +kernel
theorem r33_41 {E : Nat → Value} {d : Nat} {st : List Value} {h : gm_H} {Q : gm_R → gm_H → Prop} {lv : List Value} : gm_W E d 33 41 lv st h Q ↔ gm_W E d 33 43 lv (.int (83 : Int32) :: st) h Q := gw_pure m33 f33_41 rfl
theorem f33_43 : gm_ft 33 43 = some (.if_icmp .ne 7, 3) := by decide +kernel
theorem r33_43 {E : Nat → Value} {d : Nat} {st : List Value} {h : gm_H} {Q : gm_R → gm_H → Prop} {lv : List Value} {x y : Int32} : gm_W E d 33 43 lv (.int y :: .int x :: st) h Q ↔ (if x = y then gm_W E d 33 46 lv st h Q else gm_W E d 33 50 lv st h Q) := (gw_br m33 f33_43 rfl rfl rfl rfl).trans gw_ifn
theorem f33_46 : gm_ft 33 46 = some (.iconst 4, 1) := by decide +kernel
theorem r33_46 {E : Nat → Value} {d : Nat} {st : List Value} {h : gm_H} {Q : gm_R → gm_H → Prop} {lv : List Value} : gm_W E d 33 46 lv st h Q ↔ gm_W E d 33 47 lv (.int (4 : Int32) :: st) h Q := gw_pure m33 f33_46 rfl
theorem f33_47 : gm_ft 33 47 = some (.goto 36, 3) := by decide +kernel
theorem r33_47 {E : Nat → Value} {d : Nat} {st : List Value} {h : gm_H} {Q : gm_R → gm_H → Prop} {lv : List Value} : gm_W E d 33 47 lv st h Q ↔ gm_W E d 33 83 lv st h Q := gw_brT m33 f33_47 rfl rfl rfl rfl
theorem f33_50 : gm_ft 33 50 = some (.iload_n 1, 1) := by decide +kernel
theorem r33_50 {E : Nat → Value} {d : Nat} {st : List Value} {h : gm_H} {Q : gm_R → gm_H → Prop} {a0 : Value} {x : Int32} : gm_W E d 33 50 [a0, .int x] st h Q ↔ gm_W E d 33 51 [a0, .int x] (.int x :: st) h Q := gw_loc m33 f33_50 rfl rfl
theorem f33_51 : gm_ft 33 51 = some (.bipush 90, 2) := by decide +kernel
theorem r33_51 {E : Nat → Value} {d : Nat} {st : List Value} {h : gm_H} {Q : gm_R → gm_H → Prop} {lv : List Value} : gm_W E d 33 51 lv st h Q ↔ gm_W E d 33 53 lv (.int (90 : Int32) :: st) h Q := gw_pure m33 f33_51 rfl
theorem f33_53 : gm_ft 33 53 = some (.if_icmp .ne 7, 3) := by decide +kernel
theorem r33_53 {E : Nat → Value} {d : Nat} {st : List Value} {h : gm_H} {Q : gm_R → gm_H → Prop} {lv : List Value} {x y : Int32} : gm_W E d 33 53 lv (.int y :: .int x :: st) h Q ↔ (if x = y then gm_W E d 33 56 lv st h Q else gm_W E d 33 60 lv st h Q) := (gw_br m33 f33_53 rfl rfl rfl rfl).trans gw_ifn
theorem f33_56 : gm_ft 33 56 = some (.iconst 5, 1) := by decide +kernel
theorem r33_56 {E : Nat → Value} {d : Nat} {st : List Value} {h : gm_H} {Q : gm_R → gm_H → Prop} {lv : List Value} : gm_W E d 33 56 lv st h Q ↔ gm_W E d 33 57 lv (.int (5 : Int32) :: st) h Q := gw_pure m33 f33_56 rfl
theorem f33_57 : gm_ft 33 57 = some (.goto 26, 3) := by decide +kernel
theorem r33_57 {E : Nat → Value} {d : Nat} {st : List Value} {h : gm_H} {Q : gm_R → gm_H → Prop} {lv : List Value} : gm_W E d 33 57 lv st h Q ↔ gm_W E d 33 83 lv st h Q := gw_brT m33 f33_57 rfl rfl rfl rfl
theorem f33_60 : gm_ft 33 60 = some (.iload_n 1, 1) := by decide +kernel
theorem r33_60 {E : Nat → Value} {d : Nat} {st : List Value} {h : gm_H} {Q : gm_R → gm_H → Prop} {a0 : Value} {x : Int32} : gm_W E d 33 60 [a0, .int x] st h Q ↔ gm_W E d 33 61 [a0, .int x] (.int x :: st) h Q := gw_loc m33 f33_60 rfl rfl
theorem f33_61 : gm_ft 33 61 = some (.bipush 91, 2) := by decide +kernel
theorem r33_61 {E : Nat → Value} {d : Nat} {st : List Value} {h : gm_H} {Q : gm_R → gm_H → Prop} {lv : List Value} : gm_W E d 33 61 lv st h Q ↔ gm_W E d 33 63 lv (.int (91 : Int32) :: st) h Q := gw_pure m33 f33_61 rfl
theorem f33_63 : gm_ft 33 63 = some (.if_icmp .ne 8, 3) := by decide +kernel
theorem r33_63 {E : Nat → Value} {d : Nat} {st : List Value} {h : gm_H} {Q : gm_R → gm_H → Prop} {lv : List Value} {x y : Int32} : gm_W E d 33 63 lv (.int y :: .int x :: st) h Q ↔ (if x = y then gm_W E d 33 66 lv st h Q else gm_W E d 33 71 lv st h Q) := (gw_br m33 f33_63 rfl rfl rfl rfl).trans gw_ifn
theorem f33_66 : gm_ft 33 66 = some (.bipush 6, 2) := by decide +kernel
theorem r33_66 {E : Nat → Value} {d : Nat} {st : List Value} {h : gm_H} {Q : gm_R → gm_H → Prop} {lv : List Value} : gm_W E d 33 66 lv st h Q ↔ gm_W E d 33 68 lv (.int (6 : Int32) :: st) h Q := gw_pure m33 f33_66 rfl
theorem f33_68 : gm_ft 33 68 = some (.goto 15, 3) := by decide +kernel
theorem r33_68 {E : Nat → Value} {d : Nat} {st : List Value} {h : gm_H} {Q : gm_R → gm_H → Prop} {lv : List Value} : gm_W E d 33 68 lv st h Q ↔ gm_W E d 33 83 lv st h Q := gw_brT m33 f33_68 rfl rfl rfl rfl
theorem f33_71 : gm_ft 33 71 = some (.iload_n 1, 1) := by decide +kernel
theorem r33_71 {E : Nat → Value} {d : Nat} {st : List Value} {h : gm_H} {Q : gm_R → gm_H → Prop} {a0 : Value} {x : Int32} : gm_W E d 33 71 [a0, .int x] st h Q ↔ gm_W E d 33 72 [a0, .int x] (.int x :: st) h Q := gw_loc m33 f33_71 rfl rfl
theorem f33_72 : gm_ft 33 72 = some (.bipush 76, 2) := by decide +kernel
theorem r33_72 {E : Nat → Value} {d : Nat} {st : List Value} {h : gm_H} {Q : gm_R → gm_H → Prop} {lv : List Value} : gm_W E d 33 72 lv st h Q ↔ gm_W E d 33 74 lv (.int (76 : Int32) :: st) h Q := gw_pure m33 f33_72 rfl
theorem f33_74 : gm_ft 33 74 = some (.if_icmp .ne 8, 3) := by decide +kernel
theorem r33_74 {E : Nat → Value} {d : Nat} {st : List Value} {h : gm_H} {Q : gm_R → gm_H → Prop} {lv : List Value} {x y : Int32} : gm_W E d 33 74 lv (.int y :: .int x :: st) h Q ↔ (if x = y then gm_W E d 33 77 lv st h Q else gm_W E d 33 82 lv st h Q) := (gw_br m33 f33_74 rfl rfl rfl rfl).trans gw_ifn
theorem f33_77 : gm_ft 33 77 = some (.bipush 7, 2) := by decide +kernel
theorem r33_77 {E : Nat → Value} {d : Nat} {st : List Value} {h : gm_H} {Q : gm_R → gm_H → Prop} {lv : List Value} : gm_W E d 33 77 lv st h Q ↔ gm_W E d 33 79 lv (.int (7 : Int32) :: st) h Q := gw_pure m33 f33_77 rfl
theorem f33_79 : gm_ft 33 79 = some (.goto 4, 3) := by decide +kernel
theorem r33_79 {E : Nat → Value} {d : Nat} {st : List Value} {h : gm_H} {Q : gm_R → gm_H → Prop} {lv : List Value} : gm_W E d 33 79 lv st h Q ↔ gm_W E d 33 83 lv st h Q := gw_brT m33 f33_79 rfl rfl rfl rfl
theorem f33_82 : gm_ft 33 82 = some (.iconst (-1), 1) := by decide +kernel
theorem r33_82 {E : Nat → Value} {d : Nat} {st : List Value} {h : gm_H} {Q : gm_R → gm_H → Prop} {lv : List Value} : gm_W E d 33 82 lv st h Q ↔ gm_W E d 33 83 lv (.int (-1 : Int32) :: st) h Q := gw_pure m33 f33_82 rfl
theorem f33_83 : gm_ft 33 83 = some (.ireturn, 1) := by decide +kernel
theorem r33_83 {E : Nat → Value} {d : Nat} {h : gm_H} {Q : gm_R → gm_H → Prop} {lv : List Value} {x : Int32} : gm_W E d 33 83 lv [.int x] h Q ↔ Q (.inl (some (.int x))) h := gw_ret m33 f33_83 rfl rfl rfl rfl rfl rfl rfl rfl (by unfold gm_rt; dsimp only; rw [if_pos ⟨rfl, rfl⟩])
/-! GraphReaderModel.nextField(I)V -/
theorem m34 : gm_mt[34]? = some (⟨"GraphReaderModel", "nextField", "(I)V"⟩, prog_7_method_33_code, 6, none, [], 5, 2) := rfl
theorem f34_0 : gm_ft 34 0 = some (.aload_n 0, 1) := by decide +kernel
theorem r34_0 {E : Nat → Value} {d : Nat} {st : List Value} {h : gm_H} {Q : gm_R → gm_H → Prop} {a1 a2 a3 a4 a5 : Value} {x : Nat} : gm_W E d 34 0 [.ref x, a1, a2, a3, a4, a5] st h Q ↔ gm_W E d 34 1 [.ref x, a1, a2, a3, a4, a5] (.ref x :: st) h Q := gw_loc m34 f34_0 rfl rfl
theorem r34_0n {E : Nat → Value} {d : Nat} {st : List Value} {h : gm_H} {Q : gm_R → gm_H → Prop} {a1 a2 a3 a4 a5 : Value}  : gm_W E d 34 0 [.null, a1, a2, a3, a4, a5] st h Q ↔ gm_W E d 34 1 [.null, a1, a2, a3, a4, a5] (.null :: st) h Q := gw_loc m34 f34_0 rfl rfl
theorem f34_1 : gm_ft 34 1 = some (.getfield 105, 3) := by decide +kernel
theorem r34_1 {E : Nat → Value} {d : Nat} {st : List Value} {h : gm_H} {Q : gm_R → gm_H → Prop} {lv : List Value} {a : Nat} (hk : gm_kd h a = 5) : gm_W E d 34 1 lv (.ref a :: st) h Q ↔ gm_W E d 34 4 lv (gm_fv h a 44 :: st) h Q := gw_rd m34 f34_1 rfl rfl rfl rfl (gs_get k5_105 hk (by decide))
theorem f34_4 : gm_ft 34 4 = some (.iload_n 1, 1) := by decide +kernel
theorem r34_4 {E : Nat → Value} {d : Nat} {st : List Value} {h : gm_H} {Q : gm_R → gm_H → Prop} {a0 a2 a3 a4 a5 : Value} {x : Int32} : gm_W E d 34 4 [a0, .int x, a2, a3, a4, a5] st h Q ↔ gm_W E d 34 5 [a0, .int x, a2, a3, a4, a5] (.int x :: st) h Q := gw_loc m34 f34_4 rfl rfl
theorem f34_5 : gm_ft 34 5 = some (.iaload, 1) := by decide +kernel
theorem r34_5 {E : Nat → Value} {d : Nat} {st : List Value} {h : gm_H} {Q : gm_R → gm_H → Prop} {lv : List Value} {a j : Nat} (hk : gm_kd h a % 100 = 0 ∧ 100 ≤ gm_kd h a ∧ gm_kd h a < 900) (hj : j < gm_ln h a) (hl : gm_ln h a < 2 ^ 31) : gm_W E d 34 5 lv (.int (nI j) :: .ref a :: st) h Q ↔ gm_W E d 34 6 lv (gm_fv h a j :: st) h Q := gw_rd m34 f34_5 rfl rfl rfl rfl (gs_ld (P := fun t => t == 0) hk.2 (by have := hk.1; simp [this] <;> omega) hj hl)
theorem f34_6 : gm_ft 34 6 = some (.istore_n 2, 1) := by decide +kernel
theorem r34_6 {E : Nat → Value} {d : Nat} {st : List Value} {h : gm_H} {Q : gm_R → gm_H → Prop} {a0 a1 a2 a3 a4 a5 : Value} {x : Int32} : gm_W E d 34 6 [a0, a1, a2, a3, a4, a5] (.int x :: st) h Q ↔ gm_W E d 34 7 [a0, gm_k a1, .int x, a3, a4, a5] st h Q := gw_loc m34 f34_6 rfl rfl
theorem f34_7 : gm_ft 34 7 = some (.aload_n 0, 1) := by decide +kernel
theorem r34_7 {E : Nat → Value} {d : Nat} {st : List Value} {h : gm_H} {Q : gm_R → gm_H → Prop} {a1 a2 a3 a4 a5 : Value} {x : Nat} : gm_W E d 34 7 [.ref x, a1, a2, a3, a4, a5] st h Q ↔ gm_W E d 34 8 [.ref x, a1, a2, a3, a4, a5] (.ref x :: st) h Q := gw_loc m34 f34_7 rfl rfl
theorem r34_7n {E : Nat → Value} {d : Nat} {st : List Value} {h : gm_H} {Q : gm_R → gm_H → Prop} {a1 a2 a3 a4 a5 : Value}  : gm_W E d 34 7 [.null, a1, a2, a3, a4, a5] st h Q ↔ gm_W E d 34 8 [.null, a1, a2, a3, a4, a5] (.null :: st) h Q := gw_loc m34 f34_7 rfl rfl
theorem f34_8 : gm_ft 34 8 = some (.getfield 108, 3) := by decide +kernel
theorem r34_8 {E : Nat → Value} {d : Nat} {st : List Value} {h : gm_H} {Q : gm_R → gm_H → Prop} {lv : List Value} {a : Nat} (hk : gm_kd h a = 5) : gm_W E d 34 8 lv (.ref a :: st) h Q ↔ gm_W E d 34 11 lv (gm_fv h a 45 :: st) h Q := gw_rd m34 f34_8 rfl rfl rfl rfl (gs_get k5_108 hk (by decide))
theorem f34_11 : gm_ft 34 11 = some (.iload_n 1, 1) := by decide +kernel
theorem r34_11 {E : Nat → Value} {d : Nat} {st : List Value} {h : gm_H} {Q : gm_R → gm_H → Prop} {a0 a2 a3 a4 a5 : Value} {x : Int32} : gm_W E d 34 11 [a0, .int x, a2, a3, a4, a5] st h Q ↔ gm_W E d 34 12 [a0, .int x, a2, a3, a4, a5] (.int x :: st) h Q := gw_loc m34 f34_11 rfl rfl
theorem f34_12 : gm_ft 34 12 = some (.iaload, 1) := by decide +kernel
theorem r34_12 {E : Nat → Value} {d : Nat} {st : List Value} {h : gm_H} {Q : gm_R → gm_H → Prop} {lv : List Value} {a j : Nat} (hk : gm_kd h a % 100 = 0 ∧ 100 ≤ gm_kd h a ∧ gm_kd h a < 900) (hj : j < gm_ln h a) (hl : gm_ln h a < 2 ^ 31) : gm_W E d 34 12 lv (.int (nI j) :: .ref a :: st) h Q ↔ gm_W E d 34 13 lv (gm_fv h a j :: st) h Q := gw_rd m34 f34_12 rfl rfl rfl rfl (gs_ld (P := fun t => t == 0) hk.2 (by have := hk.1; simp [this] <;> omega) hj hl)
theorem f34_13 : gm_ft 34 13 = some (.aload_n 0, 1) := by decide +kernel
theorem r34_13 {E : Nat → Value} {d : Nat} {st : List Value} {h : gm_H} {Q : gm_R → gm_H → Prop} {a1 a2 a3 a4 a5 : Value} {x : Nat} : gm_W E d 34 13 [.ref x, a1, a2, a3, a4, a5] st h Q ↔ gm_W E d 34 14 [.ref x, a1, a2, a3, a4, a5] (.ref x :: st) h Q := gw_loc m34 f34_13 rfl rfl
theorem r34_13n {E : Nat → Value} {d : Nat} {st : List Value} {h : gm_H} {Q : gm_R → gm_H → Prop} {a1 a2 a3 a4 a5 : Value}  : gm_W E d 34 13 [.null, a1, a2, a3, a4, a5] st h Q ↔ gm_W E d 34 14 [.null, a1, a2, a3, a4, a5] (.null :: st) h Q := gw_loc m34 f34_13 rfl rfl
theorem f34_14 : gm_ft 34 14 = some (.getfield 81, 3) := by decide +kernel
theorem r34_14 {E : Nat → Value} {d : Nat} {st : List Value} {h : gm_H} {Q : gm_R → gm_H → Prop} {lv : List Value} {a : Nat} (hk : gm_kd h a = 5) : gm_W E d 34 14 lv (.ref a :: st) h Q ↔ gm_W E d 34 17 lv (gm_fv h a 35 :: st) h Q := gw_rd m34 f34_14 rfl rfl rfl rfl (gs_get k5_81 hk (by decide))
theorem f34_17 : gm_ft 34 17 = some (.iload_n 2, 1) := by decide +kernel
theorem r34_17 {E : Nat → Value} {d : Nat} {st : List Value} {h : gm_H} {Q : gm_R → gm_H → Prop} {a0 a1 a3 a4 a5 : Value} {x : Int32} : gm_W E d 34 17 [a0, a1, .int x, a3, a4, a5] st h Q ↔ gm_W E d 34 18 [a0, a1, .int x, a3, a4, a5] (.int x :: st) h Q := gw_loc m34 f34_17 rfl rfl
theorem f34_18 : gm_ft 34 18 = some (.iaload, 1) := by decide +kernel
theorem r34_18 {E : Nat → Value} {d : Nat} {st : List Value} {h : gm_H} {Q : gm_R → gm_H → Prop} {lv : List Value} {a j : Nat} (hk : gm_kd h a % 100 = 0 ∧ 100 ≤ gm_kd h a ∧ gm_kd h a < 900) (hj : j < gm_ln h a) (hl : gm_ln h a < 2 ^ 31) : gm_W E d 34 18 lv (.int (nI j) :: .ref a :: st) h Q ↔ gm_W E d 34 19 lv (gm_fv h a j :: st) h Q := gw_rd m34 f34_18 rfl rfl rfl rfl (gs_ld (P := fun t => t == 0) hk.2 (by have := hk.1; simp [this] <;> omega) hj hl)
theorem f34_19 : gm_ft 34 19 = some (.if_icmp .ne 58, 3) := by decide +kernel
theorem r34_19 {E : Nat → Value} {d : Nat} {st : List Value} {h : gm_H} {Q : gm_R → gm_H → Prop} {lv : List Value} {x y : Int32} : gm_W E d 34 19 lv (.int y :: .int x :: st) h Q ↔ (if x = y then gm_W E d 34 22 lv st h Q else gm_W E d 34 77 lv st h Q) := (gw_br m34 f34_19 rfl rfl rfl rfl).trans gw_ifn
theorem f34_22 : gm_ft 34 22 = some (.aload_n 0, 1) := by decide +kernel
theorem r34_22 {E : Nat → Value} {d : Nat} {st : List Value} {h : gm_H} {Q : gm_R → gm_H → Prop} {a1 a2 a3 a4 a5 : Value} {x : Nat} : gm_W E d 34 22 [.ref x, a1, a2, a3, a4, a5] st h Q ↔ gm_W E d 34 23 [.ref x, a1, a2, a3, a4, a5] (.ref x :: st) h Q := gw_loc m34 f34_22 rfl rfl
theorem r34_22n {E : Nat → Value} {d : Nat} {st : List Value} {h : gm_H} {Q : gm_R → gm_H → Prop} {a1 a2 a3 a4 a5 : Value}  : gm_W E d 34 22 [.null, a1, a2, a3, a4, a5] st h Q ↔ gm_W E d 34 23 [.null, a1, a2, a3, a4, a5] (.null :: st) h Q := gw_loc m34 f34_22 rfl rfl
theorem f34_23 : gm_ft 34 23 = some (.getfield 75, 3) := by decide +kernel
theorem r34_23 {E : Nat → Value} {d : Nat} {st : List Value} {h : gm_H} {Q : gm_R → gm_H → Prop} {lv : List Value} {a : Nat} (hk : gm_kd h a = 5) : gm_W E d 34 23 lv (.ref a :: st) h Q ↔ gm_W E d 34 26 lv (gm_fv h a 33 :: st) h Q := gw_rd m34 f34_23 rfl rfl rfl rfl (gs_get k5_75 hk (by decide))
theorem f34_26 : gm_ft 34 26 = some (.iload_n 2, 1) := by decide +kernel
theorem r34_26 {E : Nat → Value} {d : Nat} {st : List Value} {h : gm_H} {Q : gm_R → gm_H → Prop} {a0 a1 a3 a4 a5 : Value} {x : Int32} : gm_W E d 34 26 [a0, a1, .int x, a3, a4, a5] st h Q ↔ gm_W E d 34 27 [a0, a1, .int x, a3, a4, a5] (.int x :: st) h Q := gw_loc m34 f34_26 rfl rfl
theorem f34_27 : gm_ft 34 27 = some (.iaload, 1) := by decide +kernel
theorem r34_27 {E : Nat → Value} {d : Nat} {st : List Value} {h : gm_H} {Q : gm_R → gm_H → Prop} {lv : List Value} {a j : Nat} (hk : gm_kd h a % 100 = 0 ∧ 100 ≤ gm_kd h a ∧ gm_kd h a < 900) (hj : j < gm_ln h a) (hl : gm_ln h a < 2 ^ 31) : gm_W E d 34 27 lv (.int (nI j) :: .ref a :: st) h Q ↔ gm_W E d 34 28 lv (gm_fv h a j :: st) h Q := gw_rd m34 f34_27 rfl rfl rfl rfl (gs_ld (P := fun t => t == 0) hk.2 (by have := hk.1; simp [this] <;> omega) hj hl)
theorem f34_28 : gm_ft 34 28 = some (.bipush 16, 2) := by decide +kernel
theorem r34_28 {E : Nat → Value} {d : Nat} {st : List Value} {h : gm_H} {Q : gm_R → gm_H → Prop} {lv : List Value} : gm_W E d 34 28 lv st h Q ↔ gm_W E d 34 30 lv (.int (16 : Int32) :: st) h Q := gw_pure m34 f34_28 rfl
theorem f34_30 : gm_ft 34 30 = some (.iand, 1) := by decide +kernel
theorem r34_30 {E : Nat → Value} {d : Nat} {st : List Value} {h : gm_H} {Q : gm_R → gm_H → Prop} {lv : List Value} {x y : Int32} : gm_W E d 34 30 lv (.int y :: .int x :: st) h Q ↔ gm_W E d 34 31 lv (.int (x &&& y) :: st) h Q := gw_pure m34 f34_30 rfl
theorem f34_31 : gm_ft 34 31 = some (.ifCond .eq 18, 3) := by decide +kernel
theorem r34_31 {E : Nat → Value} {d : Nat} {st : List Value} {h : gm_H} {Q : gm_R → gm_H → Prop} {lv : List Value} {x : Int32} : gm_W E d 34 31 lv (.int x :: st) h Q ↔ (if x = 0 then gm_W E d 34 49 lv st h Q else gm_W E d 34 34 lv st h Q) := (gw_br m34 f34_31 rfl rfl rfl rfl).trans gw_if
theorem f34_34 : gm_ft 34 34 = some (.aload_n 0, 1) := by decide +kernel
theorem r34_34 {E : Nat → Value} {d : Nat} {st : List Value} {h : gm_H} {Q : gm_R → gm_H → Prop} {a1 a2 a3 a4 a5 : Value} {x : Nat} : gm_W E d 34 34 [.ref x, a1, a2, a3, a4, a5] st h Q ↔ gm_W E d 34 35 [.ref x, a1, a2, a3, a4, a5] (.ref x :: st) h Q := gw_loc m34 f34_34 rfl rfl
theorem r34_34n {E : Nat → Value} {d : Nat} {st : List Value} {h : gm_H} {Q : gm_R → gm_H → Prop} {a1 a2 a3 a4 a5 : Value}  : gm_W E d 34 34 [.null, a1, a2, a3, a4, a5] st h Q ↔ gm_W E d 34 35 [.null, a1, a2, a3, a4, a5] (.null :: st) h Q := gw_loc m34 f34_34 rfl rfl
theorem f34_35 : gm_ft 34 35 = some (.getfield 81, 3) := by decide +kernel
theorem r34_35 {E : Nat → Value} {d : Nat} {st : List Value} {h : gm_H} {Q : gm_R → gm_H → Prop} {lv : List Value} {a : Nat} (hk : gm_kd h a = 5) : gm_W E d 34 35 lv (.ref a :: st) h Q ↔ gm_W E d 34 38 lv (gm_fv h a 35 :: st) h Q := gw_rd m34 f34_35 rfl rfl rfl rfl (gs_get k5_81 hk (by decide))
theorem f34_38 : gm_ft 34 38 = some (.iload_n 2, 1) := by decide +kernel
theorem r34_38 {E : Nat → Value} {d : Nat} {st : List Value} {h : gm_H} {Q : gm_R → gm_H → Prop} {a0 a1 a3 a4 a5 : Value} {x : Int32} : gm_W E d 34 38 [a0, a1, .int x, a3, a4, a5] st h Q ↔ gm_W E d 34 39 [a0, a1, .int x, a3, a4, a5] (.int x :: st) h Q := gw_loc m34 f34_38 rfl rfl
theorem f34_39 : gm_ft 34 39 = some (.iaload, 1) := by decide +kernel
theorem r34_39 {E : Nat → Value} {d : Nat} {st : List Value} {h : gm_H} {Q : gm_R → gm_H → Prop} {lv : List Value} {a j : Nat} (hk : gm_kd h a % 100 = 0 ∧ 100 ≤ gm_kd h a ∧ gm_kd h a < 900) (hj : j < gm_ln h a) (hl : gm_ln h a < 2 ^ 31) : gm_W E d 34 39 lv (.int (nI j) :: .ref a :: st) h Q ↔ gm_W E d 34 40 lv (gm_fv h a j :: st) h Q := gw_rd m34 f34_39 rfl rfl rfl rfl (gs_ld (P := fun t => t == 0) hk.2 (by have := hk.1; simp [this] <;> omega) hj hl)
theorem f34_40 : gm_ft 34 40 = some (.ifCond .le 9, 3) := by decide +kernel
theorem r34_40 {E : Nat → Value} {d : Nat} {st : List Value} {h : gm_H} {Q : gm_R → gm_H → Prop} {lv : List Value} {x : Int32} : gm_W E d 34 40 lv (.int x :: st) h Q ↔ (if x ≤ 0 then gm_W E d 34 49 lv st h Q else gm_W E d 34 43 lv st h Q) := (gw_br m34 f34_40 rfl rfl rfl rfl).trans gw_if
theorem f34_43 : gm_ft 34 43 = some (.aload_n 0, 1) := by decide +kernel
theorem r34_43 {E : Nat → Value} {d : Nat} {st : List Value} {h : gm_H} {Q : gm_R → gm_H → Prop} {a1 a2 a3 a4 a5 : Value} {x : Nat} : gm_W E d 34 43 [.ref x, a1, a2, a3, a4, a5] st h Q ↔ gm_W E d 34 44 [.ref x, a1, a2, a3, a4, a5] (.ref x :: st) h Q := gw_loc m34 f34_43 rfl rfl
theorem r34_43n {E : Nat → Value} {d : Nat} {st : List Value} {h : gm_H} {Q : gm_R → gm_H → Prop} {a1 a2 a3 a4 a5 : Value}  : gm_W E d 34 43 [.null, a1, a2, a3, a4, a5] st h Q ↔ gm_W E d 34 44 [.null, a1, a2, a3, a4, a5] (.null :: st) h Q := gw_loc m34 f34_43 rfl rfl
theorem f34_44 : gm_ft 34 44 = some (.bipush (-5), 2) := by decide +kernel
theorem r34_44 {E : Nat → Value} {d : Nat} {st : List Value} {h : gm_H} {Q : gm_R → gm_H → Prop} {lv : List Value} : gm_W E d 34 44 lv st h Q ↔ gm_W E d 34 46 lv (.int (-5 : Int32) :: st) h Q := gw_pure m34 f34_44 rfl
theorem f34_46 : gm_ft 34 46 = some (.invokevirtual 151, 3) := by decide +kernel
theorem c34_46 {E : Nat → Value} {d : Nat} {st : List Value} {h : gm_H} {Q : gm_R → gm_H → Prop} {lv : List Value} {b0 : Int32} {a : Nat} {Qc : gm_R → gm_H → Prop} (hs : (st.map fun v => v.category).sum ≤ 8) (hr : gm_kd h a = 5) (hd : 1 ≤ d) (hc : gm_Ca E (d - 1) 10 [.ref a, .int b0] h Qc) (kn : ∀ (v9 : Option Value) (h9 : gm_H), Qc (.inl v9) h9 → gm_W E d 34 49 lv (v9.toList ++ st) h9 Q) (kx : ∀ (x9 : Nat) (h9 : gm_H), Qc (.inr x9) h9 → Q (.inr x9) h9) : gm_W E d 34 46 lv (.int b0 :: .ref a :: st) h Q := gw_call (gn_call m34 f34_46 rfl rfl rfl rfl rfl rfl rfl (gs_virt (bs := [.int b0]) (w := 844) (L := 2) rfl rfl rfl rfl hs (by simp [gm_en1]) hr (by decide)) (by decide)) m34 rfl rfl hd hc kn kx
theorem f34_49 : gm_ft 34 49 = some (.aload_n 0, 1) := by decide +kernel
theorem r34_49 {E : Nat → Value} {d : Nat} {st : List Value} {h : gm_H} {Q : gm_R → gm_H → Prop} {a1 a2 a3 a4 a5 : Value} {x : Nat} : gm_W E d 34 49 [.ref x, a1, a2, a3, a4, a5] st h Q ↔ gm_W E d 34 50 [.ref x, a1, a2, a3, a4, a5] (.ref x :: st) h Q := gw_loc m34 f34_49 rfl rfl
theorem r34_49n {E : Nat → Value} {d : Nat} {st : List Value} {h : gm_H} {Q : gm_R → gm_H → Prop} {a1 a2 a3 a4 a5 : Value}  : gm_W E d 34 49 [.null, a1, a2, a3, a4, a5] st h Q ↔ gm_W E d 34 50 [.null, a1, a2, a3, a4, a5] (.null :: st) h Q := gw_loc m34 f34_49 rfl rfl
theorem f34_50 : gm_ft 34 50 = some (.getfield 96, 3) := by decide +kernel
theorem r34_50 {E : Nat → Value} {d : Nat} {st : List Value} {h : gm_H} {Q : gm_R → gm_H → Prop} {lv : List Value} {a : Nat} (hk : gm_kd h a = 5) : gm_W E d 34 50 lv (.ref a :: st) h Q ↔ gm_W E d 34 53 lv (gm_fv h a 41 :: st) h Q := gw_rd m34 f34_50 rfl rfl rfl rfl (gs_get k5_96 hk (by decide))
theorem f34_53 : gm_ft 34 53 = some (.iload_n 1, 1) := by decide +kernel
theorem r34_53 {E : Nat → Value} {d : Nat} {st : List Value} {h : gm_H} {Q : gm_R → gm_H → Prop} {a0 a2 a3 a4 a5 : Value} {x : Int32} : gm_W E d 34 53 [a0, .int x, a2, a3, a4, a5] st h Q ↔ gm_W E d 34 54 [a0, .int x, a2, a3, a4, a5] (.int x :: st) h Q := gw_loc m34 f34_53 rfl rfl
theorem f34_54 : gm_ft 34 54 = some (.iconst 3, 1) := by decide +kernel
theorem r34_54 {E : Nat → Value} {d : Nat} {st : List Value} {h : gm_H} {Q : gm_R → gm_H → Prop} {lv : List Value} : gm_W E d 34 54 lv st h Q ↔ gm_W E d 34 55 lv (.int (3 : Int32) :: st) h Q := gw_pure m34 f34_54 rfl
theorem f34_55 : gm_ft 34 55 = some (.iastore, 1) := by decide +kernel
theorem r34_55 {E : Nat → Value} {d : Nat} {st : List Value} {h : gm_H} {Q : gm_R → gm_H → Prop} {lv : List Value} {a j : Nat} {x : Int32} (hk : gm_kd h a = 200) (hj : j < gm_ln h a) (hl : gm_ln h a < 2 ^ 31) : gm_W E d 34 55 lv (.int x :: .int (nI j) :: .ref a :: st) h Q ↔ gm_W E d 34 56 lv st (gm_sf h a j (.int x)) Q := gw_wr m34 f34_55 rfl rfl rfl rfl rfl (gs_st hk (by decide) hj hl)
theorem f34_56 : gm_ft 34 56 = some (.aload_n 0, 1) := by decide +kernel
theorem r34_56 {E : Nat → Value} {d : Nat} {st : List Value} {h : gm_H} {Q : gm_R → gm_H → Prop} {a1 a2 a3 a4 a5 : Value} {x : Nat} : gm_W E d 34 56 [.ref x, a1, a2, a3, a4, a5] st h Q ↔ gm_W E d 34 57 [.ref x, a1, a2, a3, a4, a5] (.ref x :: st) h Q := gw_loc m34 f34_56 rfl rfl
theorem r34_56n {E : Nat → Value} {d : Nat} {st : List Value} {h : gm_H} {Q : gm_R → gm_H → Prop} {a1 a2 a3 a4 a5 : Value}  : gm_W E d 34 56 [.null, a1, a2, a3, a4, a5] st h Q ↔ gm_W E d 34 57 [.null, a1, a2, a3, a4, a5] (.null :: st) h Q := gw_loc m34 f34_56 rfl rfl
theorem f34_57 : gm_ft 34 57 = some (.getfield 145, 3) := by decide +kernel
theorem r34_57 {E : Nat → Value} {d : Nat} {st : List Value} {h : gm_H} {Q : gm_R → gm_H → Prop} {lv : List Value} {a : Nat} (hk : gm_kd h a = 5) : gm_W E d 34 57 lv (.ref a :: st) h Q ↔ gm_W E d 34 60 lv (gm_fv h a 8 :: st) h Q := gw_rd m34 f34_57 rfl rfl rfl rfl (gs_get k5_145 hk (by decide))
theorem f34_60 : gm_ft 34 60 = some (.ifCond .ne 16, 3) := by decide +kernel
theorem r34_60 {E : Nat → Value} {d : Nat} {st : List Value} {h : gm_H} {Q : gm_R → gm_H → Prop} {lv : List Value} {x : Int32} : gm_W E d 34 60 lv (.int x :: st) h Q ↔ (if x = 0 then gm_W E d 34 63 lv st h Q else gm_W E d 34 76 lv st h Q) := (gw_br m34 f34_60 rfl rfl rfl rfl).trans gw_ifn
theorem f34_63 : gm_ft 34 63 = some (.aload_n 0, 1) := by decide +kernel
theorem r34_63 {E : Nat → Value} {d : Nat} {st : List Value} {h : gm_H} {Q : gm_R → gm_H → Prop} {a1 a2 a3 a4 a5 : Value} {x : Nat} : gm_W E d 34 63 [.ref x, a1, a2, a3, a4, a5] st h Q ↔ gm_W E d 34 64 [.ref x, a1, a2, a3, a4, a5] (.ref x :: st) h Q := gw_loc m34 f34_63 rfl rfl
theorem r34_63n {E : Nat → Value} {d : Nat} {st : List Value} {h : gm_H} {Q : gm_R → gm_H → Prop} {a1 a2 a3 a4 a5 : Value}  : gm_W E d 34 63 [.null, a1, a2, a3, a4, a5] st h Q ↔ gm_W E d 34 64 [.null, a1, a2, a3, a4, a5] (.null :: st) h Q := gw_loc m34 f34_63 rfl rfl
theorem f34_64 : gm_ft 34 64 = some (.iconst 4, 1) := by decide +kernel
theorem r34_64 {E : Nat → Value} {d : Nat} {st : List Value} {h : gm_H} {Q : gm_R → gm_H → Prop} {lv : List Value} : gm_W E d 34 64 lv st h Q ↔ gm_W E d 34 65 lv (.int (4 : Int32) :: st) h Q := gw_pure m34 f34_64 rfl
theorem f34_65 : gm_ft 34 65 = some (.aload_n 0, 1) := by decide +kernel
theorem r34_65 {E : Nat → Value} {d : Nat} {st : List Value} {h : gm_H} {Q : gm_R → gm_H → Prop} {a1 a2 a3 a4 a5 : Value} {x : Nat} : gm_W E d 34 65 [.ref x, a1, a2, a3, a4, a5] st h Q ↔ gm_W E d 34 66 [.ref x, a1, a2, a3, a4, a5] (.ref x :: st) h Q := gw_loc m34 f34_65 rfl rfl
theorem r34_65n {E : Nat → Value} {d : Nat} {st : List Value} {h : gm_H} {Q : gm_R → gm_H → Prop} {a1 a2 a3 a4 a5 : Value}  : gm_W E d 34 65 [.null, a1, a2, a3, a4, a5] st h Q ↔ gm_W E d 34 66 [.null, a1, a2, a3, a4, a5] (.null :: st) h Q := gw_loc m34 f34_65 rfl rfl
theorem f34_66 : gm_ft 34 66 = some (.getfield 99, 3) := by decide +kernel
theorem r34_66 {E : Nat → Value} {d : Nat} {st : List Value} {h : gm_H} {Q : gm_R → gm_H → Prop} {lv : List Value} {a : Nat} (hk : gm_kd h a = 5) : gm_W E d 34 66 lv (.ref a :: st) h Q ↔ gm_W E d 34 69 lv (gm_fv h a 42 :: st) h Q := gw_rd m34 f34_66 rfl rfl rfl rfl (gs_get k5_99 hk (by decide))
theorem f34_69 : gm_ft 34 69 = some (.iload_n 1, 1) := by decide +kernel
theorem r34_69 {E : Nat → Value} {d : Nat} {st : List Value} {h : gm_H} {Q : gm_R → gm_H → Prop} {a0 a2 a3 a4 a5 : Value} {x : Int32} : gm_W E d 34 69 [a0, .int x, a2, a3, a4, a5] st h Q ↔ gm_W E d 34 70 [a0, .int x, a2, a3, a4, a5] (.int x :: st) h Q := gw_loc m34 f34_69 rfl rfl
theorem f34_70 : gm_ft 34 70 = some (.iaload, 1) := by decide +kernel
theorem r34_70 {E : Nat → Value} {d : Nat} {st : List Value} {h : gm_H} {Q : gm_R → gm_H → Prop} {lv : List Value} {a j : Nat} (hk : gm_kd h a % 100 = 0 ∧ 100 ≤ gm_kd h a ∧ gm_kd h a < 900) (hj : j < gm_ln h a) (hl : gm_ln h a < 2 ^ 31) : gm_W E d 34 70 lv (.int (nI j) :: .ref a :: st) h Q ↔ gm_W E d 34 71 lv (gm_fv h a j :: st) h Q := gw_rd m34 f34_70 rfl rfl rfl rfl (gs_ld (P := fun t => t == 0) hk.2 (by have := hk.1; simp [this] <;> omega) hj hl)
theorem f34_71 : gm_ft 34 71 = some (.iconst 0, 1) := by decide +kernel
theorem r34_71 {E : Nat → Value} {d : Nat} {st : List Value} {h : gm_H} {Q : gm_R → gm_H → Prop} {lv : List Value} : gm_W E d 34 71 lv st h Q ↔ gm_W E d 34 72 lv (.int (0 : Int32) :: st) h Q := gw_pure m34 f34_71 rfl
theorem f34_72 : gm_ft 34 72 = some (.iconst 0, 1) := by decide +kernel
theorem r34_72 {E : Nat → Value} {d : Nat} {st : List Value} {h : gm_H} {Q : gm_R → gm_H → Prop} {lv : List Value} : gm_W E d 34 72 lv st h Q ↔ gm_W E d 34 73 lv (.int (0 : Int32) :: st) h Q := gw_pure m34 f34_72 rfl
theorem f34_73 : gm_ft 34 73 = some (.invokevirtual 200, 3) := by decide +kernel
theorem c34_73 {E : Nat → Value} {d : Nat} {st : List Value} {h : gm_H} {Q : gm_R → gm_H → Prop} {lv : List Value} {b0 : Int32} {b1 : Int32} {b2 : Int32} {b3 : Int32} {a : Nat} {Qc : gm_R → gm_H → Prop} (hs : (st.map fun v => v.category).sum ≤ 8) (hr : gm_kd h a = 5) (hd : 1 ≤ d) (hc : gm_Ca E (d - 1) 15 [.ref a, .int b0, .int b1, .int b2, .int b3] h Qc) (kn : ∀ (v9 : Option Value) (h9 : gm_H), Qc (.inl v9) h9 → gm_W E d 34 76 lv (v9.toList ++ st) h9 Q) (kx : ∀ (x9 : Nat) (h9 : gm_H), Qc (.inr x9) h9 → Q (.inr x9) h9) : gm_W E d 34 73 lv (.int b3 :: .int b2 :: .int b1 :: .int b0 :: .ref a :: st) h Q := gw_call (gn_call m34 f34_73 rfl rfl rfl rfl rfl rfl rfl (gs_virt (bs := [.int b3, .int b2, .int b1, .int b0]) (w := 856) (L := 5) rfl rfl rfl rfl hs (by simp [gm_en1]) hr (by decide)) (by decide)) m34 rfl rfl hd hc kn kx
theorem f34_76 : gm_ft 34 76 = some (.return_, 1) := by decide +kernel
theorem r34_76 {E : Nat → Value} {d : Nat} {h : gm_H} {Q : gm_R → gm_H → Prop} {lv : List Value} : gm_W E d 34 76 lv [] h Q ↔ Q (.inl none) h := gw_ret m34 f34_76 rfl rfl rfl rfl rfl rfl rfl rfl rfl
theorem f34_77 : gm_ft 34 77 = some (.aload_n 0, 1) := by decide +kernel
theorem r34_77 {E : Nat → Value} {d : Nat} {st : List Value} {h : gm_H} {Q : gm_R → gm_H → Prop} {a1 a2 a3 a4 a5 : Value} {x : Nat} : gm_W E d 34 77 [.ref x, a1, a2, a3, a4, a5] st h Q ↔ gm_W E d 34 78 [.ref x, a1, a2, a3, a4, a5] (.ref x :: st) h Q := gw_loc m34 f34_77 rfl rfl
theorem r34_77n {E : Nat → Value} {d : Nat} {st : List Value} {h : gm_H} {Q : gm_R → gm_H → Prop} {a1 a2 a3 a4 a5 : Value}  : gm_W E d 34 77 [.null, a1, a2, a3, a4, a5] st h Q ↔ gm_W E d 34 78 [.null, a1, a2, a3, a4, a5] (.null :: st) h Q := gw_loc m34 f34_77 rfl rfl
theorem f34_78 : gm_ft 34 78 = some (.aload_n 0, 1) := by decide +kernel
theorem r34_78 {E : Nat → Value} {d : Nat} {st : List Value} {h : gm_H} {Q : gm_R → gm_H → Prop} {a1 a2 a3 a4 a5 : Value} {x : Nat} : gm_W E d 34 78 [.ref x, a1, a2, a3, a4, a5] st h Q ↔ gm_W E d 34 79 [.ref x, a1, a2, a3, a4, a5] (.ref x :: st) h Q := gw_loc m34 f34_78 rfl rfl
theorem r34_78n {E : Nat → Value} {d : Nat} {st : List Value} {h : gm_H} {Q : gm_R → gm_H → Prop} {a1 a2 a3 a4 a5 : Value}  : gm_W E d 34 78 [.null, a1, a2, a3, a4, a5] st h Q ↔ gm_W E d 34 79 [.null, a1, a2, a3, a4, a5] (.null :: st) h Q := gw_loc m34 f34_78 rfl rfl
theorem f34_79 : gm_ft 34 79 = some (.invokevirtual 155, 3) := by decide +kernel
theorem c34_79 {E : Nat → Value} {d : Nat} {st : List Value} {h : gm_H} {Q : gm_R → gm_H → Prop} {lv : List Value} {a : Nat} {Qc : gm_R → gm_H → Prop} (hs : (st.map fun v => v.category).sum ≤ 8) (hr : gm_kd h a = 5) (hd : 1 ≤ d) (hc : gm_Ca E (d - 1) 11 [.ref a] h Qc) (kn : ∀ (v9 : Option Value) (h9 : gm_H), Qc (.inl v9) h9 → gm_W E d 34 82 lv (v9.toList ++ st) h9 Q) (kx : ∀ (x9 : Nat) (h9 : gm_H), Qc (.inr x9) h9 → Q (.inr x9) h9) : gm_W E d 34 79 lv (.ref a :: st) h Q := gw_call (gn_call m34 f34_79 rfl rfl rfl rfl rfl rfl rfl (gs_virt (bs := []) (w := 848) (L := 1) rfl rfl rfl rfl hs (by simp [gm_en1]) hr (by decide)) (by decide)) m34 rfl rfl hd hc kn kx
theorem f34_82 : gm_ft 34 82 = some (.invokevirtual 245, 3) := by decide +kernel
theorem c34_82 {E : Nat → Value} {d : Nat} {st : List Value} {h : gm_H} {Q : gm_R → gm_H → Prop} {lv : List Value} {b0 : Int32} {a : Nat} {Qc : gm_R → gm_H → Prop} (hs : (st.map fun v => v.category).sum ≤ 8) (hr : gm_kd h a = 5) (hd : 1 ≤ d) (hc : gm_Ca E (d - 1) 33 [.ref a, .int b0] h Qc) (kn : ∀ (v9 : Option Value) (h9 : gm_H), Qc (.inl v9) h9 → gm_W E d 34 85 lv (v9.toList ++ st) h9 Q) (kx : ∀ (x9 : Nat) (h9 : gm_H), Qc (.inr x9) h9 → Q (.inr x9) h9) : gm_W E d 34 82 lv (.int b0 :: .ref a :: st) h Q := gw_call (gn_call m34 f34_82 rfl rfl rfl rfl rfl rfl rfl (gs_virt (bs := [.int b0]) (w := 949) (L := 2) rfl rfl rfl rfl hs (by simp [gm_en1]) hr (by decide)) (by decide)) m34 rfl rfl hd hc kn kx
theorem f34_85 : gm_ft 34 85 = some (.istore_n 3, 1) := by decide +kernel
theorem r34_85 {E : Nat → Value} {d : Nat} {st : List Value} {h : gm_H} {Q : gm_R → gm_H → Prop} {a0 a1 a2 a3 a4 a5 : Value} {x : Int32} : gm_W E d 34 85 [a0, a1, a2, a3, a4, a5] (.int x :: st) h Q ↔ gm_W E d 34 86 [a0, a1, gm_k a2, .int x, a4, a5] st h Q := gw_loc m34 f34_85 rfl rfl
theorem f34_86 : gm_ft 34 86 = some (.aload_n 0, 1) := by decide +kernel
theorem r34_86 {E : Nat → Value} {d : Nat} {st : List Value} {h : gm_H} {Q : gm_R → gm_H → Prop} {a1 a2 a3 a4 a5 : Value} {x : Nat} : gm_W E d 34 86 [.ref x, a1, a2, a3, a4, a5] st h Q ↔ gm_W E d 34 87 [.ref x, a1, a2, a3, a4, a5] (.ref x :: st) h Q := gw_loc m34 f34_86 rfl rfl
theorem r34_86n {E : Nat → Value} {d : Nat} {st : List Value} {h : gm_H} {Q : gm_R → gm_H → Prop} {a1 a2 a3 a4 a5 : Value}  : gm_W E d 34 86 [.null, a1, a2, a3, a4, a5] st h Q ↔ gm_W E d 34 87 [.null, a1, a2, a3, a4, a5] (.null :: st) h Q := gw_loc m34 f34_86 rfl rfl
theorem f34_87 : gm_ft 34 87 = some (.getfield 145, 3) := by decide +kernel
theorem r34_87 {E : Nat → Value} {d : Nat} {st : List Value} {h : gm_H} {Q : gm_R → gm_H → Prop} {lv : List Value} {a : Nat} (hk : gm_kd h a = 5) : gm_W E d 34 87 lv (.ref a :: st) h Q ↔ gm_W E d 34 90 lv (gm_fv h a 8 :: st) h Q := gw_rd m34 f34_87 rfl rfl rfl rfl (gs_get k5_145 hk (by decide))
theorem f34_90 : gm_ft 34 90 = some (.ifCond .ne 13, 3) := by decide +kernel
theorem r34_90 {E : Nat → Value} {d : Nat} {st : List Value} {h : gm_H} {Q : gm_R → gm_H → Prop} {lv : List Value} {x : Int32} : gm_W E d 34 90 lv (.int x :: st) h Q ↔ (if x = 0 then gm_W E d 34 93 lv st h Q else gm_W E d 34 103 lv st h Q) := (gw_br m34 f34_90 rfl rfl rfl rfl).trans gw_ifn
theorem f34_93 : gm_ft 34 93 = some (.iload_n 3, 1) := by decide +kernel
theorem r34_93 {E : Nat → Value} {d : Nat} {st : List Value} {h : gm_H} {Q : gm_R → gm_H → Prop} {a0 a1 a2 a4 a5 : Value} {x : Int32} : gm_W E d 34 93 [a0, a1, a2, .int x, a4, a5] st h Q ↔ gm_W E d 34 94 [a0, a1, a2, .int x, a4, a5] (.int x :: st) h Q := gw_loc m34 f34_93 rfl rfl
theorem f34_94 : gm_ft 34 94 = some (.ifCond .ge 9, 3) := by decide +kernel
theorem r34_94 {E : Nat → Value} {d : Nat} {st : List Value} {h : gm_H} {Q : gm_R → gm_H → Prop} {lv : List Value} {x : Int32} : gm_W E d 34 94 lv (.int x :: st) h Q ↔ (if 0 ≤ x then gm_W E d 34 103 lv st h Q else gm_W E d 34 97 lv st h Q) := (gw_br m34 f34_94 rfl rfl rfl rfl).trans gw_if
theorem f34_97 : gm_ft 34 97 = some (.aload_n 0, 1) := by decide +kernel
theorem r34_97 {E : Nat → Value} {d : Nat} {st : List Value} {h : gm_H} {Q : gm_R → gm_H → Prop} {a1 a2 a3 a4 a5 : Value} {x : Nat} : gm_W E d 34 97 [.ref x, a1, a2, a3, a4, a5] st h Q ↔ gm_W E d 34 98 [.ref x, a1, a2, a3, a4, a5] (.ref x :: st) h Q := gw_loc m34 f34_97 rfl rfl
theorem r34_97n {E : Nat → Value} {d : Nat} {st : List Value} {h : gm_H} {Q : gm_R → gm_H → Prop} {a1 a2 a3 a4 a5 : Value}  : gm_W E d 34 97 [.null, a1, a2, a3, a4, a5] st h Q ↔ gm_W E d 34 98 [.null, a1, a2, a3, a4, a5] (.null :: st) h Q := gw_loc m34 f34_97 rfl rfl
theorem f34_98 : gm_ft 34 98 = some (.bipush (-5), 2) := by decide +kernel
theorem r34_98 {E : Nat → Value} {d : Nat} {st : List Value} {h : gm_H} {Q : gm_R → gm_H → Prop} {lv : List Value} : gm_W E d 34 98 lv st h Q ↔ gm_W E d 34 100 lv (.int (-5 : Int32) :: st) h Q := gw_pure m34 f34_98 rfl
theorem f34_100 : gm_ft 34 100 = some (.invokevirtual 151, 3) := by decide +kernel
theorem c34_100 {E : Nat → Value} {d : Nat} {st : List Value} {h : gm_H} {Q : gm_R → gm_H → Prop} {lv : List Value} {b0 : Int32} {a : Nat} {Qc : gm_R → gm_H → Prop} (hs : (st.map fun v => v.category).sum ≤ 8) (hr : gm_kd h a = 5) (hd : 1 ≤ d) (hc : gm_Ca E (d - 1) 10 [.ref a, .int b0] h Qc) (kn : ∀ (v9 : Option Value) (h9 : gm_H), Qc (.inl v9) h9 → gm_W E d 34 103 lv (v9.toList ++ st) h9 Q) (kx : ∀ (x9 : Nat) (h9 : gm_H), Qc (.inr x9) h9 → Q (.inr x9) h9) : gm_W E d 34 100 lv (.int b0 :: .ref a :: st) h Q := gw_call (gn_call m34 f34_100 rfl rfl rfl rfl rfl rfl rfl (gs_virt (bs := [.int b0]) (w := 844) (L := 2) rfl rfl rfl rfl hs (by simp [gm_en1]) hr (by decide)) (by decide)) m34 rfl rfl hd hc kn kx
theorem f34_103 : gm_ft 34 103 = some (.aload_n 0, 1) := by decide +kernel
theorem r34_103 {E : Nat → Value} {d : Nat} {st : List Value} {h : gm_H} {Q : gm_R → gm_H → Prop} {a1 a2 a3 a4 a5 : Value} {x : Nat} : gm_W E d 34 103 [.ref x, a1, a2, a3, a4, a5] st h Q ↔ gm_W E d 34 104 [.ref x, a1, a2, a3, a4, a5] (.ref x :: st) h Q := gw_loc m34 f34_103 rfl rfl
theorem r34_103n {E : Nat → Value} {d : Nat} {st : List Value} {h : gm_H} {Q : gm_R → gm_H → Prop} {a1 a2 a3 a4 a5 : Value}  : gm_W E d 34 103 [.null, a1, a2, a3, a4, a5] st h Q ↔ gm_W E d 34 104 [.null, a1, a2, a3, a4, a5] (.null :: st) h Q := gw_loc m34 f34_103 rfl rfl
theorem f34_104 : gm_ft 34 104 = some (.getfield 145, 3) := by decide +kernel
theorem r34_104 {E : Nat → Value} {d : Nat} {st : List Value} {h : gm_H} {Q : gm_R → gm_H → Prop} {lv : List Value} {a : Nat} (hk : gm_kd h a = 5) : gm_W E d 34 104 lv (.ref a :: st) h Q ↔ gm_W E d 34 107 lv (gm_fv h a 8 :: st) h Q := gw_rd m34 f34_104 rfl rfl rfl rfl (gs_get k5_145 hk (by decide))
theorem f34_107 : gm_ft 34 107 = some (.ifCond .eq 4, 3) := by decide +kernel
theorem r34_107 {E : Nat → Value} {d : Nat} {st : List Value} {h : gm_H} {Q : gm_R → gm_H → Prop} {lv : List Value} {x : Int32} : gm_W E d 34 107 lv (.int x :: st) h Q ↔ (if x = 0 then gm_W E d 34 111 lv st h Q else gm_W E d 34 110 lv st h Q) := (gw_br m34 f34_107 rfl rfl rfl rfl).trans gw_if
theorem f34_110 : gm_ft 34 110 = some (.return_, 1) := by decide +kernel
theorem r34_110 {E : Nat → Value} {d : Nat} {h : gm_H} {Q : gm_R → gm_H → Prop} {lv : List Value} : gm_W E d 34 110 lv [] h Q ↔ Q (.inl none) h := gw_ret m34 f34_110 rfl rfl rfl rfl rfl rfl rfl rfl rfl
theorem f34_111 : gm_ft 34 111 = some (.aload_n 0, 1) := by decide +kernel
theorem r34_111 {E : Nat → Value} {d : Nat} {st : List Value} {h : gm_H} {Q : gm_R → gm_H → Prop} {a1 a2 a3 a4 a5 : Value} {x : Nat} : gm_W E d 34 111 [.ref x, a1, a2, a3, a4, a5] st h Q ↔ gm_W E d 34 112 [.ref x, a1, a2, a3, a4, a5] (.ref x :: st) h Q := gw_loc m34 f34_111 rfl rfl
theorem r34_111n {E : Nat → Value} {d : Nat} {st : List Value} {h : gm_H} {Q : gm_R → gm_H → Prop} {a1 a2 a3 a4 a5 : Value}  : gm_W E d 34 111 [.null, a1, a2, a3, a4, a5] st h Q ↔ gm_W E d 34 112 [.null, a1, a2, a3, a4, a5] (.null :: st) h Q := gw_loc m34 f34_111 rfl rfl
theorem f34_112 : gm_ft 34 112 = some (.invokevirtual 193, 3) := by decide +kernel
theorem c34_112 {E : Nat → Value} {d : Nat} {st : List Value} {h : gm_H} {Q : gm_R → gm_H → Prop} {lv : List Value} {a : Nat} {Qc : gm_R → gm_H → Prop} (hs : (st.map fun v => v.category).sum ≤ 8) (hr : gm_kd h a = 5) (hd : 1 ≤ d) (hc : gm_Ca E (d - 1) 13 [.ref a] h Qc) (kn : ∀ (v9 : Option Value) (h9 : gm_H), Qc (.inl v9) h9 → gm_W E d 34 115 lv (v9.toList ++ st) h9 Q) (kx : ∀ (x9 : Nat) (h9 : gm_H), Qc (.inr x9) h9 → Q (.inr x9) h9) : gm_W E d 34 112 lv (.ref a :: st) h Q := gw_call (gn_call m34 f34_112 rfl rfl rfl rfl rfl rfl rfl (gs_virt (bs := []) (w := 889) (L := 4) rfl rfl rfl rfl hs (by simp [gm_en1]) hr (by decide)) (by decide)) m34 rfl rfl hd hc kn kx
theorem f34_115 : gm_ft 34 115 = some (.istore 4, 2) := by decide +kernel
theorem r34_115 {E : Nat → Value} {d : Nat} {st : List Value} {h : gm_H} {Q : gm_R → gm_H → Prop} {a0 a1 a2 a3 a4 a5 : Value} {x : Int32} : gm_W E d 34 115 [a0, a1, a2, a3, a4, a5] (.int x :: st) h Q ↔ gm_W E d 34 117 [a0, a1, a2, gm_k a3, .int x, a5] st h Q := gw_loc m34 f34_115 rfl rfl
theorem f34_117 : gm_ft 34 117 = some (.aload_n 0, 1) := by decide +kernel
theorem r34_117 {E : Nat → Value} {d : Nat} {st : List Value} {h : gm_H} {Q : gm_R → gm_H → Prop} {a1 a2 a3 a4 a5 : Value} {x : Nat} : gm_W E d 34 117 [.ref x, a1, a2, a3, a4, a5] st h Q ↔ gm_W E d 34 118 [.ref x, a1, a2, a3, a4, a5] (.ref x :: st) h Q := gw_loc m34 f34_117 rfl rfl
theorem r34_117n {E : Nat → Value} {d : Nat} {st : List Value} {h : gm_H} {Q : gm_R → gm_H → Prop} {a1 a2 a3 a4 a5 : Value}  : gm_W E d 34 117 [.null, a1, a2, a3, a4, a5] st h Q ↔ gm_W E d 34 118 [.null, a1, a2, a3, a4, a5] (.null :: st) h Q := gw_loc m34 f34_117 rfl rfl
theorem f34_118 : gm_ft 34 118 = some (.getfield 145, 3) := by decide +kernel
theorem r34_118 {E : Nat → Value} {d : Nat} {st : List Value} {h : gm_H} {Q : gm_R → gm_H → Prop} {lv : List Value} {a : Nat} (hk : gm_kd h a = 5) : gm_W E d 34 118 lv (.ref a :: st) h Q ↔ gm_W E d 34 121 lv (gm_fv h a 8 :: st) h Q := gw_rd m34 f34_118 rfl rfl rfl rfl (gs_get k5_145 hk (by decide))
theorem f34_121 : gm_ft 34 121 = some (.ifCond .eq 4, 3) := by decide +kernel
theorem r34_121 {E : Nat → Value} {d : Nat} {st : List Value} {h : gm_H} {Q : gm_R → gm_H → Prop} {lv : List Value} {x : Int32} : gm_W E d 34 121 lv (.int x :: st) h Q ↔ (if x = 0 then gm_W E d 34 125 lv st h Q else gm_W E d 34 124 lv st h Q) := (gw_br m34 f34_121 rfl rfl rfl rfl).trans gw_if
theorem f34_124 : gm_ft 34 124 = some (.return_, 1) := by decide +kernel
theorem r34_124 {E : Nat → Value} {d : Nat} {h : gm_H} {Q : gm_R → gm_H → Prop} {lv : List Value} : gm_W E d 34 124 lv [] h Q ↔ Q (.inl none) h := gw_ret m34 f34_124 rfl rfl rfl rfl rfl rfl rfl rfl rfl
theorem f34_125 : gm_ft 34 125 = some (.iload 4, 2) := by decide +kernel
theorem r34_125 {E : Nat → Value} {d : Nat} {st : List Value} {h : gm_H} {Q : gm_R → gm_H → Prop} {a0 a1 a2 a3 a5 : Value} {x : Int32} : gm_W E d 34 125 [a0, a1, a2, a3, .int x, a5] st h Q ↔ gm_W E d 34 127 [a0, a1, a2, a3, .int x, a5] (.int x :: st) h Q := gw_loc m34 f34_125 rfl rfl
theorem f34_127 : gm_ft 34 127 = some (.iconst 1, 1) := by decide +kernel
theorem r34_127 {E : Nat → Value} {d : Nat} {st : List Value} {h : gm_H} {Q : gm_R → gm_H → Prop} {lv : List Value} : gm_W E d 34 127 lv st h Q ↔ gm_W E d 34 128 lv (.int (1 : Int32) :: st) h Q := gw_pure m34 f34_127 rfl
theorem f34_128 : gm_ft 34 128 = some (.if_icmp .ne 20, 3) := by decide +kernel
theorem r34_128 {E : Nat → Value} {d : Nat} {st : List Value} {h : gm_H} {Q : gm_R → gm_H → Prop} {lv : List Value} {x y : Int32} : gm_W E d 34 128 lv (.int y :: .int x :: st) h Q ↔ (if x = y then gm_W E d 34 131 lv st h Q else gm_W E d 34 148 lv st h Q) := (gw_br m34 f34_128 rfl rfl rfl rfl).trans gw_ifn
theorem f34_131 : gm_ft 34 131 = some (.aload_n 0, 1) := by decide +kernel
theorem r34_131 {E : Nat → Value} {d : Nat} {st : List Value} {h : gm_H} {Q : gm_R → gm_H → Prop} {a1 a2 a3 a4 a5 : Value} {x : Nat} : gm_W E d 34 131 [.ref x, a1, a2, a3, a4, a5] st h Q ↔ gm_W E d 34 132 [.ref x, a1, a2, a3, a4, a5] (.ref x :: st) h Q := gw_loc m34 f34_131 rfl rfl
theorem r34_131n {E : Nat → Value} {d : Nat} {st : List Value} {h : gm_H} {Q : gm_R → gm_H → Prop} {a1 a2 a3 a4 a5 : Value}  : gm_W E d 34 131 [.null, a1, a2, a3, a4, a5] st h Q ↔ gm_W E d 34 132 [.null, a1, a2, a3, a4, a5] (.null :: st) h Q := gw_loc m34 f34_131 rfl rfl
theorem f34_132 : gm_ft 34 132 = some (.getfield 7, 3) := by decide +kernel
theorem r34_132 {E : Nat → Value} {d : Nat} {st : List Value} {h : gm_H} {Q : gm_R → gm_H → Prop} {lv : List Value} {a : Nat} (hk : gm_kd h a = 5) : gm_W E d 34 132 lv (.ref a :: st) h Q ↔ gm_W E d 34 135 lv (gm_fv h a 4 :: st) h Q := gw_rd m34 f34_132 rfl rfl rfl rfl (gs_get k5_7 hk (by decide))
theorem f34_135 : gm_ft 34 135 = some (.aload_n 0, 1) := by decide +kernel
theorem r34_135 {E : Nat → Value} {d : Nat} {st : List Value} {h : gm_H} {Q : gm_R → gm_H → Prop} {a1 a2 a3 a4 a5 : Value} {x : Nat} : gm_W E d 34 135 [.ref x, a1, a2, a3, a4, a5] st h Q ↔ gm_W E d 34 136 [.ref x, a1, a2, a3, a4, a5] (.ref x :: st) h Q := gw_loc m34 f34_135 rfl rfl
theorem r34_135n {E : Nat → Value} {d : Nat} {st : List Value} {h : gm_H} {Q : gm_R → gm_H → Prop} {a1 a2 a3 a4 a5 : Value}  : gm_W E d 34 135 [.null, a1, a2, a3, a4, a5] st h Q ↔ gm_W E d 34 136 [.null, a1, a2, a3, a4, a5] (.null :: st) h Q := gw_loc m34 f34_135 rfl rfl
theorem f34_136 : gm_ft 34 136 = some (.getfield 148, 3) := by decide +kernel
theorem r34_136 {E : Nat → Value} {d : Nat} {st : List Value} {h : gm_H} {Q : gm_R → gm_H → Prop} {lv : List Value} {a : Nat} (hk : gm_kd h a = 5) : gm_W E d 34 136 lv (.ref a :: st) h Q ↔ gm_W E d 34 139 lv (gm_fv h a 6 :: st) h Q := gw_rd m34 f34_136 rfl rfl rfl rfl (gs_get k5_148 hk (by decide))
theorem f34_139 : gm_ft 34 139 = some (.iconst 1, 1) := by decide +kernel
theorem r34_139 {E : Nat → Value} {d : Nat} {st : List Value} {h : gm_H} {Q : gm_R → gm_H → Prop} {lv : List Value} : gm_W E d 34 139 lv st h Q ↔ gm_W E d 34 140 lv (.int (1 : Int32) :: st) h Q := gw_pure m34 f34_139 rfl
theorem f34_140 : gm_ft 34 140 = some (.isub, 1) := by decide +kernel
theorem r34_140 {E : Nat → Value} {d : Nat} {st : List Value} {h : gm_H} {Q : gm_R → gm_H → Prop} {lv : List Value} {x y : Int32} : gm_W E d 34 140 lv (.int y :: .int x :: st) h Q ↔ gm_W E d 34 141 lv (.int (x - y) :: st) h Q := gw_pure m34 f34_140 rfl
theorem f34_141 : gm_ft 34 141 = some (.iaload, 1) := by decide +kernel
theorem r34_141 {E : Nat → Value} {d : Nat} {st : List Value} {h : gm_H} {Q : gm_R → gm_H → Prop} {lv : List Value} {a j : Nat} (hk : gm_kd h a % 100 = 0 ∧ 100 ≤ gm_kd h a ∧ gm_kd h a < 900) (hj : j < gm_ln h a) (hl : gm_ln h a < 2 ^ 31) : gm_W E d 34 141 lv (.int (nI j) :: .ref a :: st) h Q ↔ gm_W E d 34 142 lv (gm_fv h a j :: st) h Q := gw_rd m34 f34_141 rfl rfl rfl rfl (gs_ld (P := fun t => t == 0) hk.2 (by have := hk.1; simp [this] <;> omega) hj hl)
theorem f34_142 : gm_ft 34 142 = some (.bipush 97, 2) := by decide +kernel
theorem r34_142 {E : Nat → Value} {d : Nat} {st : List Value} {h : gm_H} {Q : gm_R → gm_H → Prop} {lv : List Value} : gm_W E d 34 142 lv st h Q ↔ gm_W E d 34 144 lv (.int (97 : Int32) :: st) h Q := gw_pure m34 f34_142 rfl
theorem f34_144 : gm_ft 34 144 = some (.isub, 1) := by decide +kernel
theorem r34_144 {E : Nat → Value} {d : Nat} {st : List Value} {h : gm_H} {Q : gm_R → gm_H → Prop} {lv : List Value} {x y : Int32} : gm_W E d 34 144 lv (.int y :: .int x :: st) h Q ↔ gm_W E d 34 145 lv (.int (x - y) :: st) h Q := gw_pure m34 f34_144 rfl
theorem f34_145 : gm_ft 34 145 = some (.goto 4, 3) := by decide +kernel
theorem r34_145 {E : Nat → Value} {d : Nat} {st : List Value} {h : gm_H} {Q : gm_R → gm_H → Prop} {lv : List Value} : gm_W E d 34 145 lv st h Q ↔ gm_W E d 34 149 lv st h Q := gw_brT m34 f34_145 rfl rfl rfl rfl
theorem f34_148 : gm_ft 34 148 = some (.iconst (-1), 1) := by decide +kernel
theorem r34_148 {E : Nat → Value} {d : Nat} {st : List Value} {h : gm_H} {Q : gm_R → gm_H → Prop} {lv : List Value} : gm_W E d 34 148 lv st h Q ↔ gm_W E d 34 149 lv (.int (-1 : Int32) :: st) h Q := gw_pure m34 f34_148 rfl
theorem f34_149 : gm_ft 34 149 = some (.istore 5, 2) := by decide +kernel
theorem r34_149 {E : Nat → Value} {d : Nat} {st : List Value} {h : gm_H} {Q : gm_R → gm_H → Prop} {a0 a1 a2 a3 a4 a5 : Value} {x : Int32} : gm_W E d 34 149 [a0, a1, a2, a3, a4, a5] (.int x :: st) h Q ↔ gm_W E d 34 151 [a0, a1, a2, a3, gm_k a4, .int x] st h Q := gw_loc m34 f34_149 rfl rfl
theorem f34_151 : gm_ft 34 151 = some (.aload_n 0, 1) := by decide +kernel
theorem r34_151 {E : Nat → Value} {d : Nat} {st : List Value} {h : gm_H} {Q : gm_R → gm_H → Prop} {a1 a2 a3 a4 a5 : Value} {x : Nat} : gm_W E d 34 151 [.ref x, a1, a2, a3, a4, a5] st h Q ↔ gm_W E d 34 152 [.ref x, a1, a2, a3, a4, a5] (.ref x :: st) h Q := gw_loc m34 f34_151 rfl rfl
theorem r34_151n {E : Nat → Value} {d : Nat} {st : List Value} {h : gm_H} {Q : gm_R → gm_H → Prop} {a1 a2 a3 a4 a5 : Value}  : gm_W E d 34 151 [.null, a1, a2, a3, a4, a5] st h Q ↔ gm_W E d 34 152 [.null, a1, a2, a3, a4, a5] (.null :: st) h Q := gw_loc m34 f34_151 rfl rfl
theorem f34_152 : gm_ft 34 152 = some (.getfield 84, 3) := by decide +kernel
theorem r34_152 {E : Nat → Value} {d : Nat} {st : List Value} {h : gm_H} {Q : gm_R → gm_H → Prop} {lv : List Value} {a : Nat} (hk : gm_kd h a = 5) : gm_W E d 34 152 lv (.ref a :: st) h Q ↔ gm_W E d 34 155 lv (gm_fv h a 36 :: st) h Q := gw_rd m34 f34_152 rfl rfl rfl rfl (gs_get k5_84 hk (by decide))
theorem f34_155 : gm_ft 34 155 = some (.bipush 8, 2) := by decide +kernel
theorem r34_155 {E : Nat → Value} {d : Nat} {st : List Value} {h : gm_H} {Q : gm_R → gm_H → Prop} {lv : List Value} : gm_W E d 34 155 lv st h Q ↔ gm_W E d 34 157 lv (.int (8 : Int32) :: st) h Q := gw_pure m34 f34_155 rfl
theorem f34_157 : gm_ft 34 157 = some (.iload_n 2, 1) := by decide +kernel
theorem r34_157 {E : Nat → Value} {d : Nat} {st : List Value} {h : gm_H} {Q : gm_R → gm_H → Prop} {a0 a1 a3 a4 a5 : Value} {x : Int32} : gm_W E d 34 157 [a0, a1, .int x, a3, a4, a5] st h Q ↔ gm_W E d 34 158 [a0, a1, .int x, a3, a4, a5] (.int x :: st) h Q := gw_loc m34 f34_157 rfl rfl
theorem f34_158 : gm_ft 34 158 = some (.imul, 1) := by decide +kernel
theorem r34_158 {E : Nat → Value} {d : Nat} {st : List Value} {h : gm_H} {Q : gm_R → gm_H → Prop} {lv : List Value} {x y : Int32} : gm_W E d 34 158 lv (.int y :: .int x :: st) h Q ↔ gm_W E d 34 159 lv (.int (x * y) :: st) h Q := gw_pure m34 f34_158 rfl
theorem f34_159 : gm_ft 34 159 = some (.aload_n 0, 1) := by decide +kernel
theorem r34_159 {E : Nat → Value} {d : Nat} {st : List Value} {h : gm_H} {Q : gm_R → gm_H → Prop} {a1 a2 a3 a4 a5 : Value} {x : Nat} : gm_W E d 34 159 [.ref x, a1, a2, a3, a4, a5] st h Q ↔ gm_W E d 34 160 [.ref x, a1, a2, a3, a4, a5] (.ref x :: st) h Q := gw_loc m34 f34_159 rfl rfl
theorem r34_159n {E : Nat → Value} {d : Nat} {st : List Value} {h : gm_H} {Q : gm_R → gm_H → Prop} {a1 a2 a3 a4 a5 : Value}  : gm_W E d 34 159 [.null, a1, a2, a3, a4, a5] st h Q ↔ gm_W E d 34 160 [.null, a1, a2, a3, a4, a5] (.null :: st) h Q := gw_loc m34 f34_159 rfl rfl
theorem f34_160 : gm_ft 34 160 = some (.getfield 108, 3) := by decide +kernel
theorem r34_160 {E : Nat → Value} {d : Nat} {st : List Value} {h : gm_H} {Q : gm_R → gm_H → Prop} {lv : List Value} {a : Nat} (hk : gm_kd h a = 5) : gm_W E d 34 160 lv (.ref a :: st) h Q ↔ gm_W E d 34 163 lv (gm_fv h a 45 :: st) h Q := gw_rd m34 f34_160 rfl rfl rfl rfl (gs_get k5_108 hk (by decide))
theorem f34_163 : gm_ft 34 163 = some (.iload_n 1, 1) := by decide +kernel
theorem r34_163 {E : Nat → Value} {d : Nat} {st : List Value} {h : gm_H} {Q : gm_R → gm_H → Prop} {a0 a2 a3 a4 a5 : Value} {x : Int32} : gm_W E d 34 163 [a0, .int x, a2, a3, a4, a5] st h Q ↔ gm_W E d 34 164 [a0, .int x, a2, a3, a4, a5] (.int x :: st) h Q := gw_loc m34 f34_163 rfl rfl
theorem f34_164 : gm_ft 34 164 = some (.iaload, 1) := by decide +kernel
theorem r34_164 {E : Nat → Value} {d : Nat} {st : List Value} {h : gm_H} {Q : gm_R → gm_H → Prop} {lv : List Value} {a j : Nat} (hk : gm_kd h a % 100 = 0 ∧ 100 ≤ gm_kd h a ∧ gm_kd h a < 900) (hj : j < gm_ln h a) (hl : gm_ln h a < 2 ^ 31) : gm_W E d 34 164 lv (.int (nI j) :: .ref a :: st) h Q ↔ gm_W E d 34 165 lv (gm_fv h a j :: st) h Q := gw_rd m34 f34_164 rfl rfl rfl rfl (gs_ld (P := fun t => t == 0) hk.2 (by have := hk.1; simp [this] <;> omega) hj hl)
theorem f34_165 : gm_ft 34 165 = some (.iadd, 1) := by decide +kernel
theorem r34_165 {E : Nat → Value} {d : Nat} {st : List Value} {h : gm_H} {Q : gm_R → gm_H → Prop} {lv : List Value} {x y : Int32} : gm_W E d 34 165 lv (.int y :: .int x :: st) h Q ↔ gm_W E d 34 166 lv (.int (x + y) :: st) h Q := gw_pure m34 f34_165 rfl
theorem f34_166 : gm_ft 34 166 = some (.aload_n 0, 1) := by decide +kernel
theorem r34_166 {E : Nat → Value} {d : Nat} {st : List Value} {h : gm_H} {Q : gm_R → gm_H → Prop} {a1 a2 a3 a4 a5 : Value} {x : Nat} : gm_W E d 34 166 [.ref x, a1, a2, a3, a4, a5] st h Q ↔ gm_W E d 34 167 [.ref x, a1, a2, a3, a4, a5] (.ref x :: st) h Q := gw_loc m34 f34_166 rfl rfl
theorem r34_166n {E : Nat → Value} {d : Nat} {st : List Value} {h : gm_H} {Q : gm_R → gm_H → Prop} {a1 a2 a3 a4 a5 : Value}  : gm_W E d 34 166 [.null, a1, a2, a3, a4, a5] st h Q ↔ gm_W E d 34 167 [.null, a1, a2, a3, a4, a5] (.null :: st) h Q := gw_loc m34 f34_166 rfl rfl
theorem f34_167 : gm_ft 34 167 = some (.iload 5, 2) := by decide +kernel
theorem r34_167 {E : Nat → Value} {d : Nat} {st : List Value} {h : gm_H} {Q : gm_R → gm_H → Prop} {a0 a1 a2 a3 a4 : Value} {x : Int32} : gm_W E d 34 167 [a0, a1, a2, a3, a4, .int x] st h Q ↔ gm_W E d 34 169 [a0, a1, a2, a3, a4, .int x] (.int x :: st) h Q := gw_loc m34 f34_167 rfl rfl
theorem f34_169 : gm_ft 34 169 = some (.bipush 26, 2) := by decide +kernel
theorem r34_169 {E : Nat → Value} {d : Nat} {st : List Value} {h : gm_H} {Q : gm_R → gm_H → Prop} {lv : List Value} : gm_W E d 34 169 lv st h Q ↔ gm_W E d 34 171 lv (.int (26 : Int32) :: st) h Q := gw_pure m34 f34_169 rfl
theorem f34_171 : gm_ft 34 171 = some (.invokevirtual 131, 3) := by decide +kernel
theorem c34_171 {E : Nat → Value} {d : Nat} {st : List Value} {h : gm_H} {Q : gm_R → gm_H → Prop} {lv : List Value} {b0 : Int32} {b1 : Int32} {a : Nat} {Qc : gm_R → gm_H → Prop} (hs : (st.map fun v => v.category).sum ≤ 8) (hr : gm_kd h a = 5) (hd : 1 ≤ d) (hc : gm_Ca E (d - 1) 4 [.ref a, .int b0, .int b1] h Qc) (kn : ∀ (v9 : Option Value) (h9 : gm_H), Qc (.inl v9) h9 → gm_W E d 34 174 lv (v9.toList ++ st) h9 Q) (kx : ∀ (x9 : Nat) (h9 : gm_H), Qc (.inr x9) h9 → Q (.inr x9) h9) : gm_W E d 34 171 lv (.int b1 :: .int b0 :: .ref a :: st) h Q := gw_call (gn_call m34 f34_171 rfl rfl rfl rfl rfl rfl rfl (gs_virt (bs := [.int b1, .int b0]) (w := 820) (L := 3) rfl rfl rfl rfl hs (by simp [gm_en1]) hr (by decide)) (by decide)) m34 rfl rfl hd hc kn kx
theorem f34_174 : gm_ft 34 174 = some (.ifCond .eq 7, 3) := by decide +kernel
theorem r34_174 {E : Nat → Value} {d : Nat} {st : List Value} {h : gm_H} {Q : gm_R → gm_H → Prop} {lv : List Value} {x : Int32} : gm_W E d 34 174 lv (.int x :: st) h Q ↔ (if x = 0 then gm_W E d 34 181 lv st h Q else gm_W E d 34 177 lv st h Q) := (gw_br m34 f34_174 rfl rfl rfl rfl).trans gw_if
theorem f34_177 : gm_ft 34 177 = some (.iconst (-1), 1) := by decide +kernel
theorem r34_177 {E : Nat → Value} {d : Nat} {st : List Value} {h : gm_H} {Q : gm_R → gm_H → Prop} {lv : List Value} : gm_W E d 34 177 lv st h Q ↔ gm_W E d 34 178 lv (.int (-1 : Int32) :: st) h Q := gw_pure m34 f34_177 rfl
theorem f34_178 : gm_ft 34 178 = some (.goto 5, 3) := by decide +kernel
theorem r34_178 {E : Nat → Value} {d : Nat} {st : List Value} {h : gm_H} {Q : gm_R → gm_H → Prop} {lv : List Value} : gm_W E d 34 178 lv st h Q ↔ gm_W E d 34 183 lv st h Q := gw_brT m34 f34_178 rfl rfl rfl rfl
theorem f34_181 : gm_ft 34 181 = some (.iload 5, 2) := by decide +kernel
theorem r34_181 {E : Nat → Value} {d : Nat} {st : List Value} {h : gm_H} {Q : gm_R → gm_H → Prop} {a0 a1 a2 a3 a4 : Value} {x : Int32} : gm_W E d 34 181 [a0, a1, a2, a3, a4, .int x] st h Q ↔ gm_W E d 34 183 [a0, a1, a2, a3, a4, .int x] (.int x :: st) h Q := gw_loc m34 f34_181 rfl rfl
theorem f34_183 : gm_ft 34 183 = some (.iastore, 1) := by decide +kernel
theorem r34_183 {E : Nat → Value} {d : Nat} {st : List Value} {h : gm_H} {Q : gm_R → gm_H → Prop} {lv : List Value} {a j : Nat} {x : Int32} (hk : gm_kd h a = 200) (hj : j < gm_ln h a) (hl : gm_ln h a < 2 ^ 31) : gm_W E d 34 183 lv (.int x :: .int (nI j) :: .ref a :: st) h Q ↔ gm_W E d 34 184 lv st (gm_sf h a j (.int x)) Q := gw_wr m34 f34_183 rfl rfl rfl rfl rfl (gs_st hk (by decide) hj hl)
theorem f34_184 : gm_ft 34 184 = some (.aload_n 0, 1) := by decide +kernel
theorem r34_184 {E : Nat → Value} {d : Nat} {st : List Value} {h : gm_H} {Q : gm_R → gm_H → Prop} {a1 a2 a3 a4 a5 : Value} {x : Nat} : gm_W E d 34 184 [.ref x, a1, a2, a3, a4, a5] st h Q ↔ gm_W E d 34 185 [.ref x, a1, a2, a3, a4, a5] (.ref x :: st) h Q := gw_loc m34 f34_184 rfl rfl
theorem r34_184n {E : Nat → Value} {d : Nat} {st : List Value} {h : gm_H} {Q : gm_R → gm_H → Prop} {a1 a2 a3 a4 a5 : Value}  : gm_W E d 34 184 [.null, a1, a2, a3, a4, a5] st h Q ↔ gm_W E d 34 185 [.null, a1, a2, a3, a4, a5] (.null :: st) h Q := gw_loc m34 f34_184 rfl rfl
theorem f34_185 : gm_ft 34 185 = some (.getfield 87, 3) := by decide +kernel
theorem r34_185 {E : Nat → Value} {d : Nat} {st : List Value} {h : gm_H} {Q : gm_R → gm_H → Prop} {lv : List Value} {a : Nat} (hk : gm_kd h a = 5) : gm_W E d 34 185 lv (.ref a :: st) h Q ↔ gm_W E d 34 188 lv (gm_fv h a 37 :: st) h Q := gw_rd m34 f34_185 rfl rfl rfl rfl (gs_get k5_87 hk (by decide))
theorem f34_188 : gm_ft 34 188 = some (.bipush 8, 2) := by decide +kernel
theorem r34_188 {E : Nat → Value} {d : Nat} {st : List Value} {h : gm_H} {Q : gm_R → gm_H → Prop} {lv : List Value} : gm_W E d 34 188 lv st h Q ↔ gm_W E d 34 190 lv (.int (8 : Int32) :: st) h Q := gw_pure m34 f34_188 rfl
theorem f34_190 : gm_ft 34 190 = some (.iload_n 2, 1) := by decide +kernel
theorem r34_190 {E : Nat → Value} {d : Nat} {st : List Value} {h : gm_H} {Q : gm_R → gm_H → Prop} {a0 a1 a3 a4 a5 : Value} {x : Int32} : gm_W E d 34 190 [a0, a1, .int x, a3, a4, a5] st h Q ↔ gm_W E d 34 191 [a0, a1, .int x, a3, a4, a5] (.int x :: st) h Q := gw_loc m34 f34_190 rfl rfl
theorem f34_191 : gm_ft 34 191 = some (.imul, 1) := by decide +kernel
theorem r34_191 {E : Nat → Value} {d : Nat} {st : List Value} {h : gm_H} {Q : gm_R → gm_H → Prop} {lv : List Value} {x y : Int32} : gm_W E d 34 191 lv (.int y :: .int x :: st) h Q ↔ gm_W E d 34 192 lv (.int (x * y) :: st) h Q := gw_pure m34 f34_191 rfl
theorem f34_192 : gm_ft 34 192 = some (.aload_n 0, 1) := by decide +kernel
theorem r34_192 {E : Nat → Value} {d : Nat} {st : List Value} {h : gm_H} {Q : gm_R → gm_H → Prop} {a1 a2 a3 a4 a5 : Value} {x : Nat} : gm_W E d 34 192 [.ref x, a1, a2, a3, a4, a5] st h Q ↔ gm_W E d 34 193 [.ref x, a1, a2, a3, a4, a5] (.ref x :: st) h Q := gw_loc m34 f34_192 rfl rfl
theorem r34_192n {E : Nat → Value} {d : Nat} {st : List Value} {h : gm_H} {Q : gm_R → gm_H → Prop} {a1 a2 a3 a4 a5 : Value}  : gm_W E d 34 192 [.null, a1, a2, a3, a4, a5] st h Q ↔ gm_W E d 34 193 [.null, a1, a2, a3, a4, a5] (.null :: st) h Q := gw_loc m34 f34_192 rfl rfl
theorem f34_193 : gm_ft 34 193 = some (.getfield 108, 3) := by decide +kernel
theorem r34_193 {E : Nat → Value} {d : Nat} {st : List Value} {h : gm_H} {Q : gm_R → gm_H → Prop} {lv : List Value} {a : Nat} (hk : gm_kd h a = 5) : gm_W E d 34 193 lv (.ref a :: st) h Q ↔ gm_W E d 34 196 lv (gm_fv h a 45 :: st) h Q := gw_rd m34 f34_193 rfl rfl rfl rfl (gs_get k5_108 hk (by decide))
theorem f34_196 : gm_ft 34 196 = some (.iload_n 1, 1) := by decide +kernel
theorem r34_196 {E : Nat → Value} {d : Nat} {st : List Value} {h : gm_H} {Q : gm_R → gm_H → Prop} {a0 a2 a3 a4 a5 : Value} {x : Int32} : gm_W E d 34 196 [a0, .int x, a2, a3, a4, a5] st h Q ↔ gm_W E d 34 197 [a0, .int x, a2, a3, a4, a5] (.int x :: st) h Q := gw_loc m34 f34_196 rfl rfl
theorem f34_197 : gm_ft 34 197 = some (.iaload, 1) := by decide +kernel
theorem r34_197 {E : Nat → Value} {d : Nat} {st : List Value} {h : gm_H} {Q : gm_R → gm_H → Prop} {lv : List Value} {a j : Nat} (hk : gm_kd h a % 100 = 0 ∧ 100 ≤ gm_kd h a ∧ gm_kd h a < 900) (hj : j < gm_ln h a) (hl : gm_ln h a < 2 ^ 31) : gm_W E d 34 197 lv (.int (nI j) :: .ref a :: st) h Q ↔ gm_W E d 34 198 lv (gm_fv h a j :: st) h Q := gw_rd m34 f34_197 rfl rfl rfl rfl (gs_ld (P := fun t => t == 0) hk.2 (by have := hk.1; simp [this] <;> omega) hj hl)
theorem f34_198 : gm_ft 34 198 = some (.iadd, 1) := by decide +kernel
theorem r34_198 {E : Nat → Value} {d : Nat} {st : List Value} {h : gm_H} {Q : gm_R → gm_H → Prop} {lv : List Value} {x y : Int32} : gm_W E d 34 198 lv (.int y :: .int x :: st) h Q ↔ gm_W E d 34 199 lv (.int (x + y) :: st) h Q := gw_pure m34 f34_198 rfl
theorem f34_199 : gm_ft 34 199 = some (.iload_n 3, 1) := by decide +kernel
theorem r34_199 {E : Nat → Value} {d : Nat} {st : List Value} {h : gm_H} {Q : gm_R → gm_H → Prop} {a0 a1 a2 a4 a5 : Value} {x : Int32} : gm_W E d 34 199 [a0, a1, a2, .int x, a4, a5] st h Q ↔ gm_W E d 34 200 [a0, a1, a2, .int x, a4, a5] (.int x :: st) h Q := gw_loc m34 f34_199 rfl rfl
theorem f34_200 : gm_ft 34 200 = some (.iastore, 1) := by decide +kernel
theorem r34_200 {E : Nat → Value} {d : Nat} {st : List Value} {h : gm_H} {Q : gm_R → gm_H → Prop} {lv : List Value} {a j : Nat} {x : Int32} (hk : gm_kd h a = 200) (hj : j < gm_ln h a) (hl : gm_ln h a < 2 ^ 31) : gm_W E d 34 200 lv (.int x :: .int (nI j) :: .ref a :: st) h Q ↔ gm_W E d 34 201 lv st (gm_sf h a j (.int x)) Q := gw_wr m34 f34_200 rfl rfl rfl rfl rfl (gs_st hk (by decide) hj hl)
theorem f34_201 : gm_ft 34 201 = some (.aload_n 0, 1) := by decide +kernel
theorem r34_201 {E : Nat → Value} {d : Nat} {st : List Value} {h : gm_H} {Q : gm_R → gm_H → Prop} {a1 a2 a3 a4 a5 : Value} {x : Nat} : gm_W E d 34 201 [.ref x, a1, a2, a3, a4, a5] st h Q ↔ gm_W E d 34 202 [.ref x, a1, a2, a3, a4, a5] (.ref x :: st) h Q := gw_loc m34 f34_201 rfl rfl
theorem r34_201n {E : Nat → Value} {d : Nat} {st : List Value} {h : gm_H} {Q : gm_R → gm_H → Prop} {a1 a2 a3 a4 a5 : Value}  : gm_W E d 34 201 [.null, a1, a2, a3, a4, a5] st h Q ↔ gm_W E d 34 202 [.null, a1, a2, a3, a4, a5] (.null :: st) h Q := gw_loc m34 f34_201 rfl rfl
theorem f34_202 : gm_ft 34 202 = some (.getfield 108, 3) := by decide +kernel
theorem r34_202 {E : Nat → Value} {d : Nat} {st : List Value} {h : gm_H} {Q : gm_R → gm_H → Prop} {lv : List Value} {a : Nat} (hk : gm_kd h a = 5) : gm_W E d 34 202 lv (.ref a :: st) h Q ↔ gm_W E d 34 205 lv (gm_fv h a 45 :: st) h Q := gw_rd m34 f34_202 rfl rfl rfl rfl (gs_get k5_108 hk (by decide))
theorem f34_205 : gm_ft 34 205 = some (.iload_n 1, 1) := by decide +kernel
theorem r34_205 {E : Nat → Value} {d : Nat} {st : List Value} {h : gm_H} {Q : gm_R → gm_H → Prop} {a0 a2 a3 a4 a5 : Value} {x : Int32} : gm_W E d 34 205 [a0, .int x, a2, a3, a4, a5] st h Q ↔ gm_W E d 34 206 [a0, .int x, a2, a3, a4, a5] (.int x :: st) h Q := gw_loc m34 f34_205 rfl rfl
theorem f34_206 : gm_ft 34 206 = some (.dup2, 1) := by decide +kernel
theorem r34_206 {E : Nat → Value} {d : Nat} {st : List Value} {h : gm_H} {Q : gm_R → gm_H → Prop} {lv : List Value} {x : Int32} {a : Nat} : gm_W E d 34 206 lv (.int x :: .ref a :: st) h Q ↔ gm_W E d 34 207 lv (.int x :: .ref a :: .int x :: .ref a :: st) h Q := gw_pure m34 f34_206 rfl
theorem f34_207 : gm_ft 34 207 = some (.iaload, 1) := by decide +kernel
theorem r34_207 {E : Nat → Value} {d : Nat} {st : List Value} {h : gm_H} {Q : gm_R → gm_H → Prop} {lv : List Value} {a j : Nat} (hk : gm_kd h a % 100 = 0 ∧ 100 ≤ gm_kd h a ∧ gm_kd h a < 900) (hj : j < gm_ln h a) (hl : gm_ln h a < 2 ^ 31) : gm_W E d 34 207 lv (.int (nI j) :: .ref a :: st) h Q ↔ gm_W E d 34 208 lv (gm_fv h a j :: st) h Q := gw_rd m34 f34_207 rfl rfl rfl rfl (gs_ld (P := fun t => t == 0) hk.2 (by have := hk.1; simp [this] <;> omega) hj hl)
theorem f34_208 : gm_ft 34 208 = some (.iconst 1, 1) := by decide +kernel
theorem r34_208 {E : Nat → Value} {d : Nat} {st : List Value} {h : gm_H} {Q : gm_R → gm_H → Prop} {lv : List Value} : gm_W E d 34 208 lv st h Q ↔ gm_W E d 34 209 lv (.int (1 : Int32) :: st) h Q := gw_pure m34 f34_208 rfl
theorem f34_209 : gm_ft 34 209 = some (.iadd, 1) := by decide +kernel
theorem r34_209 {E : Nat → Value} {d : Nat} {st : List Value} {h : gm_H} {Q : gm_R → gm_H → Prop} {lv : List Value} {x y : Int32} : gm_W E d 34 209 lv (.int y :: .int x :: st) h Q ↔ gm_W E d 34 210 lv (.int (x + y) :: st) h Q := gw_pure m34 f34_209 rfl
theorem f34_210 : gm_ft 34 210 = some (.iastore, 1) := by decide +kernel
theorem r34_210 {E : Nat → Value} {d : Nat} {st : List Value} {h : gm_H} {Q : gm_R → gm_H → Prop} {lv : List Value} {a j : Nat} {x : Int32} (hk : gm_kd h a = 200) (hj : j < gm_ln h a) (hl : gm_ln h a < 2 ^ 31) : gm_W E d 34 210 lv (.int x :: .int (nI j) :: .ref a :: st) h Q ↔ gm_W E d 34 211 lv st (gm_sf h a j (.int x)) Q := gw_wr m34 f34_210 rfl rfl rfl rfl rfl (gs_st hk (by decide) hj hl)
theorem f34_211 : gm_ft 34 211 = some (.iload_n 3, 1) := by decide +kernel
theorem r34_211 {E : Nat → Value} {d : Nat} {st : List Value} {h : gm_H} {Q : gm_R → gm_H → Prop} {a0 a1 a2 a4 a5 : Value} {x : Int32} : gm_W E d 34 211 [a0, a1, a2, .int x, a4, a5] st h Q ↔ gm_W E d 34 212 [a0, a1, a2, .int x, a4, a5] (.int x :: st) h Q := gw_loc m34 f34_211 rfl rfl
theorem f34_212 : gm_ft 34 212 = some (.iconst 5, 1) := by decide +kernel
theorem r34_212 {E : Nat → Value} {d : Nat} {st : List Value} {h : gm_H} {Q : gm_R → gm_H → Prop} {lv : List Value} : gm_W E d 34 212 lv st h Q ↔ gm_W E d 34 213 lv (.int (5 : Int32) :: st) h Q := gw_pure m34 f34_212 rfl
theorem f34_213 : gm_ft 34 213 = some (.if_icmp .le 25, 3) := by decide +kernel
theorem r34_213 {E : Nat → Value} {d : Nat} {st : List Value} {h : gm_H} {Q : gm_R → gm_H → Prop} {lv : List Value} {x y : Int32} : gm_W E d 34 213 lv (.int y :: .int x :: st) h Q ↔ (if x ≤ y then gm_W E d 34 238 lv st h Q else gm_W E d 34 216 lv st h Q) := (gw_br m34 f34_213 rfl rfl rfl rfl).trans gw_if
theorem f34_216 : gm_ft 34 216 = some (.aload_n 0, 1) := by decide +kernel
theorem r34_216 {E : Nat → Value} {d : Nat} {st : List Value} {h : gm_H} {Q : gm_R → gm_H → Prop} {a1 a2 a3 a4 a5 : Value} {x : Nat} : gm_W E d 34 216 [.ref x, a1, a2, a3, a4, a5] st h Q ↔ gm_W E d 34 217 [.ref x, a1, a2, a3, a4, a5] (.ref x :: st) h Q := gw_loc m34 f34_216 rfl rfl
theorem r34_216n {E : Nat → Value} {d : Nat} {st : List Value} {h : gm_H} {Q : gm_R → gm_H → Prop} {a1 a2 a3 a4 a5 : Value}  : gm_W E d 34 216 [.null, a1, a2, a3, a4, a5] st h Q ↔ gm_W E d 34 217 [.null, a1, a2, a3, a4, a5] (.null :: st) h Q := gw_loc m34 f34_216 rfl rfl
theorem f34_217 : gm_ft 34 217 = some (.getfield 96, 3) := by decide +kernel
theorem r34_217 {E : Nat → Value} {d : Nat} {st : List Value} {h : gm_H} {Q : gm_R → gm_H → Prop} {lv : List Value} {a : Nat} (hk : gm_kd h a = 5) : gm_W E d 34 217 lv (.ref a :: st) h Q ↔ gm_W E d 34 220 lv (gm_fv h a 41 :: st) h Q := gw_rd m34 f34_217 rfl rfl rfl rfl (gs_get k5_96 hk (by decide))
theorem f34_220 : gm_ft 34 220 = some (.iload_n 1, 1) := by decide +kernel
theorem r34_220 {E : Nat → Value} {d : Nat} {st : List Value} {h : gm_H} {Q : gm_R → gm_H → Prop} {a0 a2 a3 a4 a5 : Value} {x : Int32} : gm_W E d 34 220 [a0, .int x, a2, a3, a4, a5] st h Q ↔ gm_W E d 34 221 [a0, .int x, a2, a3, a4, a5] (.int x :: st) h Q := gw_loc m34 f34_220 rfl rfl
theorem f34_221 : gm_ft 34 221 = some (.iconst 2, 1) := by decide +kernel
theorem r34_221 {E : Nat → Value} {d : Nat} {st : List Value} {h : gm_H} {Q : gm_R → gm_H → Prop} {lv : List Value} : gm_W E d 34 221 lv st h Q ↔ gm_W E d 34 222 lv (.int (2 : Int32) :: st) h Q := gw_pure m34 f34_221 rfl
theorem f34_222 : gm_ft 34 222 = some (.iastore, 1) := by decide +kernel
theorem r34_222 {E : Nat → Value} {d : Nat} {st : List Value} {h : gm_H} {Q : gm_R → gm_H → Prop} {lv : List Value} {a j : Nat} {x : Int32} (hk : gm_kd h a = 200) (hj : j < gm_ln h a) (hl : gm_ln h a < 2 ^ 31) : gm_W E d 34 222 lv (.int x :: .int (nI j) :: .ref a :: st) h Q ↔ gm_W E d 34 223 lv st (gm_sf h a j (.int x)) Q := gw_wr m34 f34_222 rfl rfl rfl rfl rfl (gs_st hk (by decide) hj hl)
theorem f34_223 : gm_ft 34 223 = some (.aload_n 0, 1) := by decide +kernel
theorem r34_223 {E : Nat → Value} {d : Nat} {st : List Value} {h : gm_H} {Q : gm_R → gm_H → Prop} {a1 a2 a3 a4 a5 : Value} {x : Nat} : gm_W E d 34 223 [.ref x, a1, a2, a3, a4, a5] st h Q ↔ gm_W E d 34 224 [.ref x, a1, a2, a3, a4, a5] (.ref x :: st) h Q := gw_loc m34 f34_223 rfl rfl
theorem r34_223n {E : Nat → Value} {d : Nat} {st : List Value} {h : gm_H} {Q : gm_R → gm_H → Prop} {a1 a2 a3 a4 a5 : Value}  : gm_W E d 34 223 [.null, a1, a2, a3, a4, a5] st h Q ↔ gm_W E d 34 224 [.null, a1, a2, a3, a4, a5] (.null :: st) h Q := gw_loc m34 f34_223 rfl rfl
theorem f34_224 : gm_ft 34 224 = some (.iconst 1, 1) := by decide +kernel
theorem r34_224 {E : Nat → Value} {d : Nat} {st : List Value} {h : gm_H} {Q : gm_R → gm_H → Prop} {lv : List Value} : gm_W E d 34 224 lv st h Q ↔ gm_W E d 34 225 lv (.int (1 : Int32) :: st) h Q := gw_pure m34 f34_224 rfl
theorem f34_225 : gm_ft 34 225 = some (.aload_n 0, 1) := by decide +kernel
theorem r34_225 {E : Nat → Value} {d : Nat} {st : List Value} {h : gm_H} {Q : gm_R → gm_H → Prop} {a1 a2 a3 a4 a5 : Value} {x : Nat} : gm_W E d 34 225 [.ref x, a1, a2, a3, a4, a5] st h Q ↔ gm_W E d 34 226 [.ref x, a1, a2, a3, a4, a5] (.ref x :: st) h Q := gw_loc m34 f34_225 rfl rfl
theorem r34_225n {E : Nat → Value} {d : Nat} {st : List Value} {h : gm_H} {Q : gm_R → gm_H → Prop} {a1 a2 a3 a4 a5 : Value}  : gm_W E d 34 225 [.null, a1, a2, a3, a4, a5] st h Q ↔ gm_W E d 34 226 [.null, a1, a2, a3, a4, a5] (.null :: st) h Q := gw_loc m34 f34_225 rfl rfl
theorem f34_226 : gm_ft 34 226 = some (.getfield 99, 3) := by decide +kernel
theorem r34_226 {E : Nat → Value} {d : Nat} {st : List Value} {h : gm_H} {Q : gm_R → gm_H → Prop} {lv : List Value} {a : Nat} (hk : gm_kd h a = 5) : gm_W E d 34 226 lv (.ref a :: st) h Q ↔ gm_W E d 34 229 lv (gm_fv h a 42 :: st) h Q := gw_rd m34 f34_226 rfl rfl rfl rfl (gs_get k5_99 hk (by decide))
theorem f34_229 : gm_ft 34 229 = some (.iload_n 1, 1) := by decide +kernel
theorem r34_229 {E : Nat → Value} {d : Nat} {st : List Value} {h : gm_H} {Q : gm_R → gm_H → Prop} {a0 a2 a3 a4 a5 : Value} {x : Int32} : gm_W E d 34 229 [a0, .int x, a2, a3, a4, a5] st h Q ↔ gm_W E d 34 230 [a0, .int x, a2, a3, a4, a5] (.int x :: st) h Q := gw_loc m34 f34_229 rfl rfl
theorem f34_230 : gm_ft 34 230 = some (.iaload, 1) := by decide +kernel
theorem r34_230 {E : Nat → Value} {d : Nat} {st : List Value} {h : gm_H} {Q : gm_R → gm_H → Prop} {lv : List Value} {a j : Nat} (hk : gm_kd h a % 100 = 0 ∧ 100 ≤ gm_kd h a ∧ gm_kd h a < 900) (hj : j < gm_ln h a) (hl : gm_ln h a < 2 ^ 31) : gm_W E d 34 230 lv (.int (nI j) :: .ref a :: st) h Q ↔ gm_W E d 34 231 lv (gm_fv h a j :: st) h Q := gw_rd m34 f34_230 rfl rfl rfl rfl (gs_ld (P := fun t => t == 0) hk.2 (by have := hk.1; simp [this] <;> omega) hj hl)
theorem f34_231 : gm_ft 34 231 = some (.iconst 1, 1) := by decide +kernel
theorem r34_231 {E : Nat → Value} {d : Nat} {st : List Value} {h : gm_H} {Q : gm_R → gm_H → Prop} {lv : List Value} : gm_W E d 34 231 lv st h Q ↔ gm_W E d 34 232 lv (.int (1 : Int32) :: st) h Q := gw_pure m34 f34_231 rfl
theorem f34_232 : gm_ft 34 232 = some (.iadd, 1) := by decide +kernel
theorem r34_232 {E : Nat → Value} {d : Nat} {st : List Value} {h : gm_H} {Q : gm_R → gm_H → Prop} {lv : List Value} {x y : Int32} : gm_W E d 34 232 lv (.int y :: .int x :: st) h Q ↔ gm_W E d 34 233 lv (.int (x + y) :: st) h Q := gw_pure m34 f34_232 rfl
theorem f34_233 : gm_ft 34 233 = some (.iconst 0, 1) := by decide +kernel
theorem r34_233 {E : Nat → Value} {d : Nat} {st : List Value} {h : gm_H} {Q : gm_R → gm_H → Prop} {lv : List Value} : gm_W E d 34 233 lv st h Q ↔ gm_W E d 34 234 lv (.int (0 : Int32) :: st) h Q := gw_pure m34 f34_233 rfl
theorem f34_234 : gm_ft 34 234 = some (.iconst 0, 1) := by decide +kernel
theorem r34_234 {E : Nat → Value} {d : Nat} {st : List Value} {h : gm_H} {Q : gm_R → gm_H → Prop} {lv : List Value} : gm_W E d 34 234 lv st h Q ↔ gm_W E d 34 235 lv (.int (0 : Int32) :: st) h Q := gw_pure m34 f34_234 rfl
theorem f34_235 : gm_ft 34 235 = some (.invokevirtual 200, 3) := by decide +kernel
theorem c34_235 {E : Nat → Value} {d : Nat} {st : List Value} {h : gm_H} {Q : gm_R → gm_H → Prop} {lv : List Value} {b0 : Int32} {b1 : Int32} {b2 : Int32} {b3 : Int32} {a : Nat} {Qc : gm_R → gm_H → Prop} (hs : (st.map fun v => v.category).sum ≤ 8) (hr : gm_kd h a = 5) (hd : 1 ≤ d) (hc : gm_Ca E (d - 1) 15 [.ref a, .int b0, .int b1, .int b2, .int b3] h Qc) (kn : ∀ (v9 : Option Value) (h9 : gm_H), Qc (.inl v9) h9 → gm_W E d 34 238 lv (v9.toList ++ st) h9 Q) (kx : ∀ (x9 : Nat) (h9 : gm_H), Qc (.inr x9) h9 → Q (.inr x9) h9) : gm_W E d 34 235 lv (.int b3 :: .int b2 :: .int b1 :: .int b0 :: .ref a :: st) h Q := gw_call (gn_call m34 f34_235 rfl rfl rfl rfl rfl rfl rfl (gs_virt (bs := [.int b3, .int b2, .int b1, .int b0]) (w := 856) (L := 5) rfl rfl rfl rfl hs (by simp [gm_en1]) hr (by decide)) (by decide)) m34 rfl rfl hd hc kn kx
theorem f34_238 : gm_ft 34 238 = some (.return_, 1) := by decide +kernel
theorem r34_238 {E : Nat → Value} {d : Nat} {h : gm_H} {Q : gm_R → gm_H → Prop} {lv : List Value} : gm_W E d 34 238 lv [] h Q ↔ Q (.inl none) h := gw_ret m34 f34_238 rfl rfl rfl rfl rfl rfl rfl rfl rfl
/-! GraphReaderModel.clash(II)Z -/
theorem m35 : gm_mt[35]? = some (⟨"GraphReaderModel", "clash", "(II)Z"⟩, prog_7_method_34_code, 6, (some .boolean), [], 5, 2) := rfl
theorem f35_0 : gm_ft 35 0 = some (.iconst 0, 1) := by decide +kernel
theorem r35_0 {E : Nat → Value} {d : Nat} {st : List Value} {h : gm_H} {Q : gm_R → gm_H → Prop} {lv : List Value} : gm_W E d 35 0 lv st h Q ↔ gm_W E d 35 1 lv (.int (0 : Int32) :: st) h Q := gw_pure m35 f35_0 rfl
theorem f35_1 : gm_ft 35 1 = some (.istore_n 3, 1) := by decide +kernel
theorem r35_1 {E : Nat → Value} {d : Nat} {st : List Value} {h : gm_H} {Q : gm_R → gm_H → Prop} {a0 a1 a2 a3 a4 a5 : Value} {x : Int32} : gm_W E d 35 1 [a0, a1, a2, a3, a4, a5] (.int x :: st) h Q ↔ gm_W E d 35 2 [a0, a1, gm_k a2, .int x, a4, a5] st h Q := gw_loc m35 f35_1 rfl rfl
theorem f35_2 : gm_ft 35 2 = some (.iload_n 3, 1) := by decide +kernel
theorem r35_2 {E : Nat → Value} {d : Nat} {st : List Value} {h : gm_H} {Q : gm_R → gm_H → Prop} {a0 a1 a2 a4 a5 : Value} {x : Int32} : gm_W E d 35 2 [a0, a1, a2, .int x, a4, a5] st h Q ↔ gm_W E d 35 3 [a0, a1, a2, .int x, a4, a5] (.int x :: st) h Q := gw_loc m35 f35_2 rfl rfl
theorem f35_3 : gm_ft 35 3 = some (.aload_n 0, 1) := by decide +kernel
theorem r35_3 {E : Nat → Value} {d : Nat} {st : List Value} {h : gm_H} {Q : gm_R → gm_H → Prop} {a1 a2 a3 a4 a5 : Value} {x : Nat} : gm_W E d 35 3 [.ref x, a1, a2, a3, a4, a5] st h Q ↔ gm_W E d 35 4 [.ref x, a1, a2, a3, a4, a5] (.ref x :: st) h Q := gw_loc m35 f35_3 rfl rfl
theorem r35_3n {E : Nat → Value} {d : Nat} {st : List Value} {h : gm_H} {Q : gm_R → gm_H → Prop} {a1 a2 a3 a4 a5 : Value}  : gm_W E d 35 3 [.null, a1, a2, a3, a4, a5] st h Q ↔ gm_W E d 35 4 [.null, a1, a2, a3, a4, a5] (.null :: st) h Q := gw_loc m35 f35_3 rfl rfl
theorem f35_4 : gm_ft 35 4 = some (.getfield 81, 3) := by decide +kernel
theorem r35_4 {E : Nat → Value} {d : Nat} {st : List Value} {h : gm_H} {Q : gm_R → gm_H → Prop} {lv : List Value} {a : Nat} (hk : gm_kd h a = 5) : gm_W E d 35 4 lv (.ref a :: st) h Q ↔ gm_W E d 35 7 lv (gm_fv h a 35 :: st) h Q := gw_rd m35 f35_4 rfl rfl rfl rfl (gs_get k5_81 hk (by decide))
theorem f35_7 : gm_ft 35 7 = some (.iload_n 1, 1) := by decide +kernel
theorem r35_7 {E : Nat → Value} {d : Nat} {st : List Value} {h : gm_H} {Q : gm_R → gm_H → Prop} {a0 a2 a3 a4 a5 : Value} {x : Int32} : gm_W E d 35 7 [a0, .int x, a2, a3, a4, a5] st h Q ↔ gm_W E d 35 8 [a0, .int x, a2, a3, a4, a5] (.int x :: st) h Q := gw_loc m35 f35_7 rfl rfl
theorem f35_8 : gm_ft 35 8 = some (.iaload, 1) := by decide +kernel
theorem r35_8 {E : Nat → Value} {d : Nat} {st : List Value} {h : gm_H} {Q : gm_R → gm_H → Prop} {lv : List Value} {a j : Nat} (hk : gm_kd h a % 100 = 0 ∧ 100 ≤ gm_kd h a ∧ gm_kd h a < 900) (hj : j < gm_ln h a) (hl : gm_ln h a < 2 ^ 31) : gm_W E d 35 8 lv (.int (nI j) :: .ref a :: st) h Q ↔ gm_W E d 35 9 lv (gm_fv h a j :: st) h Q := gw_rd m35 f35_8 rfl rfl rfl rfl (gs_ld (P := fun t => t == 0) hk.2 (by have := hk.1; simp [this] <;> omega) hj hl)
theorem f35_9 : gm_ft 35 9 = some (.if_icmp .ge 102, 3) := by decide +kernel
theorem r35_9 {E : Nat → Value} {d : Nat} {st : List Value} {h : gm_H} {Q : gm_R → gm_H → Prop} {lv : List Value} {x y : Int32} : gm_W E d 35 9 lv (.int y :: .int x :: st) h Q ↔ (if y ≤ x then gm_W E d 35 111 lv st h Q else gm_W E d 35 12 lv st h Q) := (gw_br m35 f35_9 rfl rfl rfl rfl).trans gw_if
theorem f35_12 : gm_ft 35 12 = some (.iconst 4, 1) := by decide +kernel
theorem r35_12 {E : Nat → Value} {d : Nat} {st : List Value} {h : gm_H} {Q : gm_R → gm_H → Prop} {lv : List Value} : gm_W E d 35 12 lv st h Q ↔ gm_W E d 35 13 lv (.int (4 : Int32) :: st) h Q := gw_pure m35 f35_12 rfl
theorem f35_13 : gm_ft 35 13 = some (.iload_n 2, 1) := by decide +kernel
theorem r35_13 {E : Nat → Value} {d : Nat} {st : List Value} {h : gm_H} {Q : gm_R → gm_H → Prop} {a0 a1 a3 a4 a5 : Value} {x : Int32} : gm_W E d 35 13 [a0, a1, .int x, a3, a4, a5] st h Q ↔ gm_W E d 35 14 [a0, a1, .int x, a3, a4, a5] (.int x :: st) h Q := gw_loc m35 f35_13 rfl rfl
theorem f35_14 : gm_ft 35 14 = some (.imul, 1) := by decide +kernel
theorem r35_14 {E : Nat → Value} {d : Nat} {st : List Value} {h : gm_H} {Q : gm_R → gm_H → Prop} {lv : List Value} {x y : Int32} : gm_W E d 35 14 lv (.int y :: .int x :: st) h Q ↔ gm_W E d 35 15 lv (.int (x * y) :: st) h Q := gw_pure m35 f35_14 rfl
theorem f35_15 : gm_ft 35 15 = some (.istore 4, 2) := by decide +kernel
theorem r35_15 {E : Nat → Value} {d : Nat} {st : List Value} {h : gm_H} {Q : gm_R → gm_H → Prop} {a0 a1 a2 a3 a4 a5 : Value} {x : Int32} : gm_W E d 35 15 [a0, a1, a2, a3, a4, a5] (.int x :: st) h Q ↔ gm_W E d 35 17 [a0, a1, a2, gm_k a3, .int x, a5] st h Q := gw_loc m35 f35_15 rfl rfl
theorem f35_17 : gm_ft 35 17 = some (.iload 4, 2) := by decide +kernel
theorem r35_17 {E : Nat → Value} {d : Nat} {st : List Value} {h : gm_H} {Q : gm_R → gm_H → Prop} {a0 a1 a2 a3 a5 : Value} {x : Int32} : gm_W E d 35 17 [a0, a1, a2, a3, .int x, a5] st h Q ↔ gm_W E d 35 19 [a0, a1, a2, a3, .int x, a5] (.int x :: st) h Q := gw_loc m35 f35_17 rfl rfl
theorem f35_19 : gm_ft 35 19 = some (.iconst 4, 1) := by decide +kernel
theorem r35_19 {E : Nat → Value} {d : Nat} {st : List Value} {h : gm_H} {Q : gm_R → gm_H → Prop} {lv : List Value} : gm_W E d 35 19 lv st h Q ↔ gm_W E d 35 20 lv (.int (4 : Int32) :: st) h Q := gw_pure m35 f35_19 rfl
theorem f35_20 : gm_ft 35 20 = some (.iload_n 2, 1) := by decide +kernel
theorem r35_20 {E : Nat → Value} {d : Nat} {st : List Value} {h : gm_H} {Q : gm_R → gm_H → Prop} {a0 a1 a3 a4 a5 : Value} {x : Int32} : gm_W E d 35 20 [a0, a1, .int x, a3, a4, a5] st h Q ↔ gm_W E d 35 21 [a0, a1, .int x, a3, a4, a5] (.int x :: st) h Q := gw_loc m35 f35_20 rfl rfl
theorem f35_21 : gm_ft 35 21 = some (.imul, 1) := by decide +kernel
theorem r35_21 {E : Nat → Value} {d : Nat} {st : List Value} {h : gm_H} {Q : gm_R → gm_H → Prop} {lv : List Value} {x y : Int32} : gm_W E d 35 21 lv (.int y :: .int x :: st) h Q ↔ gm_W E d 35 22 lv (.int (x * y) :: st) h Q := gw_pure m35 f35_21 rfl
theorem f35_22 : gm_ft 35 22 = some (.aload_n 0, 1) := by decide +kernel
theorem r35_22 {E : Nat → Value} {d : Nat} {st : List Value} {h : gm_H} {Q : gm_R → gm_H → Prop} {a1 a2 a3 a4 a5 : Value} {x : Nat} : gm_W E d 35 22 [.ref x, a1, a2, a3, a4, a5] st h Q ↔ gm_W E d 35 23 [.ref x, a1, a2, a3, a4, a5] (.ref x :: st) h Q := gw_loc m35 f35_22 rfl rfl
theorem r35_22n {E : Nat → Value} {d : Nat} {st : List Value} {h : gm_H} {Q : gm_R → gm_H → Prop} {a1 a2 a3 a4 a5 : Value}  : gm_W E d 35 22 [.null, a1, a2, a3, a4, a5] st h Q ↔ gm_W E d 35 23 [.null, a1, a2, a3, a4, a5] (.null :: st) h Q := gw_loc m35 f35_22 rfl rfl
theorem f35_23 : gm_ft 35 23 = some (.getfield 23, 3) := by decide +kernel
theorem r35_23 {E : Nat → Value} {d : Nat} {st : List Value} {h : gm_H} {Q : gm_R → gm_H → Prop} {lv : List Value} {a : Nat} (hk : gm_kd h a = 5) : gm_W E d 35 23 lv (.ref a :: st) h Q ↔ gm_W E d 35 26 lv (gm_fv h a 13 :: st) h Q := gw_rd m35 f35_23 rfl rfl rfl rfl (gs_get k5_23 hk (by decide))
theorem f35_26 : gm_ft 35 26 = some (.iload_n 2, 1) := by decide +kernel
theorem r35_26 {E : Nat → Value} {d : Nat} {st : List Value} {h : gm_H} {Q : gm_R → gm_H → Prop} {a0 a1 a3 a4 a5 : Value} {x : Int32} : gm_W E d 35 26 [a0, a1, .int x, a3, a4, a5] st h Q ↔ gm_W E d 35 27 [a0, a1, .int x, a3, a4, a5] (.int x :: st) h Q := gw_loc m35 f35_26 rfl rfl
theorem f35_27 : gm_ft 35 27 = some (.iaload, 1) := by decide +kernel
theorem r35_27 {E : Nat → Value} {d : Nat} {st : List Value} {h : gm_H} {Q : gm_R → gm_H → Prop} {lv : List Value} {a j : Nat} (hk : gm_kd h a % 100 = 0 ∧ 100 ≤ gm_kd h a ∧ gm_kd h a < 900) (hj : j < gm_ln h a) (hl : gm_ln h a < 2 ^ 31) : gm_W E d 35 27 lv (.int (nI j) :: .ref a :: st) h Q ↔ gm_W E d 35 28 lv (gm_fv h a j :: st) h Q := gw_rd m35 f35_27 rfl rfl rfl rfl (gs_ld (P := fun t => t == 0) hk.2 (by have := hk.1; simp [this] <;> omega) hj hl)
theorem f35_28 : gm_ft 35 28 = some (.iadd, 1) := by decide +kernel
theorem r35_28 {E : Nat → Value} {d : Nat} {st : List Value} {h : gm_H} {Q : gm_R → gm_H → Prop} {lv : List Value} {x y : Int32} : gm_W E d 35 28 lv (.int y :: .int x :: st) h Q ↔ gm_W E d 35 29 lv (.int (x + y) :: st) h Q := gw_pure m35 f35_28 rfl
theorem f35_29 : gm_ft 35 29 = some (.if_icmp .ge 76, 3) := by decide +kernel
theorem r35_29 {E : Nat → Value} {d : Nat} {st : List Value} {h : gm_H} {Q : gm_R → gm_H → Prop} {lv : List Value} {x y : Int32} : gm_W E d 35 29 lv (.int y :: .int x :: st) h Q ↔ (if y ≤ x then gm_W E d 35 105 lv st h Q else gm_W E d 35 32 lv st h Q) := (gw_br m35 f35_29 rfl rfl rfl rfl).trans gw_if
theorem f35_32 : gm_ft 35 32 = some (.aload_n 0, 1) := by decide +kernel
theorem r35_32 {E : Nat → Value} {d : Nat} {st : List Value} {h : gm_H} {Q : gm_R → gm_H → Prop} {a1 a2 a3 a4 a5 : Value} {x : Nat} : gm_W E d 35 32 [.ref x, a1, a2, a3, a4, a5] st h Q ↔ gm_W E d 35 33 [.ref x, a1, a2, a3, a4, a5] (.ref x :: st) h Q := gw_loc m35 f35_32 rfl rfl
theorem r35_32n {E : Nat → Value} {d : Nat} {st : List Value} {h : gm_H} {Q : gm_R → gm_H → Prop} {a1 a2 a3 a4 a5 : Value}  : gm_W E d 35 32 [.null, a1, a2, a3, a4, a5] st h Q ↔ gm_W E d 35 33 [.null, a1, a2, a3, a4, a5] (.null :: st) h Q := gw_loc m35 f35_32 rfl rfl
theorem f35_33 : gm_ft 35 33 = some (.getfield 87, 3) := by decide +kernel
theorem r35_33 {E : Nat → Value} {d : Nat} {st : List Value} {h : gm_H} {Q : gm_R → gm_H → Prop} {lv : List Value} {a : Nat} (hk : gm_kd h a = 5) : gm_W E d 35 33 lv (.ref a :: st) h Q ↔ gm_W E d 35 36 lv (gm_fv h a 37 :: st) h Q := gw_rd m35 f35_33 rfl rfl rfl rfl (gs_get k5_87 hk (by decide))
theorem f35_36 : gm_ft 35 36 = some (.bipush 8, 2) := by decide +kernel
theorem r35_36 {E : Nat → Value} {d : Nat} {st : List Value} {h : gm_H} {Q : gm_R → gm_H → Prop} {lv : List Value} : gm_W E d 35 36 lv st h Q ↔ gm_W E d 35 38 lv (.int (8 : Int32) :: st) h Q := gw_pure m35 f35_36 rfl
theorem f35_38 : gm_ft 35 38 = some (.iload_n 1, 1) := by decide +kernel
theorem r35_38 {E : Nat → Value} {d : Nat} {st : List Value} {h : gm_H} {Q : gm_R → gm_H → Prop} {a0 a2 a3 a4 a5 : Value} {x : Int32} : gm_W E d 35 38 [a0, .int x, a2, a3, a4, a5] st h Q ↔ gm_W E d 35 39 [a0, .int x, a2, a3, a4, a5] (.int x :: st) h Q := gw_loc m35 f35_38 rfl rfl
theorem f35_39 : gm_ft 35 39 = some (.imul, 1) := by decide +kernel
theorem r35_39 {E : Nat → Value} {d : Nat} {st : List Value} {h : gm_H} {Q : gm_R → gm_H → Prop} {lv : List Value} {x y : Int32} : gm_W E d 35 39 lv (.int y :: .int x :: st) h Q ↔ gm_W E d 35 40 lv (.int (x * y) :: st) h Q := gw_pure m35 f35_39 rfl
theorem f35_40 : gm_ft 35 40 = some (.iload_n 3, 1) := by decide +kernel
theorem r35_40 {E : Nat → Value} {d : Nat} {st : List Value} {h : gm_H} {Q : gm_R → gm_H → Prop} {a0 a1 a2 a4 a5 : Value} {x : Int32} : gm_W E d 35 40 [a0, a1, a2, .int x, a4, a5] st h Q ↔ gm_W E d 35 41 [a0, a1, a2, .int x, a4, a5] (.int x :: st) h Q := gw_loc m35 f35_40 rfl rfl
theorem f35_41 : gm_ft 35 41 = some (.iadd, 1) := by decide +kernel
theorem r35_41 {E : Nat → Value} {d : Nat} {st : List Value} {h : gm_H} {Q : gm_R → gm_H → Prop} {lv : List Value} {x y : Int32} : gm_W E d 35 41 lv (.int y :: .int x :: st) h Q ↔ gm_W E d 35 42 lv (.int (x + y) :: st) h Q := gw_pure m35 f35_41 rfl
theorem f35_42 : gm_ft 35 42 = some (.iaload, 1) := by decide +kernel
theorem r35_42 {E : Nat → Value} {d : Nat} {st : List Value} {h : gm_H} {Q : gm_R → gm_H → Prop} {lv : List Value} {a j : Nat} (hk : gm_kd h a % 100 = 0 ∧ 100 ≤ gm_kd h a ∧ gm_kd h a < 900) (hj : j < gm_ln h a) (hl : gm_ln h a < 2 ^ 31) : gm_W E d 35 42 lv (.int (nI j) :: .ref a :: st) h Q ↔ gm_W E d 35 43 lv (gm_fv h a j :: st) h Q := gw_rd m35 f35_42 rfl rfl rfl rfl (gs_ld (P := fun t => t == 0) hk.2 (by have := hk.1; simp [this] <;> omega) hj hl)
theorem f35_43 : gm_ft 35 43 = some (.istore 5, 2) := by decide +kernel
theorem r35_43 {E : Nat → Value} {d : Nat} {st : List Value} {h : gm_H} {Q : gm_R → gm_H → Prop} {a0 a1 a2 a3 a4 a5 : Value} {x : Int32} : gm_W E d 35 43 [a0, a1, a2, a3, a4, a5] (.int x :: st) h Q ↔ gm_W E d 35 45 [a0, a1, a2, a3, gm_k a4, .int x] st h Q := gw_loc m35 f35_43 rfl rfl
theorem f35_45 : gm_ft 35 45 = some (.aload_n 0, 1) := by decide +kernel
theorem r35_45 {E : Nat → Value} {d : Nat} {st : List Value} {h : gm_H} {Q : gm_R → gm_H → Prop} {a1 a2 a3 a4 a5 : Value} {x : Nat} : gm_W E d 35 45 [.ref x, a1, a2, a3, a4, a5] st h Q ↔ gm_W E d 35 46 [.ref x, a1, a2, a3, a4, a5] (.ref x :: st) h Q := gw_loc m35 f35_45 rfl rfl
theorem r35_45n {E : Nat → Value} {d : Nat} {st : List Value} {h : gm_H} {Q : gm_R → gm_H → Prop} {a1 a2 a3 a4 a5 : Value}  : gm_W E d 35 45 [.null, a1, a2, a3, a4, a5] st h Q ↔ gm_W E d 35 46 [.null, a1, a2, a3, a4, a5] (.null :: st) h Q := gw_loc m35 f35_45 rfl rfl
theorem f35_46 : gm_ft 35 46 = some (.getfield 26, 3) := by decide +kernel
theorem r35_46 {E : Nat → Value} {d : Nat} {st : List Value} {h : gm_H} {Q : gm_R → gm_H → Prop} {lv : List Value} {a : Nat} (hk : gm_kd h a = 5) : gm_W E d 35 46 lv (.ref a :: st) h Q ↔ gm_W E d 35 49 lv (gm_fv h a 14 :: st) h Q := gw_rd m35 f35_46 rfl rfl rfl rfl (gs_get k5_26 hk (by decide))
theorem f35_49 : gm_ft 35 49 = some (.iload 4, 2) := by decide +kernel
theorem r35_49 {E : Nat → Value} {d : Nat} {st : List Value} {h : gm_H} {Q : gm_R → gm_H → Prop} {a0 a1 a2 a3 a5 : Value} {x : Int32} : gm_W E d 35 49 [a0, a1, a2, a3, .int x, a5] st h Q ↔ gm_W E d 35 51 [a0, a1, a2, a3, .int x, a5] (.int x :: st) h Q := gw_loc m35 f35_49 rfl rfl
theorem f35_51 : gm_ft 35 51 = some (.iaload, 1) := by decide +kernel
theorem r35_51 {E : Nat → Value} {d : Nat} {st : List Value} {h : gm_H} {Q : gm_R → gm_H → Prop} {lv : List Value} {a j : Nat} (hk : gm_kd h a % 100 = 0 ∧ 100 ≤ gm_kd h a ∧ gm_kd h a < 900) (hj : j < gm_ln h a) (hl : gm_ln h a < 2 ^ 31) : gm_W E d 35 51 lv (.int (nI j) :: .ref a :: st) h Q ↔ gm_W E d 35 52 lv (gm_fv h a j :: st) h Q := gw_rd m35 f35_51 rfl rfl rfl rfl (gs_ld (P := fun t => t == 0) hk.2 (by have := hk.1; simp [this] <;> omega) hj hl)
theorem f35_52 : gm_ft 35 52 = some (.aload_n 0, 1) := by decide +kernel
theorem r35_52 {E : Nat → Value} {d : Nat} {st : List Value} {h : gm_H} {Q : gm_R → gm_H → Prop} {a1 a2 a3 a4 a5 : Value} {x : Nat} : gm_W E d 35 52 [.ref x, a1, a2, a3, a4, a5] st h Q ↔ gm_W E d 35 53 [.ref x, a1, a2, a3, a4, a5] (.ref x :: st) h Q := gw_loc m35 f35_52 rfl rfl
theorem r35_52n {E : Nat → Value} {d : Nat} {st : List Value} {h : gm_H} {Q : gm_R → gm_H → Prop} {a1 a2 a3 a4 a5 : Value}  : gm_W E d 35 52 [.null, a1, a2, a3, a4, a5] st h Q ↔ gm_W E d 35 53 [.null, a1, a2, a3, a4, a5] (.null :: st) h Q := gw_loc m35 f35_52 rfl rfl
theorem f35_53 : gm_ft 35 53 = some (.getfield 84, 3) := by decide +kernel
theorem r35_53 {E : Nat → Value} {d : Nat} {st : List Value} {h : gm_H} {Q : gm_R → gm_H → Prop} {lv : List Value} {a : Nat} (hk : gm_kd h a = 5) : gm_W E d 35 53 lv (.ref a :: st) h Q ↔ gm_W E d 35 56 lv (gm_fv h a 36 :: st) h Q := gw_rd m35 f35_53 rfl rfl rfl rfl (gs_get k5_84 hk (by decide))
theorem f35_56 : gm_ft 35 56 = some (.bipush 8, 2) := by decide +kernel
theorem r35_56 {E : Nat → Value} {d : Nat} {st : List Value} {h : gm_H} {Q : gm_R → gm_H → Prop} {lv : List Value} : gm_W E d 35 56 lv st h Q ↔ gm_W E d 35 58 lv (.int (8 : Int32) :: st) h Q := gw_pure m35 f35_56 rfl
theorem f35_58 : gm_ft 35 58 = some (.iload_n 1, 1) := by decide +kernel
theorem r35_58 {E : Nat → Value} {d : Nat} {st : List Value} {h : gm_H} {Q : gm_R → gm_H → Prop} {a0 a2 a3 a4 a5 : Value} {x : Int32} : gm_W E d 35 58 [a0, .int x, a2, a3, a4, a5] st h Q ↔ gm_W E d 35 59 [a0, .int x, a2, a3, a4, a5] (.int x :: st) h Q := gw_loc m35 f35_58 rfl rfl
theorem f35_59 : gm_ft 35 59 = some (.imul, 1) := by decide +kernel
theorem r35_59 {E : Nat → Value} {d : Nat} {st : List Value} {h : gm_H} {Q : gm_R → gm_H → Prop} {lv : List Value} {x y : Int32} : gm_W E d 35 59 lv (.int y :: .int x :: st) h Q ↔ gm_W E d 35 60 lv (.int (x * y) :: st) h Q := gw_pure m35 f35_59 rfl
theorem f35_60 : gm_ft 35 60 = some (.iload_n 3, 1) := by decide +kernel
theorem r35_60 {E : Nat → Value} {d : Nat} {st : List Value} {h : gm_H} {Q : gm_R → gm_H → Prop} {a0 a1 a2 a4 a5 : Value} {x : Int32} : gm_W E d 35 60 [a0, a1, a2, .int x, a4, a5] st h Q ↔ gm_W E d 35 61 [a0, a1, a2, .int x, a4, a5] (.int x :: st) h Q := gw_loc m35 f35_60 rfl rfl
theorem f35_61 : gm_ft 35 61 = some (.iadd, 1) := by decide +kernel
theorem r35_61 {E : Nat → Value} {d : Nat} {st : List Value} {h : gm_H} {Q : gm_R → gm_H → Prop} {lv : List Value} {x y : Int32} : gm_W E d 35 61 lv (.int y :: .int x :: st) h Q ↔ gm_W E d 35 62 lv (.int (x + y) :: st) h Q := gw_pure m35 f35_61 rfl
theorem f35_62 : gm_ft 35 62 = some (.iaload, 1) := by decide +kernel
theorem r35_62 {E : Nat → Value} {d : Nat} {st : List Value} {h : gm_H} {Q : gm_R → gm_H → Prop} {lv : List Value} {a j : Nat} (hk : gm_kd h a % 100 = 0 ∧ 100 ≤ gm_kd h a ∧ gm_kd h a < 900) (hj : j < gm_ln h a) (hl : gm_ln h a < 2 ^ 31) : gm_W E d 35 62 lv (.int (nI j) :: .ref a :: st) h Q ↔ gm_W E d 35 63 lv (gm_fv h a j :: st) h Q := gw_rd m35 f35_62 rfl rfl rfl rfl (gs_ld (P := fun t => t == 0) hk.2 (by have := hk.1; simp [this] <;> omega) hj hl)
theorem f35_63 : gm_ft 35 63 = some (.if_icmp .ne 36, 3) := by decide +kernel
theorem r35_63 {E : Nat → Value} {d : Nat} {st : List Value} {h : gm_H} {Q : gm_R → gm_H → Prop} {lv : List Value} {x y : Int32} : gm_W E d 35 63 lv (.int y :: .int x :: st) h Q ↔ (if x = y then gm_W E d 35 66 lv st h Q else gm_W E d 35 99 lv st h Q) := (gw_br m35 f35_63 rfl rfl rfl rfl).trans gw_ifn
theorem f35_66 : gm_ft 35 66 = some (.aload_n 0, 1) := by decide +kernel
theorem r35_66 {E : Nat → Value} {d : Nat} {st : List Value} {h : gm_H} {Q : gm_R → gm_H → Prop} {a1 a2 a3 a4 a5 : Value} {x : Nat} : gm_W E d 35 66 [.ref x, a1, a2, a3, a4, a5] st h Q ↔ gm_W E d 35 67 [.ref x, a1, a2, a3, a4, a5] (.ref x :: st) h Q := gw_loc m35 f35_66 rfl rfl
theorem r35_66n {E : Nat → Value} {d : Nat} {st : List Value} {h : gm_H} {Q : gm_R → gm_H → Prop} {a1 a2 a3 a4 a5 : Value}  : gm_W E d 35 66 [.null, a1, a2, a3, a4, a5] st h Q ↔ gm_W E d 35 67 [.null, a1, a2, a3, a4, a5] (.null :: st) h Q := gw_loc m35 f35_66 rfl rfl
theorem f35_67 : gm_ft 35 67 = some (.getfield 29, 3) := by decide +kernel
theorem r35_67 {E : Nat → Value} {d : Nat} {st : List Value} {h : gm_H} {Q : gm_R → gm_H → Prop} {lv : List Value} {a : Nat} (hk : gm_kd h a = 5) : gm_W E d 35 67 lv (.ref a :: st) h Q ↔ gm_W E d 35 70 lv (gm_fv h a 15 :: st) h Q := gw_rd m35 f35_67 rfl rfl rfl rfl (gs_get k5_29 hk (by decide))
theorem f35_70 : gm_ft 35 70 = some (.iload 4, 2) := by decide +kernel
theorem r35_70 {E : Nat → Value} {d : Nat} {st : List Value} {h : gm_H} {Q : gm_R → gm_H → Prop} {a0 a1 a2 a3 a5 : Value} {x : Int32} : gm_W E d 35 70 [a0, a1, a2, a3, .int x, a5] st h Q ↔ gm_W E d 35 72 [a0, a1, a2, a3, .int x, a5] (.int x :: st) h Q := gw_loc m35 f35_70 rfl rfl
theorem f35_72 : gm_ft 35 72 = some (.iaload, 1) := by decide +kernel
theorem r35_72 {E : Nat → Value} {d : Nat} {st : List Value} {h : gm_H} {Q : gm_R → gm_H → Prop} {lv : List Value} {a j : Nat} (hk : gm_kd h a % 100 = 0 ∧ 100 ≤ gm_kd h a ∧ gm_kd h a < 900) (hj : j < gm_ln h a) (hl : gm_ln h a < 2 ^ 31) : gm_W E d 35 72 lv (.int (nI j) :: .ref a :: st) h Q ↔ gm_W E d 35 73 lv (gm_fv h a j :: st) h Q := gw_rd m35 f35_72 rfl rfl rfl rfl (gs_ld (P := fun t => t == 0) hk.2 (by have := hk.1; simp [this] <;> omega) hj hl)
theorem f35_73 : gm_ft 35 73 = some (.iload 5, 2) := by decide +kernel
theorem r35_73 {E : Nat → Value} {d : Nat} {st : List Value} {h : gm_H} {Q : gm_R → gm_H → Prop} {a0 a1 a2 a3 a4 : Value} {x : Int32} : gm_W E d 35 73 [a0, a1, a2, a3, a4, .int x] st h Q ↔ gm_W E d 35 75 [a0, a1, a2, a3, a4, .int x] (.int x :: st) h Q := gw_loc m35 f35_73 rfl rfl
theorem f35_75 : gm_ft 35 75 = some (.if_icmp .eq 24, 3) := by decide +kernel
theorem r35_75 {E : Nat → Value} {d : Nat} {st : List Value} {h : gm_H} {Q : gm_R → gm_H → Prop} {lv : List Value} {x y : Int32} : gm_W E d 35 75 lv (.int y :: .int x :: st) h Q ↔ (if x = y then gm_W E d 35 99 lv st h Q else gm_W E d 35 78 lv st h Q) := (gw_br m35 f35_75 rfl rfl rfl rfl).trans gw_if
theorem f35_78 : gm_ft 35 78 = some (.iload 5, 2) := by decide +kernel
theorem r35_78 {E : Nat → Value} {d : Nat} {st : List Value} {h : gm_H} {Q : gm_R → gm_H → Prop} {a0 a1 a2 a3 a4 : Value} {x : Int32} : gm_W E d 35 78 [a0, a1, a2, a3, a4, .int x] st h Q ↔ gm_W E d 35 80 [a0, a1, a2, a3, a4, .int x] (.int x :: st) h Q := gw_loc m35 f35_78 rfl rfl
theorem f35_80 : gm_ft 35 80 = some (.bipush 6, 2) := by decide +kernel
theorem r35_80 {E : Nat → Value} {d : Nat} {st : List Value} {h : gm_H} {Q : gm_R → gm_H → Prop} {lv : List Value} : gm_W E d 35 80 lv st h Q ↔ gm_W E d 35 82 lv (.int (6 : Int32) :: st) h Q := gw_pure m35 f35_80 rfl
theorem f35_82 : gm_ft 35 82 = some (.if_icmp .lt 15, 3) := by decide +kernel
theorem r35_82 {E : Nat → Value} {d : Nat} {st : List Value} {h : gm_H} {Q : gm_R → gm_H → Prop} {lv : List Value} {x y : Int32} : gm_W E d 35 82 lv (.int y :: .int x :: st) h Q ↔ (if x < y then gm_W E d 35 97 lv st h Q else gm_W E d 35 85 lv st h Q) := (gw_br m35 f35_82 rfl rfl rfl rfl).trans gw_if
theorem f35_85 : gm_ft 35 85 = some (.aload_n 0, 1) := by decide +kernel
theorem r35_85 {E : Nat → Value} {d : Nat} {st : List Value} {h : gm_H} {Q : gm_R → gm_H → Prop} {a1 a2 a3 a4 a5 : Value} {x : Nat} : gm_W E d 35 85 [.ref x, a1, a2, a3, a4, a5] st h Q ↔ gm_W E d 35 86 [.ref x, a1, a2, a3, a4, a5] (.ref x :: st) h Q := gw_loc m35 f35_85 rfl rfl
theorem r35_85n {E : Nat → Value} {d : Nat} {st : List Value} {h : gm_H} {Q : gm_R → gm_H → Prop} {a1 a2 a3 a4 a5 : Value}  : gm_W E d 35 85 [.null, a1, a2, a3, a4, a5] st h Q ↔ gm_W E d 35 86 [.null, a1, a2, a3, a4, a5] (.null :: st) h Q := gw_loc m35 f35_85 rfl rfl
theorem f35_86 : gm_ft 35 86 = some (.getfield 29, 3) := by decide +kernel
theorem r35_86 {E : Nat → Value} {d : Nat} {st : List Value} {h : gm_H} {Q : gm_R → gm_H → Prop} {lv : List Value} {a : Nat} (hk : gm_kd h a = 5) : gm_W E d 35 86 lv (.ref a :: st) h Q ↔ gm_W E d 35 89 lv (gm_fv h a 15 :: st) h Q := gw_rd m35 f35_86 rfl rfl rfl rfl (gs_get k5_29 hk (by decide))
theorem f35_89 : gm_ft 35 89 = some (.iload 4, 2) := by decide +kernel
theorem r35_89 {E : Nat → Value} {d : Nat} {st : List Value} {h : gm_H} {Q : gm_R → gm_H → Prop} {a0 a1 a2 a3 a5 : Value} {x : Int32} : gm_W E d 35 89 [a0, a1, a2, a3, .int x, a5] st h Q ↔ gm_W E d 35 91 [a0, a1, a2, a3, .int x, a5] (.int x :: st) h Q := gw_loc m35 f35_89 rfl rfl
theorem f35_91 : gm_ft 35 91 = some (.iaload, 1) := by decide +kernel
theorem r35_91 {E : Nat → Value} {d : Nat} {st : List Value} {h : gm_H} {Q : gm_R → gm_H → Prop} {lv : List Value} {a j : Nat} (hk : gm_kd h a % 100 = 0 ∧ 100 ≤ gm_kd h a ∧ gm_kd h a < 900) (hj : j < gm_ln h a) (hl : gm_ln h a < 2 ^ 31) : gm_W E d 35 91 lv (.int (nI j) :: .ref a :: st) h Q ↔ gm_W E d 35 92 lv (gm_fv h a j :: st) h Q := gw_rd m35 f35_91 rfl rfl rfl rfl (gs_ld (P := fun t => t == 0) hk.2 (by have := hk.1; simp [this] <;> omega) hj hl)
theorem f35_92 : gm_ft 35 92 = some (.bipush 6, 2) := by decide +kernel
theorem r35_92 {E : Nat → Value} {d : Nat} {st : List Value} {h : gm_H} {Q : gm_R → gm_H → Prop} {lv : List Value} : gm_W E d 35 92 lv st h Q ↔ gm_W E d 35 94 lv (.int (6 : Int32) :: st) h Q := gw_pure m35 f35_92 rfl
theorem f35_94 : gm_ft 35 94 = some (.if_icmp .ge 5, 3) := by decide +kernel
theorem r35_94 {E : Nat → Value} {d : Nat} {st : List Value} {h : gm_H} {Q : gm_R → gm_H → Prop} {lv : List Value} {x y : Int32} : gm_W E d 35 94 lv (.int y :: .int x :: st) h Q ↔ (if y ≤ x then gm_W E d 35 99 lv st h Q else gm_W E d 35 97 lv st h Q) := (gw_br m35 f35_94 rfl rfl rfl rfl).trans gw_if
theorem f35_97 : gm_ft 35 97 = some (.iconst 1, 1) := by decide +kernel
theorem r35_97 {E : Nat → Value} {d : Nat} {st : List Value} {h : gm_H} {Q : gm_R → gm_H → Prop} {lv : List Value} : gm_W E d 35 97 lv st h Q ↔ gm_W E d 35 98 lv (.int (1 : Int32) :: st) h Q := gw_pure m35 f35_97 rfl
theorem f35_98 : gm_ft 35 98 = some (.ireturn, 1) := by decide +kernel
theorem r35_98 {E : Nat → Value} {d : Nat} {h : gm_H} {Q : gm_R → gm_H → Prop} {lv : List Value} {x : Int32} (hx : x = 0 ∨ x = 1) : gm_W E d 35 98 lv [.int x] h Q ↔ Q (.inl (some (.int x))) h := gw_ret m35 f35_98 rfl rfl rfl rfl rfl rfl rfl rfl (by unfold gm_rt; dsimp only; rw [if_pos ⟨rfl, (gs_nb hx).1⟩])
theorem f35_99 : gm_ft 35 99 = some (.iinc 4 1, 3) := by decide +kernel
theorem r35_99 {E : Nat → Value} {d : Nat} {st : List Value} {h : gm_H} {Q : gm_R → gm_H → Prop} {a0 a1 a2 a3 a5 : Value} {x : Int32} : gm_W E d 35 99 [a0, a1, a2, a3, .int x, a5] st h Q ↔ gm_W E d 35 102 [a0, a1, a2, gm_k a3, .int (x + (1 : Int32)), a5] st h Q := gw_loc m35 f35_99 rfl rfl
theorem f35_102 : gm_ft 35 102 = some (.goto (-85), 3) := by decide +kernel
theorem r35_102 {E : Nat → Value} {d : Nat} {st : List Value} {h : gm_H} {Q : gm_R → gm_H → Prop} {lv : List Value} : gm_W E d 35 102 lv st h Q ↔ gm_W E d 35 17 lv st h Q := gw_brT m35 f35_102 rfl rfl rfl rfl
theorem f35_105 : gm_ft 35 105 = some (.iinc 3 1, 3) := by decide +kernel
theorem r35_105 {E : Nat → Value} {d : Nat} {st : List Value} {h : gm_H} {Q : gm_R → gm_H → Prop} {a0 a1 a2 a4 a5 : Value} {x : Int32} : gm_W E d 35 105 [a0, a1, a2, .int x, a4, a5] st h Q ↔ gm_W E d 35 108 [a0, a1, gm_k a2, .int (x + (1 : Int32)), a4, a5] st h Q := gw_loc m35 f35_105 rfl rfl
theorem f35_108 : gm_ft 35 108 = some (.goto (-106), 3) := by decide +kernel
theorem r35_108 {E : Nat → Value} {d : Nat} {st : List Value} {h : gm_H} {Q : gm_R → gm_H → Prop} {lv : List Value} : gm_W E d 35 108 lv st h Q ↔ gm_W E d 35 2 lv st h Q := gw_brT m35 f35_108 rfl rfl rfl rfl
theorem f35_111 : gm_ft 35 111 = some (.iconst 0, 1) := by decide +kernel
theorem r35_111 {E : Nat → Value} {d : Nat} {st : List Value} {h : gm_H} {Q : gm_R → gm_H → Prop} {lv : List Value} : gm_W E d 35 111 lv st h Q ↔ gm_W E d 35 112 lv (.int (0 : Int32) :: st) h Q := gw_pure m35 f35_111 rfl
theorem f35_112 : gm_ft 35 112 = some (.ireturn, 1) := by decide +kernel
theorem r35_112 {E : Nat → Value} {d : Nat} {h : gm_H} {Q : gm_R → gm_H → Prop} {lv : List Value} {x : Int32} (hx : x = 0 ∨ x = 1) : gm_W E d 35 112 lv [.int x] h Q ↔ Q (.inl (some (.int x))) h := gw_ret m35 f35_112 rfl rfl rfl rfl rfl rfl rfl rfl (by unfold gm_rt; dsimp only; rw [if_pos ⟨rfl, (gs_nb hx).1⟩])
/-! GraphReaderModel.endDescriptor(I)V -/
theorem m36 : gm_mt[36]? = some (⟨"GraphReaderModel", "endDescriptor", "(I)V"⟩, prog_7_method_35_code, 4, none, [], 5, 2) := rfl
theorem f36_0 : gm_ft 36 0 = some (.aload_n 0, 1) := by decide +kernel
theorem r36_0 {E : Nat → Value} {d : Nat} {st : List Value} {h : gm_H} {Q : gm_R → gm_H → Prop} {a1 a2 a3 : Value} {x : Nat} : gm_W E d 36 0 [.ref x, a1, a2, a3] st h Q ↔ gm_W E d 36 1 [.ref x, a1, a2, a3] (.ref x :: st) h Q := gw_loc m36 f36_0 rfl rfl
theorem r36_0n {E : Nat → Value} {d : Nat} {st : List Value} {h : gm_H} {Q : gm_R → gm_H → Prop} {a1 a2 a3 : Value}  : gm_W E d 36 0 [.null, a1, a2, a3] st h Q ↔ gm_W E d 36 1 [.null, a1, a2, a3] (.null :: st) h Q := gw_loc m36 f36_0 rfl rfl
theorem f36_1 : gm_ft 36 1 = some (.getfield 105, 3) := by decide +kernel
theorem r36_1 {E : Nat → Value} {d : Nat} {st : List Value} {h : gm_H} {Q : gm_R → gm_H → Prop} {lv : List Value} {a : Nat} (hk : gm_kd h a = 5) : gm_W E d 36 1 lv (.ref a :: st) h Q ↔ gm_W E d 36 4 lv (gm_fv h a 44 :: st) h Q := gw_rd m36 f36_1 rfl rfl rfl rfl (gs_get k5_105 hk (by decide))
theorem f36_4 : gm_ft 36 4 = some (.iload_n 1, 1) := by decide +kernel
theorem r36_4 {E : Nat → Value} {d : Nat} {st : List Value} {h : gm_H} {Q : gm_R → gm_H → Prop} {a0 a2 a3 : Value} {x : Int32} : gm_W E d 36 4 [a0, .int x, a2, a3] st h Q ↔ gm_W E d 36 5 [a0, .int x, a2, a3] (.int x :: st) h Q := gw_loc m36 f36_4 rfl rfl
theorem f36_5 : gm_ft 36 5 = some (.iaload, 1) := by decide +kernel
theorem r36_5 {E : Nat → Value} {d : Nat} {st : List Value} {h : gm_H} {Q : gm_R → gm_H → Prop} {lv : List Value} {a j : Nat} (hk : gm_kd h a % 100 = 0 ∧ 100 ≤ gm_kd h a ∧ gm_kd h a < 900) (hj : j < gm_ln h a) (hl : gm_ln h a < 2 ^ 31) : gm_W E d 36 5 lv (.int (nI j) :: .ref a :: st) h Q ↔ gm_W E d 36 6 lv (gm_fv h a j :: st) h Q := gw_rd m36 f36_5 rfl rfl rfl rfl (gs_ld (P := fun t => t == 0) hk.2 (by have := hk.1; simp [this] <;> omega) hj hl)
theorem f36_6 : gm_ft 36 6 = some (.istore_n 2, 1) := by decide +kernel
theorem r36_6 {E : Nat → Value} {d : Nat} {st : List Value} {h : gm_H} {Q : gm_R → gm_H → Prop} {a0 a1 a2 a3 : Value} {x : Int32} : gm_W E d 36 6 [a0, a1, a2, a3] (.int x :: st) h Q ↔ gm_W E d 36 7 [a0, gm_k a1, .int x, a3] st h Q := gw_loc m36 f36_6 rfl rfl
theorem f36_7 : gm_ft 36 7 = some (.aload_n 0, 1) := by decide +kernel
theorem r36_7 {E : Nat → Value} {d : Nat} {st : List Value} {h : gm_H} {Q : gm_R → gm_H → Prop} {a1 a2 a3 : Value} {x : Nat} : gm_W E d 36 7 [.ref x, a1, a2, a3] st h Q ↔ gm_W E d 36 8 [.ref x, a1, a2, a3] (.ref x :: st) h Q := gw_loc m36 f36_7 rfl rfl
theorem r36_7n {E : Nat → Value} {d : Nat} {st : List Value} {h : gm_H} {Q : gm_R → gm_H → Prop} {a1 a2 a3 : Value}  : gm_W E d 36 7 [.null, a1, a2, a3] st h Q ↔ gm_W E d 36 8 [.null, a1, a2, a3] (.null :: st) h Q := gw_loc m36 f36_7 rfl rfl
theorem f36_8 : gm_ft 36 8 = some (.getfield 69, 3) := by decide +kernel
theorem r36_8 {E : Nat → Value} {d : Nat} {st : List Value} {h : gm_H} {Q : gm_R → gm_H → Prop} {lv : List Value} {a : Nat} (hk : gm_kd h a = 5) : gm_W E d 36 8 lv (.ref a :: st) h Q ↔ gm_W E d 36 11 lv (gm_fv h a 31 :: st) h Q := gw_rd m36 f36_8 rfl rfl rfl rfl (gs_get k5_69 hk (by decide))
theorem f36_11 : gm_ft 36 11 = some (.iload_n 2, 1) := by decide +kernel
theorem r36_11 {E : Nat → Value} {d : Nat} {st : List Value} {h : gm_H} {Q : gm_R → gm_H → Prop} {a0 a1 a3 : Value} {x : Int32} : gm_W E d 36 11 [a0, a1, .int x, a3] st h Q ↔ gm_W E d 36 12 [a0, a1, .int x, a3] (.int x :: st) h Q := gw_loc m36 f36_11 rfl rfl
theorem f36_12 : gm_ft 36 12 = some (.iaload, 1) := by decide +kernel
theorem r36_12 {E : Nat → Value} {d : Nat} {st : List Value} {h : gm_H} {Q : gm_R → gm_H → Prop} {lv : List Value} {a j : Nat} (hk : gm_kd h a % 100 = 0 ∧ 100 ≤ gm_kd h a ∧ gm_kd h a < 900) (hj : j < gm_ln h a) (hl : gm_ln h a < 2 ^ 31) : gm_W E d 36 12 lv (.int (nI j) :: .ref a :: st) h Q ↔ gm_W E d 36 13 lv (gm_fv h a j :: st) h Q := gw_rd m36 f36_12 rfl rfl rfl rfl (gs_ld (P := fun t => t == 0) hk.2 (by have := hk.1; simp [this] <;> omega) hj hl)
theorem f36_13 : gm_ft 36 13 = some (.istore_n 3, 1) := by decide +kernel
theorem r36_13 {E : Nat → Value} {d : Nat} {st : List Value} {h : gm_H} {Q : gm_R → gm_H → Prop} {a0 a1 a2 a3 : Value} {x : Int32} : gm_W E d 36 13 [a0, a1, a2, a3] (.int x :: st) h Q ↔ gm_W E d 36 14 [a0, a1, gm_k a2, .int x] st h Q := gw_loc m36 f36_13 rfl rfl
theorem f36_14 : gm_ft 36 14 = some (.aload_n 0, 1) := by decide +kernel
theorem r36_14 {E : Nat → Value} {d : Nat} {st : List Value} {h : gm_H} {Q : gm_R → gm_H → Prop} {a1 a2 a3 : Value} {x : Nat} : gm_W E d 36 14 [.ref x, a1, a2, a3] st h Q ↔ gm_W E d 36 15 [.ref x, a1, a2, a3] (.ref x :: st) h Q := gw_loc m36 f36_14 rfl rfl
theorem r36_14n {E : Nat → Value} {d : Nat} {st : List Value} {h : gm_H} {Q : gm_R → gm_H → Prop} {a1 a2 a3 : Value}  : gm_W E d 36 14 [.null, a1, a2, a3] st h Q ↔ gm_W E d 36 15 [.null, a1, a2, a3] (.null :: st) h Q := gw_loc m36 f36_14 rfl rfl
theorem f36_15 : gm_ft 36 15 = some (.getfield 90, 3) := by decide +kernel
theorem r36_15 {E : Nat → Value} {d : Nat} {st : List Value} {h : gm_H} {Q : gm_R → gm_H → Prop} {lv : List Value} {a : Nat} (hk : gm_kd h a = 5) : gm_W E d 36 15 lv (.ref a :: st) h Q ↔ gm_W E d 36 18 lv (gm_fv h a 38 :: st) h Q := gw_rd m36 f36_15 rfl rfl rfl rfl (gs_get k5_90 hk (by decide))
theorem f36_18 : gm_ft 36 18 = some (.iload_n 2, 1) := by decide +kernel
theorem r36_18 {E : Nat → Value} {d : Nat} {st : List Value} {h : gm_H} {Q : gm_R → gm_H → Prop} {a0 a1 a3 : Value} {x : Int32} : gm_W E d 36 18 [a0, a1, .int x, a3] st h Q ↔ gm_W E d 36 19 [a0, a1, .int x, a3] (.int x :: st) h Q := gw_loc m36 f36_18 rfl rfl
theorem f36_19 : gm_ft 36 19 = some (.aload_n 0, 1) := by decide +kernel
theorem r36_19 {E : Nat → Value} {d : Nat} {st : List Value} {h : gm_H} {Q : gm_R → gm_H → Prop} {a1 a2 a3 : Value} {x : Nat} : gm_W E d 36 19 [.ref x, a1, a2, a3] st h Q ↔ gm_W E d 36 20 [.ref x, a1, a2, a3] (.ref x :: st) h Q := gw_loc m36 f36_19 rfl rfl
theorem r36_19n {E : Nat → Value} {d : Nat} {st : List Value} {h : gm_H} {Q : gm_R → gm_H → Prop} {a1 a2 a3 : Value}  : gm_W E d 36 19 [.null, a1, a2, a3] st h Q ↔ gm_W E d 36 20 [.null, a1, a2, a3] (.null :: st) h Q := gw_loc m36 f36_19 rfl rfl
theorem f36_20 : gm_ft 36 20 = some (.getfield 178, 3) := by decide +kernel
theorem r36_20 {E : Nat → Value} {d : Nat} {st : List Value} {h : gm_H} {Q : gm_R → gm_H → Prop} {lv : List Value} {a : Nat} (hk : gm_kd h a = 5) : gm_W E d 36 20 lv (.ref a :: st) h Q ↔ gm_W E d 36 23 lv (gm_fv h a 9 :: st) h Q := gw_rd m36 f36_20 rfl rfl rfl rfl (gs_get k5_178 hk (by decide))
theorem f36_23 : gm_ft 36 23 = some (.iastore, 1) := by decide +kernel
theorem r36_23 {E : Nat → Value} {d : Nat} {st : List Value} {h : gm_H} {Q : gm_R → gm_H → Prop} {lv : List Value} {a j : Nat} {x : Int32} (hk : gm_kd h a = 200) (hj : j < gm_ln h a) (hl : gm_ln h a < 2 ^ 31) : gm_W E d 36 23 lv (.int x :: .int (nI j) :: .ref a :: st) h Q ↔ gm_W E d 36 24 lv st (gm_sf h a j (.int x)) Q := gw_wr m36 f36_23 rfl rfl rfl rfl rfl (gs_st hk (by decide) hj hl)
theorem f36_24 : gm_ft 36 24 = some (.aload_n 0, 1) := by decide +kernel
theorem r36_24 {E : Nat → Value} {d : Nat} {st : List Value} {h : gm_H} {Q : gm_R → gm_H → Prop} {a1 a2 a3 : Value} {x : Nat} : gm_W E d 36 24 [.ref x, a1, a2, a3] st h Q ↔ gm_W E d 36 25 [.ref x, a1, a2, a3] (.ref x :: st) h Q := gw_loc m36 f36_24 rfl rfl
theorem r36_24n {E : Nat → Value} {d : Nat} {st : List Value} {h : gm_H} {Q : gm_R → gm_H → Prop} {a1 a2 a3 : Value}  : gm_W E d 36 24 [.null, a1, a2, a3] st h Q ↔ gm_W E d 36 25 [.null, a1, a2, a3] (.null :: st) h Q := gw_loc m36 f36_24 rfl rfl
theorem f36_25 : gm_ft 36 25 = some (.getfield 75, 3) := by decide +kernel
theorem r36_25 {E : Nat → Value} {d : Nat} {st : List Value} {h : gm_H} {Q : gm_R → gm_H → Prop} {lv : List Value} {a : Nat} (hk : gm_kd h a = 5) : gm_W E d 36 25 lv (.ref a :: st) h Q ↔ gm_W E d 36 28 lv (gm_fv h a 33 :: st) h Q := gw_rd m36 f36_25 rfl rfl rfl rfl (gs_get k5_75 hk (by decide))
theorem f36_28 : gm_ft 36 28 = some (.iload_n 2, 1) := by decide +kernel
theorem r36_28 {E : Nat → Value} {d : Nat} {st : List Value} {h : gm_H} {Q : gm_R → gm_H → Prop} {a0 a1 a3 : Value} {x : Int32} : gm_W E d 36 28 [a0, a1, .int x, a3] st h Q ↔ gm_W E d 36 29 [a0, a1, .int x, a3] (.int x :: st) h Q := gw_loc m36 f36_28 rfl rfl
theorem f36_29 : gm_ft 36 29 = some (.iaload, 1) := by decide +kernel
theorem r36_29 {E : Nat → Value} {d : Nat} {st : List Value} {h : gm_H} {Q : gm_R → gm_H → Prop} {lv : List Value} {a j : Nat} (hk : gm_kd h a % 100 = 0 ∧ 100 ≤ gm_kd h a ∧ gm_kd h a < 900) (hj : j < gm_ln h a) (hl : gm_ln h a < 2 ^ 31) : gm_W E d 36 29 lv (.int (nI j) :: .ref a :: st) h Q ↔ gm_W E d 36 30 lv (gm_fv h a j :: st) h Q := gw_rd m36 f36_29 rfl rfl rfl rfl (gs_ld (P := fun t => t == 0) hk.2 (by have := hk.1; simp [this] <;> omega) hj hl)
theorem f36_30 : gm_ft 36 30 = some (.iconst 4, 1) := by decide +kernel
theorem r36_30 {E : Nat → Value} {d : Nat} {st : List Value} {h : gm_H} {Q : gm_R → gm_H → Prop} {lv : List Value} : gm_W E d 36 30 lv st h Q ↔ gm_W E d 36 31 lv (.int (4 : Int32) :: st) h Q := gw_pure m36 f36_30 rfl
theorem f36_31 : gm_ft 36 31 = some (.iand, 1) := by decide +kernel
theorem r36_31 {E : Nat → Value} {d : Nat} {st : List Value} {h : gm_H} {Q : gm_R → gm_H → Prop} {lv : List Value} {x y : Int32} : gm_W E d 36 31 lv (.int y :: .int x :: st) h Q ↔ gm_W E d 36 32 lv (.int (x &&& y) :: st) h Q := gw_pure m36 f36_31 rfl
theorem f36_32 : gm_ft 36 32 = some (.ifCond .eq 9, 3) := by decide +kernel
theorem r36_32 {E : Nat → Value} {d : Nat} {st : List Value} {h : gm_H} {Q : gm_R → gm_H → Prop} {lv : List Value} {x : Int32} : gm_W E d 36 32 lv (.int x :: st) h Q ↔ (if x = 0 then gm_W E d 36 41 lv st h Q else gm_W E d 36 35 lv st h Q) := (gw_br m36 f36_32 rfl rfl rfl rfl).trans gw_if
theorem f36_35 : gm_ft 36 35 = some (.aload_n 0, 1) := by decide +kernel
theorem r36_35 {E : Nat → Value} {d : Nat} {st : List Value} {h : gm_H} {Q : gm_R → gm_H → Prop} {a1 a2 a3 : Value} {x : Nat} : gm_W E d 36 35 [.ref x, a1, a2, a3] st h Q ↔ gm_W E d 36 36 [.ref x, a1, a2, a3] (.ref x :: st) h Q := gw_loc m36 f36_35 rfl rfl
theorem r36_35n {E : Nat → Value} {d : Nat} {st : List Value} {h : gm_H} {Q : gm_R → gm_H → Prop} {a1 a2 a3 : Value}  : gm_W E d 36 35 [.null, a1, a2, a3] st h Q ↔ gm_W E d 36 36 [.null, a1, a2, a3] (.null :: st) h Q := gw_loc m36 f36_35 rfl rfl
theorem f36_36 : gm_ft 36 36 = some (.bipush (-5), 2) := by decide +kernel
theorem r36_36 {E : Nat → Value} {d : Nat} {st : List Value} {h : gm_H} {Q : gm_R → gm_H → Prop} {lv : List Value} : gm_W E d 36 36 lv st h Q ↔ gm_W E d 36 38 lv (.int (-5 : Int32) :: st) h Q := gw_pure m36 f36_36 rfl
theorem f36_38 : gm_ft 36 38 = some (.invokevirtual 151, 3) := by decide +kernel
theorem c36_38 {E : Nat → Value} {d : Nat} {st : List Value} {h : gm_H} {Q : gm_R → gm_H → Prop} {lv : List Value} {b0 : Int32} {a : Nat} {Qc : gm_R → gm_H → Prop} (hs : (st.map fun v => v.category).sum ≤ 8) (hr : gm_kd h a = 5) (hd : 1 ≤ d) (hc : gm_Ca E (d - 1) 10 [.ref a, .int b0] h Qc) (kn : ∀ (v9 : Option Value) (h9 : gm_H), Qc (.inl v9) h9 → gm_W E d 36 41 lv (v9.toList ++ st) h9 Q) (kx : ∀ (x9 : Nat) (h9 : gm_H), Qc (.inr x9) h9 → Q (.inr x9) h9) : gm_W E d 36 38 lv (.int b0 :: .ref a :: st) h Q := gw_call (gn_call m36 f36_38 rfl rfl rfl rfl rfl rfl rfl (gs_virt (bs := [.int b0]) (w := 844) (L := 2) rfl rfl rfl rfl hs (by simp [gm_en1]) hr (by decide)) (by decide)) m36 rfl rfl hd hc kn kx
theorem f36_41 : gm_ft 36 41 = some (.iload_n 3, 1) := by decide +kernel
theorem r36_41 {E : Nat → Value} {d : Nat} {st : List Value} {h : gm_H} {Q : gm_R → gm_H → Prop} {a0 a1 a2 : Value} {x : Int32} : gm_W E d 36 41 [a0, a1, a2, .int x] st h Q ↔ gm_W E d 36 42 [a0, a1, a2, .int x] (.int x :: st) h Q := gw_loc m36 f36_41 rfl rfl
theorem f36_42 : gm_ft 36 42 = some (.ifCond .lt 111, 3) := by decide +kernel
theorem r36_42 {E : Nat → Value} {d : Nat} {st : List Value} {h : gm_H} {Q : gm_R → gm_H → Prop} {lv : List Value} {x : Int32} : gm_W E d 36 42 lv (.int x :: st) h Q ↔ (if x < 0 then gm_W E d 36 153 lv st h Q else gm_W E d 36 45 lv st h Q) := (gw_br m36 f36_42 rfl rfl rfl rfl).trans gw_if
theorem f36_45 : gm_ft 36 45 = some (.aload_n 0, 1) := by decide +kernel
theorem r36_45 {E : Nat → Value} {d : Nat} {st : List Value} {h : gm_H} {Q : gm_R → gm_H → Prop} {a1 a2 a3 : Value} {x : Nat} : gm_W E d 36 45 [.ref x, a1, a2, a3] st h Q ↔ gm_W E d 36 46 [.ref x, a1, a2, a3] (.ref x :: st) h Q := gw_loc m36 f36_45 rfl rfl
theorem r36_45n {E : Nat → Value} {d : Nat} {st : List Value} {h : gm_H} {Q : gm_R → gm_H → Prop} {a1 a2 a3 : Value}  : gm_W E d 36 45 [.null, a1, a2, a3] st h Q ↔ gm_W E d 36 46 [.null, a1, a2, a3] (.null :: st) h Q := gw_loc m36 f36_45 rfl rfl
theorem f36_46 : gm_ft 36 46 = some (.getfield 75, 3) := by decide +kernel
theorem r36_46 {E : Nat → Value} {d : Nat} {st : List Value} {h : gm_H} {Q : gm_R → gm_H → Prop} {lv : List Value} {a : Nat} (hk : gm_kd h a = 5) : gm_W E d 36 46 lv (.ref a :: st) h Q ↔ gm_W E d 36 49 lv (gm_fv h a 33 :: st) h Q := gw_rd m36 f36_46 rfl rfl rfl rfl (gs_get k5_75 hk (by decide))
theorem f36_49 : gm_ft 36 49 = some (.iload_n 2, 1) := by decide +kernel
theorem r36_49 {E : Nat → Value} {d : Nat} {st : List Value} {h : gm_H} {Q : gm_R → gm_H → Prop} {a0 a1 a3 : Value} {x : Int32} : gm_W E d 36 49 [a0, a1, .int x, a3] st h Q ↔ gm_W E d 36 50 [a0, a1, .int x, a3] (.int x :: st) h Q := gw_loc m36 f36_49 rfl rfl
theorem f36_50 : gm_ft 36 50 = some (.iaload, 1) := by decide +kernel
theorem r36_50 {E : Nat → Value} {d : Nat} {st : List Value} {h : gm_H} {Q : gm_R → gm_H → Prop} {lv : List Value} {a j : Nat} (hk : gm_kd h a % 100 = 0 ∧ 100 ≤ gm_kd h a ∧ gm_kd h a < 900) (hj : j < gm_ln h a) (hl : gm_ln h a < 2 ^ 31) : gm_W E d 36 50 lv (.int (nI j) :: .ref a :: st) h Q ↔ gm_W E d 36 51 lv (gm_fv h a j :: st) h Q := gw_rd m36 f36_50 rfl rfl rfl rfl (gs_ld (P := fun t => t == 0) hk.2 (by have := hk.1; simp [this] <;> omega) hj hl)
theorem f36_51 : gm_ft 36 51 = some (.bipush 16, 2) := by decide +kernel
theorem r36_51 {E : Nat → Value} {d : Nat} {st : List Value} {h : gm_H} {Q : gm_R → gm_H → Prop} {lv : List Value} : gm_W E d 36 51 lv st h Q ↔ gm_W E d 36 53 lv (.int (16 : Int32) :: st) h Q := gw_pure m36 f36_51 rfl
theorem f36_53 : gm_ft 36 53 = some (.iand, 1) := by decide +kernel
theorem r36_53 {E : Nat → Value} {d : Nat} {st : List Value} {h : gm_H} {Q : gm_R → gm_H → Prop} {lv : List Value} {x y : Int32} : gm_W E d 36 53 lv (.int y :: .int x :: st) h Q ↔ gm_W E d 36 54 lv (.int (x &&& y) :: st) h Q := gw_pure m36 f36_53 rfl
theorem f36_54 : gm_ft 36 54 = some (.ifCond .eq 7, 3) := by decide +kernel
theorem r36_54 {E : Nat → Value} {d : Nat} {st : List Value} {h : gm_H} {Q : gm_R → gm_H → Prop} {lv : List Value} {x : Int32} : gm_W E d 36 54 lv (.int x :: st) h Q ↔ (if x = 0 then gm_W E d 36 61 lv st h Q else gm_W E d 36 57 lv st h Q) := (gw_br m36 f36_54 rfl rfl rfl rfl).trans gw_if
theorem f36_57 : gm_ft 36 57 = some (.iconst 1, 1) := by decide +kernel
theorem r36_57 {E : Nat → Value} {d : Nat} {st : List Value} {h : gm_H} {Q : gm_R → gm_H → Prop} {lv : List Value} : gm_W E d 36 57 lv st h Q ↔ gm_W E d 36 58 lv (.int (1 : Int32) :: st) h Q := gw_pure m36 f36_57 rfl
theorem f36_58 : gm_ft 36 58 = some (.goto 4, 3) := by decide +kernel
theorem r36_58 {E : Nat → Value} {d : Nat} {st : List Value} {h : gm_H} {Q : gm_R → gm_H → Prop} {lv : List Value} : gm_W E d 36 58 lv st h Q ↔ gm_W E d 36 62 lv st h Q := gw_brT m36 f36_58 rfl rfl rfl rfl
theorem f36_61 : gm_ft 36 61 = some (.iconst 0, 1) := by decide +kernel
theorem r36_61 {E : Nat → Value} {d : Nat} {st : List Value} {h : gm_H} {Q : gm_R → gm_H → Prop} {lv : List Value} : gm_W E d 36 61 lv st h Q ↔ gm_W E d 36 62 lv (.int (0 : Int32) :: st) h Q := gw_pure m36 f36_61 rfl
theorem f36_62 : gm_ft 36 62 = some (.aload_n 0, 1) := by decide +kernel
theorem r36_62 {E : Nat → Value} {d : Nat} {st : List Value} {h : gm_H} {Q : gm_R → gm_H → Prop} {a1 a2 a3 : Value} {x : Nat} : gm_W E d 36 62 [.ref x, a1, a2, a3] st h Q ↔ gm_W E d 36 63 [.ref x, a1, a2, a3] (.ref x :: st) h Q := gw_loc m36 f36_62 rfl rfl
theorem r36_62n {E : Nat → Value} {d : Nat} {st : List Value} {h : gm_H} {Q : gm_R → gm_H → Prop} {a1 a2 a3 : Value}  : gm_W E d 36 62 [.null, a1, a2, a3] st h Q ↔ gm_W E d 36 63 [.null, a1, a2, a3] (.null :: st) h Q := gw_loc m36 f36_62 rfl rfl
theorem f36_63 : gm_ft 36 63 = some (.getfield 13, 3) := by decide +kernel
theorem r36_63 {E : Nat → Value} {d : Nat} {st : List Value} {h : gm_H} {Q : gm_R → gm_H → Prop} {lv : List Value} {a : Nat} (hk : gm_kd h a = 5) : gm_W E d 36 63 lv (.ref a :: st) h Q ↔ gm_W E d 36 66 lv (gm_fv h a 10 :: st) h Q := gw_rd m36 f36_63 rfl rfl rfl rfl (gs_get k5_13 hk (by decide))
theorem f36_66 : gm_ft 36 66 = some (.iload_n 3, 1) := by decide +kernel
theorem r36_66 {E : Nat → Value} {d : Nat} {st : List Value} {h : gm_H} {Q : gm_R → gm_H → Prop} {a0 a1 a2 : Value} {x : Int32} : gm_W E d 36 66 [a0, a1, a2, .int x] st h Q ↔ gm_W E d 36 67 [a0, a1, a2, .int x] (.int x :: st) h Q := gw_loc m36 f36_66 rfl rfl
theorem f36_67 : gm_ft 36 67 = some (.iaload, 1) := by decide +kernel
theorem r36_67 {E : Nat → Value} {d : Nat} {st : List Value} {h : gm_H} {Q : gm_R → gm_H → Prop} {lv : List Value} {a j : Nat} (hk : gm_kd h a % 100 = 0 ∧ 100 ≤ gm_kd h a ∧ gm_kd h a < 900) (hj : j < gm_ln h a) (hl : gm_ln h a < 2 ^ 31) : gm_W E d 36 67 lv (.int (nI j) :: .ref a :: st) h Q ↔ gm_W E d 36 68 lv (gm_fv h a j :: st) h Q := gw_rd m36 f36_67 rfl rfl rfl rfl (gs_ld (P := fun t => t == 0) hk.2 (by have := hk.1; simp [this] <;> omega) hj hl)
theorem f36_68 : gm_ft 36 68 = some (.iconst 3, 1) := by decide +kernel
theorem r36_68 {E : Nat → Value} {d : Nat} {st : List Value} {h : gm_H} {Q : gm_R → gm_H → Prop} {lv : List Value} : gm_W E d 36 68 lv st h Q ↔ gm_W E d 36 69 lv (.int (3 : Int32) :: st) h Q := gw_pure m36 f36_68 rfl
theorem f36_69 : gm_ft 36 69 = some (.if_icmp .ne 7, 3) := by decide +kernel
theorem r36_69 {E : Nat → Value} {d : Nat} {st : List Value} {h : gm_H} {Q : gm_R → gm_H → Prop} {lv : List Value} {x y : Int32} : gm_W E d 36 69 lv (.int y :: .int x :: st) h Q ↔ (if x = y then gm_W E d 36 72 lv st h Q else gm_W E d 36 76 lv st h Q) := (gw_br m36 f36_69 rfl rfl rfl rfl).trans gw_ifn
theorem f36_72 : gm_ft 36 72 = some (.iconst 1, 1) := by decide +kernel
theorem r36_72 {E : Nat → Value} {d : Nat} {st : List Value} {h : gm_H} {Q : gm_R → gm_H → Prop} {lv : List Value} : gm_W E d 36 72 lv st h Q ↔ gm_W E d 36 73 lv (.int (1 : Int32) :: st) h Q := gw_pure m36 f36_72 rfl
theorem f36_73 : gm_ft 36 73 = some (.goto 4, 3) := by decide +kernel
theorem r36_73 {E : Nat → Value} {d : Nat} {st : List Value} {h : gm_H} {Q : gm_R → gm_H → Prop} {lv : List Value} : gm_W E d 36 73 lv st h Q ↔ gm_W E d 36 77 lv st h Q := gw_brT m36 f36_73 rfl rfl rfl rfl
theorem f36_76 : gm_ft 36 76 = some (.iconst 0, 1) := by decide +kernel
theorem r36_76 {E : Nat → Value} {d : Nat} {st : List Value} {h : gm_H} {Q : gm_R → gm_H → Prop} {lv : List Value} : gm_W E d 36 76 lv st h Q ↔ gm_W E d 36 77 lv (.int (0 : Int32) :: st) h Q := gw_pure m36 f36_76 rfl
theorem f36_77 : gm_ft 36 77 = some (.if_icmp .eq 9, 3) := by decide +kernel
theorem r36_77 {E : Nat → Value} {d : Nat} {st : List Value} {h : gm_H} {Q : gm_R → gm_H → Prop} {lv : List Value} {x y : Int32} : gm_W E d 36 77 lv (.int y :: .int x :: st) h Q ↔ (if x = y then gm_W E d 36 86 lv st h Q else gm_W E d 36 80 lv st h Q) := (gw_br m36 f36_77 rfl rfl rfl rfl).trans gw_if
theorem f36_80 : gm_ft 36 80 = some (.aload_n 0, 1) := by decide +kernel
theorem r36_80 {E : Nat → Value} {d : Nat} {st : List Value} {h : gm_H} {Q : gm_R → gm_H → Prop} {a1 a2 a3 : Value} {x : Nat} : gm_W E d 36 80 [.ref x, a1, a2, a3] st h Q ↔ gm_W E d 36 81 [.ref x, a1, a2, a3] (.ref x :: st) h Q := gw_loc m36 f36_80 rfl rfl
theorem r36_80n {E : Nat → Value} {d : Nat} {st : List Value} {h : gm_H} {Q : gm_R → gm_H → Prop} {a1 a2 a3 : Value}  : gm_W E d 36 80 [.null, a1, a2, a3] st h Q ↔ gm_W E d 36 81 [.null, a1, a2, a3] (.null :: st) h Q := gw_loc m36 f36_80 rfl rfl
theorem f36_81 : gm_ft 36 81 = some (.bipush (-5), 2) := by decide +kernel
theorem r36_81 {E : Nat → Value} {d : Nat} {st : List Value} {h : gm_H} {Q : gm_R → gm_H → Prop} {lv : List Value} : gm_W E d 36 81 lv st h Q ↔ gm_W E d 36 83 lv (.int (-5 : Int32) :: st) h Q := gw_pure m36 f36_81 rfl
theorem f36_83 : gm_ft 36 83 = some (.invokevirtual 151, 3) := by decide +kernel
theorem c36_83 {E : Nat → Value} {d : Nat} {st : List Value} {h : gm_H} {Q : gm_R → gm_H → Prop} {lv : List Value} {b0 : Int32} {a : Nat} {Qc : gm_R → gm_H → Prop} (hs : (st.map fun v => v.category).sum ≤ 8) (hr : gm_kd h a = 5) (hd : 1 ≤ d) (hc : gm_Ca E (d - 1) 10 [.ref a, .int b0] h Qc) (kn : ∀ (v9 : Option Value) (h9 : gm_H), Qc (.inl v9) h9 → gm_W E d 36 86 lv (v9.toList ++ st) h9 Q) (kx : ∀ (x9 : Nat) (h9 : gm_H), Qc (.inr x9) h9 → Q (.inr x9) h9) : gm_W E d 36 83 lv (.int b0 :: .ref a :: st) h Q := gw_call (gn_call m36 f36_83 rfl rfl rfl rfl rfl rfl rfl (gs_virt (bs := [.int b0]) (w := 844) (L := 2) rfl rfl rfl rfl hs (by simp [gm_en1]) hr (by decide)) (by decide)) m36 rfl rfl hd hc kn kx
theorem f36_86 : gm_ft 36 86 = some (.aload_n 0, 1) := by decide +kernel
theorem r36_86 {E : Nat → Value} {d : Nat} {st : List Value} {h : gm_H} {Q : gm_R → gm_H → Prop} {a1 a2 a3 : Value} {x : Nat} : gm_W E d 36 86 [.ref x, a1, a2, a3] st h Q ↔ gm_W E d 36 87 [.ref x, a1, a2, a3] (.ref x :: st) h Q := gw_loc m36 f36_86 rfl rfl
theorem r36_86n {E : Nat → Value} {d : Nat} {st : List Value} {h : gm_H} {Q : gm_R → gm_H → Prop} {a1 a2 a3 : Value}  : gm_W E d 36 86 [.null, a1, a2, a3] st h Q ↔ gm_W E d 36 87 [.null, a1, a2, a3] (.null :: st) h Q := gw_loc m36 f36_86 rfl rfl
theorem f36_87 : gm_ft 36 87 = some (.getfield 75, 3) := by decide +kernel
theorem r36_87 {E : Nat → Value} {d : Nat} {st : List Value} {h : gm_H} {Q : gm_R → gm_H → Prop} {lv : List Value} {a : Nat} (hk : gm_kd h a = 5) : gm_W E d 36 87 lv (.ref a :: st) h Q ↔ gm_W E d 36 90 lv (gm_fv h a 33 :: st) h Q := gw_rd m36 f36_87 rfl rfl rfl rfl (gs_get k5_75 hk (by decide))
theorem f36_90 : gm_ft 36 90 = some (.iload_n 2, 1) := by decide +kernel
theorem r36_90 {E : Nat → Value} {d : Nat} {st : List Value} {h : gm_H} {Q : gm_R → gm_H → Prop} {a0 a1 a3 : Value} {x : Int32} : gm_W E d 36 90 [a0, a1, .int x, a3] st h Q ↔ gm_W E d 36 91 [a0, a1, .int x, a3] (.int x :: st) h Q := gw_loc m36 f36_90 rfl rfl
theorem f36_91 : gm_ft 36 91 = some (.iaload, 1) := by decide +kernel
theorem r36_91 {E : Nat → Value} {d : Nat} {st : List Value} {h : gm_H} {Q : gm_R → gm_H → Prop} {lv : List Value} {a j : Nat} (hk : gm_kd h a % 100 = 0 ∧ 100 ≤ gm_kd h a ∧ gm_kd h a < 900) (hj : j < gm_ln h a) (hl : gm_ln h a < 2 ^ 31) : gm_W E d 36 91 lv (.int (nI j) :: .ref a :: st) h Q ↔ gm_W E d 36 92 lv (gm_fv h a j :: st) h Q := gw_rd m36 f36_91 rfl rfl rfl rfl (gs_ld (P := fun t => t == 0) hk.2 (by have := hk.1; simp [this] <;> omega) hj hl)
theorem f36_92 : gm_ft 36 92 = some (.iconst 2, 1) := by decide +kernel
theorem r36_92 {E : Nat → Value} {d : Nat} {st : List Value} {h : gm_H} {Q : gm_R → gm_H → Prop} {lv : List Value} : gm_W E d 36 92 lv st h Q ↔ gm_W E d 36 93 lv (.int (2 : Int32) :: st) h Q := gw_pure m36 f36_92 rfl
theorem f36_93 : gm_ft 36 93 = some (.iand, 1) := by decide +kernel
theorem r36_93 {E : Nat → Value} {d : Nat} {st : List Value} {h : gm_H} {Q : gm_R → gm_H → Prop} {lv : List Value} {x y : Int32} : gm_W E d 36 93 lv (.int y :: .int x :: st) h Q ↔ gm_W E d 36 94 lv (.int (x &&& y) :: st) h Q := gw_pure m36 f36_93 rfl
theorem f36_94 : gm_ft 36 94 = some (.ifCond .eq 44, 3) := by decide +kernel
theorem r36_94 {E : Nat → Value} {d : Nat} {st : List Value} {h : gm_H} {Q : gm_R → gm_H → Prop} {lv : List Value} {x : Int32} : gm_W E d 36 94 lv (.int x :: st) h Q ↔ (if x = 0 then gm_W E d 36 138 lv st h Q else gm_W E d 36 97 lv st h Q) := (gw_br m36 f36_94 rfl rfl rfl rfl).trans gw_if
theorem f36_97 : gm_ft 36 97 = some (.aload_n 0, 1) := by decide +kernel
theorem r36_97 {E : Nat → Value} {d : Nat} {st : List Value} {h : gm_H} {Q : gm_R → gm_H → Prop} {a1 a2 a3 : Value} {x : Nat} : gm_W E d 36 97 [.ref x, a1, a2, a3] st h Q ↔ gm_W E d 36 98 [.ref x, a1, a2, a3] (.ref x :: st) h Q := gw_loc m36 f36_97 rfl rfl
theorem r36_97n {E : Nat → Value} {d : Nat} {st : List Value} {h : gm_H} {Q : gm_R → gm_H → Prop} {a1 a2 a3 : Value}  : gm_W E d 36 97 [.null, a1, a2, a3] st h Q ↔ gm_W E d 36 98 [.null, a1, a2, a3] (.null :: st) h Q := gw_loc m36 f36_97 rfl rfl
theorem f36_98 : gm_ft 36 98 = some (.getfield 13, 3) := by decide +kernel
theorem r36_98 {E : Nat → Value} {d : Nat} {st : List Value} {h : gm_H} {Q : gm_R → gm_H → Prop} {lv : List Value} {a : Nat} (hk : gm_kd h a = 5) : gm_W E d 36 98 lv (.ref a :: st) h Q ↔ gm_W E d 36 101 lv (gm_fv h a 10 :: st) h Q := gw_rd m36 f36_98 rfl rfl rfl rfl (gs_get k5_13 hk (by decide))
theorem f36_101 : gm_ft 36 101 = some (.iload_n 3, 1) := by decide +kernel
theorem r36_101 {E : Nat → Value} {d : Nat} {st : List Value} {h : gm_H} {Q : gm_R → gm_H → Prop} {a0 a1 a2 : Value} {x : Int32} : gm_W E d 36 101 [a0, a1, a2, .int x] st h Q ↔ gm_W E d 36 102 [a0, a1, a2, .int x] (.int x :: st) h Q := gw_loc m36 f36_101 rfl rfl
theorem f36_102 : gm_ft 36 102 = some (.iaload, 1) := by decide +kernel
theorem r36_102 {E : Nat → Value} {d : Nat} {st : List Value} {h : gm_H} {Q : gm_R → gm_H → Prop} {lv : List Value} {a j : Nat} (hk : gm_kd h a % 100 = 0 ∧ 100 ≤ gm_kd h a ∧ gm_kd h a < 900) (hj : j < gm_ln h a) (hl : gm_ln h a < 2 ^ 31) : gm_W E d 36 102 lv (.int (nI j) :: .ref a :: st) h Q ↔ gm_W E d 36 103 lv (gm_fv h a j :: st) h Q := gw_rd m36 f36_102 rfl rfl rfl rfl (gs_ld (P := fun t => t == 0) hk.2 (by have := hk.1; simp [this] <;> omega) hj hl)
theorem f36_103 : gm_ft 36 103 = some (.ifCond .eq 35, 3) := by decide +kernel
theorem r36_103 {E : Nat → Value} {d : Nat} {st : List Value} {h : gm_H} {Q : gm_R → gm_H → Prop} {lv : List Value} {x : Int32} : gm_W E d 36 103 lv (.int x :: st) h Q ↔ (if x = 0 then gm_W E d 36 138 lv st h Q else gm_W E d 36 106 lv st h Q) := (gw_br m36 f36_103 rfl rfl rfl rfl).trans gw_if
theorem f36_106 : gm_ft 36 106 = some (.aload_n 0, 1) := by decide +kernel
theorem r36_106 {E : Nat → Value} {d : Nat} {st : List Value} {h : gm_H} {Q : gm_R → gm_H → Prop} {a1 a2 a3 : Value} {x : Nat} : gm_W E d 36 106 [.ref x, a1, a2, a3] st h Q ↔ gm_W E d 36 107 [.ref x, a1, a2, a3] (.ref x :: st) h Q := gw_loc m36 f36_106 rfl rfl
theorem r36_106n {E : Nat → Value} {d : Nat} {st : List Value} {h : gm_H} {Q : gm_R → gm_H → Prop} {a1 a2 a3 : Value}  : gm_W E d 36 106 [.null, a1, a2, a3] st h Q ↔ gm_W E d 36 107 [.null, a1, a2, a3] (.null :: st) h Q := gw_loc m36 f36_106 rfl rfl
theorem f36_107 : gm_ft 36 107 = some (.getfield 13, 3) := by decide +kernel
theorem r36_107 {E : Nat → Value} {d : Nat} {st : List Value} {h : gm_H} {Q : gm_R → gm_H → Prop} {lv : List Value} {a : Nat} (hk : gm_kd h a = 5) : gm_W E d 36 107 lv (.ref a :: st) h Q ↔ gm_W E d 36 110 lv (gm_fv h a 10 :: st) h Q := gw_rd m36 f36_107 rfl rfl rfl rfl (gs_get k5_13 hk (by decide))
theorem f36_110 : gm_ft 36 110 = some (.iload_n 3, 1) := by decide +kernel
theorem r36_110 {E : Nat → Value} {d : Nat} {st : List Value} {h : gm_H} {Q : gm_R → gm_H → Prop} {a0 a1 a2 : Value} {x : Int32} : gm_W E d 36 110 [a0, a1, a2, .int x] st h Q ↔ gm_W E d 36 111 [a0, a1, a2, .int x] (.int x :: st) h Q := gw_loc m36 f36_110 rfl rfl
theorem f36_111 : gm_ft 36 111 = some (.iaload, 1) := by decide +kernel
theorem r36_111 {E : Nat → Value} {d : Nat} {st : List Value} {h : gm_H} {Q : gm_R → gm_H → Prop} {lv : List Value} {a j : Nat} (hk : gm_kd h a % 100 = 0 ∧ 100 ≤ gm_kd h a ∧ gm_kd h a < 900) (hj : j < gm_ln h a) (hl : gm_ln h a < 2 ^ 31) : gm_W E d 36 111 lv (.int (nI j) :: .ref a :: st) h Q ↔ gm_W E d 36 112 lv (gm_fv h a j :: st) h Q := gw_rd m36 f36_111 rfl rfl rfl rfl (gs_ld (P := fun t => t == 0) hk.2 (by have := hk.1; simp [this] <;> omega) hj hl)
theorem f36_112 : gm_ft 36 112 = some (.iconst 3, 1) := by decide +kernel
theorem r36_112 {E : Nat → Value} {d : Nat} {st : List Value} {h : gm_H} {Q : gm_R → gm_H → Prop} {lv : List Value} : gm_W E d 36 112 lv st h Q ↔ gm_W E d 36 113 lv (.int (3 : Int32) :: st) h Q := gw_pure m36 f36_112 rfl
theorem f36_113 : gm_ft 36 113 = some (.if_icmp .eq 25, 3) := by decide +kernel
theorem r36_113 {E : Nat → Value} {d : Nat} {st : List Value} {h : gm_H} {Q : gm_R → gm_H → Prop} {lv : List Value} {x y : Int32} : gm_W E d 36 113 lv (.int y :: .int x :: st) h Q ↔ (if x = y then gm_W E d 36 138 lv st h Q else gm_W E d 36 116 lv st h Q) := (gw_br m36 f36_113 rfl rfl rfl rfl).trans gw_if
theorem f36_116 : gm_ft 36 116 = some (.aload_n 0, 1) := by decide +kernel
theorem r36_116 {E : Nat → Value} {d : Nat} {st : List Value} {h : gm_H} {Q : gm_R → gm_H → Prop} {a1 a2 a3 : Value} {x : Nat} : gm_W E d 36 116 [.ref x, a1, a2, a3] st h Q ↔ gm_W E d 36 117 [.ref x, a1, a2, a3] (.ref x :: st) h Q := gw_loc m36 f36_116 rfl rfl
theorem r36_116n {E : Nat → Value} {d : Nat} {st : List Value} {h : gm_H} {Q : gm_R → gm_H → Prop} {a1 a2 a3 : Value}  : gm_W E d 36 116 [.null, a1, a2, a3] st h Q ↔ gm_W E d 36 117 [.null, a1, a2, a3] (.null :: st) h Q := gw_loc m36 f36_116 rfl rfl
theorem f36_117 : gm_ft 36 117 = some (.getfield 16, 3) := by decide +kernel
theorem r36_117 {E : Nat → Value} {d : Nat} {st : List Value} {h : gm_H} {Q : gm_R → gm_H → Prop} {lv : List Value} {a : Nat} (hk : gm_kd h a = 5) : gm_W E d 36 117 lv (.ref a :: st) h Q ↔ gm_W E d 36 120 lv (gm_fv h a 11 :: st) h Q := gw_rd m36 f36_117 rfl rfl rfl rfl (gs_get k5_16 hk (by decide))
theorem f36_120 : gm_ft 36 120 = some (.iload_n 3, 1) := by decide +kernel
theorem r36_120 {E : Nat → Value} {d : Nat} {st : List Value} {h : gm_H} {Q : gm_R → gm_H → Prop} {a0 a1 a2 : Value} {x : Int32} : gm_W E d 36 120 [a0, a1, a2, .int x] st h Q ↔ gm_W E d 36 121 [a0, a1, a2, .int x] (.int x :: st) h Q := gw_loc m36 f36_120 rfl rfl
theorem f36_121 : gm_ft 36 121 = some (.laload, 1) := by decide +kernel
theorem r36_121 {E : Nat → Value} {d : Nat} {st : List Value} {h : gm_H} {Q : gm_R → gm_H → Prop} {lv : List Value} {a j : Nat} (hk : gm_kd h a % 100 = 1 ∧ 100 ≤ gm_kd h a ∧ gm_kd h a < 900) (hj : j < gm_ln h a) (hl : gm_ln h a < 2 ^ 31) : gm_W E d 36 121 lv (.int (nI j) :: .ref a :: st) h Q ↔ gm_W E d 36 122 lv (gm_fv h a j :: st) h Q := gw_rd m36 f36_121 rfl rfl rfl rfl (gs_ld (P := fun t => t == 1) hk.2 (by have := hk.1; simp [this] <;> omega) hj hl)
theorem f36_122 : gm_ft 36 122 = some (.aload_n 0, 1) := by decide +kernel
theorem r36_122 {E : Nat → Value} {d : Nat} {st : List Value} {h : gm_H} {Q : gm_R → gm_H → Prop} {a1 a2 a3 : Value} {x : Nat} : gm_W E d 36 122 [.ref x, a1, a2, a3] st h Q ↔ gm_W E d 36 123 [.ref x, a1, a2, a3] (.ref x :: st) h Q := gw_loc m36 f36_122 rfl rfl
theorem r36_122n {E : Nat → Value} {d : Nat} {st : List Value} {h : gm_H} {Q : gm_R → gm_H → Prop} {a1 a2 a3 : Value}  : gm_W E d 36 122 [.null, a1, a2, a3] st h Q ↔ gm_W E d 36 123 [.null, a1, a2, a3] (.null :: st) h Q := gw_loc m36 f36_122 rfl rfl
theorem f36_123 : gm_ft 36 123 = some (.getfield 78, 3) := by decide +kernel
theorem r36_123 {E : Nat → Value} {d : Nat} {st : List Value} {h : gm_H} {Q : gm_R → gm_H → Prop} {lv : List Value} {a : Nat} (hk : gm_kd h a = 5) : gm_W E d 36 123 lv (.ref a :: st) h Q ↔ gm_W E d 36 126 lv (gm_fv h a 34 :: st) h Q := gw_rd m36 f36_123 rfl rfl rfl rfl (gs_get k5_78 hk (by decide))
theorem f36_126 : gm_ft 36 126 = some (.iload_n 2, 1) := by decide +kernel
theorem r36_126 {E : Nat → Value} {d : Nat} {st : List Value} {h : gm_H} {Q : gm_R → gm_H → Prop} {a0 a1 a3 : Value} {x : Int32} : gm_W E d 36 126 [a0, a1, .int x, a3] st h Q ↔ gm_W E d 36 127 [a0, a1, .int x, a3] (.int x :: st) h Q := gw_loc m36 f36_126 rfl rfl
theorem f36_127 : gm_ft 36 127 = some (.laload, 1) := by decide +kernel
theorem r36_127 {E : Nat → Value} {d : Nat} {st : List Value} {h : gm_H} {Q : gm_R → gm_H → Prop} {lv : List Value} {a j : Nat} (hk : gm_kd h a % 100 = 1 ∧ 100 ≤ gm_kd h a ∧ gm_kd h a < 900) (hj : j < gm_ln h a) (hl : gm_ln h a < 2 ^ 31) : gm_W E d 36 127 lv (.int (nI j) :: .ref a :: st) h Q ↔ gm_W E d 36 128 lv (gm_fv h a j :: st) h Q := gw_rd m36 f36_127 rfl rfl rfl rfl (gs_ld (P := fun t => t == 1) hk.2 (by have := hk.1; simp [this] <;> omega) hj hl)
theorem f36_128 : gm_ft 36 128 = some (.lcmp, 1) := by decide +kernel
theorem r36_128 {E : Nat → Value} {d : Nat} {st : List Value} {h : gm_H} {Q : gm_R → gm_H → Prop} {lv : List Value} {x y : Int64} : gm_W E d 36 128 lv (.long y :: .long x :: st) h Q ↔ gm_W E d 36 129 lv (.int (lg_cmp x y) :: st) h Q := gw_pure m36 f36_128 rfl
theorem f36_129 : gm_ft 36 129 = some (.ifCond .eq 9, 3) := by decide +kernel
theorem r36_129 {E : Nat → Value} {d : Nat} {st : List Value} {h : gm_H} {Q : gm_R → gm_H → Prop} {lv : List Value} {x : Int32} : gm_W E d 36 129 lv (.int x :: st) h Q ↔ (if x = 0 then gm_W E d 36 138 lv st h Q else gm_W E d 36 132 lv st h Q) := (gw_br m36 f36_129 rfl rfl rfl rfl).trans gw_if
theorem f36_132 : gm_ft 36 132 = some (.aload_n 0, 1) := by decide +kernel
theorem r36_132 {E : Nat → Value} {d : Nat} {st : List Value} {h : gm_H} {Q : gm_R → gm_H → Prop} {a1 a2 a3 : Value} {x : Nat} : gm_W E d 36 132 [.ref x, a1, a2, a3] st h Q ↔ gm_W E d 36 133 [.ref x, a1, a2, a3] (.ref x :: st) h Q := gw_loc m36 f36_132 rfl rfl
theorem r36_132n {E : Nat → Value} {d : Nat} {st : List Value} {h : gm_H} {Q : gm_R → gm_H → Prop} {a1 a2 a3 : Value}  : gm_W E d 36 132 [.null, a1, a2, a3] st h Q ↔ gm_W E d 36 133 [.null, a1, a2, a3] (.null :: st) h Q := gw_loc m36 f36_132 rfl rfl
theorem f36_133 : gm_ft 36 133 = some (.bipush (-5), 2) := by decide +kernel
theorem r36_133 {E : Nat → Value} {d : Nat} {st : List Value} {h : gm_H} {Q : gm_R → gm_H → Prop} {lv : List Value} : gm_W E d 36 133 lv st h Q ↔ gm_W E d 36 135 lv (.int (-5 : Int32) :: st) h Q := gw_pure m36 f36_133 rfl
theorem f36_135 : gm_ft 36 135 = some (.invokevirtual 151, 3) := by decide +kernel
theorem c36_135 {E : Nat → Value} {d : Nat} {st : List Value} {h : gm_H} {Q : gm_R → gm_H → Prop} {lv : List Value} {b0 : Int32} {a : Nat} {Qc : gm_R → gm_H → Prop} (hs : (st.map fun v => v.category).sum ≤ 8) (hr : gm_kd h a = 5) (hd : 1 ≤ d) (hc : gm_Ca E (d - 1) 10 [.ref a, .int b0] h Qc) (kn : ∀ (v9 : Option Value) (h9 : gm_H), Qc (.inl v9) h9 → gm_W E d 36 138 lv (v9.toList ++ st) h9 Q) (kx : ∀ (x9 : Nat) (h9 : gm_H), Qc (.inr x9) h9 → Q (.inr x9) h9) : gm_W E d 36 135 lv (.int b0 :: .ref a :: st) h Q := gw_call (gn_call m36 f36_135 rfl rfl rfl rfl rfl rfl rfl (gs_virt (bs := [.int b0]) (w := 844) (L := 2) rfl rfl rfl rfl hs (by simp [gm_en1]) hr (by decide)) (by decide)) m36 rfl rfl hd hc kn kx
theorem f36_138 : gm_ft 36 138 = some (.aload_n 0, 1) := by decide +kernel
theorem r36_138 {E : Nat → Value} {d : Nat} {st : List Value} {h : gm_H} {Q : gm_R → gm_H → Prop} {a1 a2 a3 : Value} {x : Nat} : gm_W E d 36 138 [.ref x, a1, a2, a3] st h Q ↔ gm_W E d 36 139 [.ref x, a1, a2, a3] (.ref x :: st) h Q := gw_loc m36 f36_138 rfl rfl
theorem r36_138n {E : Nat → Value} {d : Nat} {st : List Value} {h : gm_H} {Q : gm_R → gm_H → Prop} {a1 a2 a3 : Value}  : gm_W E d 36 138 [.null, a1, a2, a3] st h Q ↔ gm_W E d 36 139 [.null, a1, a2, a3] (.null :: st) h Q := gw_loc m36 f36_138 rfl rfl
theorem f36_139 : gm_ft 36 139 = some (.iload_n 2, 1) := by decide +kernel
theorem r36_139 {E : Nat → Value} {d : Nat} {st : List Value} {h : gm_H} {Q : gm_R → gm_H → Prop} {a0 a1 a3 : Value} {x : Int32} : gm_W E d 36 139 [a0, a1, .int x, a3] st h Q ↔ gm_W E d 36 140 [a0, a1, .int x, a3] (.int x :: st) h Q := gw_loc m36 f36_139 rfl rfl
theorem f36_140 : gm_ft 36 140 = some (.iload_n 3, 1) := by decide +kernel
theorem r36_140 {E : Nat → Value} {d : Nat} {st : List Value} {h : gm_H} {Q : gm_R → gm_H → Prop} {a0 a1 a2 : Value} {x : Int32} : gm_W E d 36 140 [a0, a1, a2, .int x] st h Q ↔ gm_W E d 36 141 [a0, a1, a2, .int x] (.int x :: st) h Q := gw_loc m36 f36_140 rfl rfl
theorem f36_141 : gm_ft 36 141 = some (.invokevirtual 248, 3) := by decide +kernel
theorem c36_141 {E : Nat → Value} {d : Nat} {st : List Value} {h : gm_H} {Q : gm_R → gm_H → Prop} {lv : List Value} {b0 : Int32} {b1 : Int32} {a : Nat} {Qc : gm_R → gm_H → Prop} (hs : (st.map fun v => v.category).sum ≤ 8) (hr : gm_kd h a = 5) (hd : 1 ≤ d) (hc : gm_Ca E (d - 1) 35 [.ref a, .int b0, .int b1] h Qc) (kn : ∀ (v9 : Option Value) (h9 : gm_H), Qc (.inl v9) h9 → gm_W E d 36 144 lv (v9.toList ++ st) h9 Q) (kx : ∀ (x9 : Nat) (h9 : gm_H), Qc (.inr x9) h9 → Q (.inr x9) h9) : gm_W E d 36 141 lv (.int b1 :: .int b0 :: .ref a :: st) h Q := gw_call (gn_call m36 f36_141 rfl rfl rfl rfl rfl rfl rfl (gs_virt (bs := [.int b1, .int b0]) (w := 957) (L := 6) rfl rfl rfl rfl hs (by simp [gm_en1]) hr (by decide)) (by decide)) m36 rfl rfl hd hc kn kx
theorem f36_144 : gm_ft 36 144 = some (.ifCond .eq 9, 3) := by decide +kernel
theorem r36_144 {E : Nat → Value} {d : Nat} {st : List Value} {h : gm_H} {Q : gm_R → gm_H → Prop} {lv : List Value} {x : Int32} : gm_W E d 36 144 lv (.int x :: st) h Q ↔ (if x = 0 then gm_W E d 36 153 lv st h Q else gm_W E d 36 147 lv st h Q) := (gw_br m36 f36_144 rfl rfl rfl rfl).trans gw_if
theorem f36_147 : gm_ft 36 147 = some (.aload_n 0, 1) := by decide +kernel
theorem r36_147 {E : Nat → Value} {d : Nat} {st : List Value} {h : gm_H} {Q : gm_R → gm_H → Prop} {a1 a2 a3 : Value} {x : Nat} : gm_W E d 36 147 [.ref x, a1, a2, a3] st h Q ↔ gm_W E d 36 148 [.ref x, a1, a2, a3] (.ref x :: st) h Q := gw_loc m36 f36_147 rfl rfl
theorem r36_147n {E : Nat → Value} {d : Nat} {st : List Value} {h : gm_H} {Q : gm_R → gm_H → Prop} {a1 a2 a3 : Value}  : gm_W E d 36 147 [.null, a1, a2, a3] st h Q ↔ gm_W E d 36 148 [.null, a1, a2, a3] (.null :: st) h Q := gw_loc m36 f36_147 rfl rfl
theorem f36_148 : gm_ft 36 148 = some (.bipush (-5), 2) := by decide +kernel
theorem r36_148 {E : Nat → Value} {d : Nat} {st : List Value} {h : gm_H} {Q : gm_R → gm_H → Prop} {lv : List Value} : gm_W E d 36 148 lv st h Q ↔ gm_W E d 36 150 lv (.int (-5 : Int32) :: st) h Q := gw_pure m36 f36_148 rfl
theorem f36_150 : gm_ft 36 150 = some (.invokevirtual 151, 3) := by decide +kernel
theorem c36_150 {E : Nat → Value} {d : Nat} {st : List Value} {h : gm_H} {Q : gm_R → gm_H → Prop} {lv : List Value} {b0 : Int32} {a : Nat} {Qc : gm_R → gm_H → Prop} (hs : (st.map fun v => v.category).sum ≤ 8) (hr : gm_kd h a = 5) (hd : 1 ≤ d) (hc : gm_Ca E (d - 1) 10 [.ref a, .int b0] h Qc) (kn : ∀ (v9 : Option Value) (h9 : gm_H), Qc (.inl v9) h9 → gm_W E d 36 153 lv (v9.toList ++ st) h9 Q) (kx : ∀ (x9 : Nat) (h9 : gm_H), Qc (.inr x9) h9 → Q (.inr x9) h9) : gm_W E d 36 150 lv (.int b0 :: .ref a :: st) h Q := gw_call (gn_call m36 f36_150 rfl rfl rfl rfl rfl rfl rfl (gs_virt (bs := [.int b0]) (w := 844) (L := 2) rfl rfl rfl rfl hs (by simp [gm_en1]) hr (by decide)) (by decide)) m36 rfl rfl hd hc kn kx
theorem f36_153 : gm_ft 36 153 = some (.aload_n 0, 1) := by decide +kernel
theorem r36_153 {E : Nat → Value} {d : Nat} {st : List Value} {h : gm_H} {Q : gm_R → gm_H → Prop} {a1 a2 a3 : Value} {x : Nat} : gm_W E d 36 153 [.ref x, a1, a2, a3] st h Q ↔ gm_W E d 36 154 [.ref x, a1, a2, a3] (.ref x :: st) h Q := gw_loc m36 f36_153 rfl rfl
theorem r36_153n {E : Nat → Value} {d : Nat} {st : List Value} {h : gm_H} {Q : gm_R → gm_H → Prop} {a1 a2 a3 : Value}  : gm_W E d 36 153 [.null, a1, a2, a3] st h Q ↔ gm_W E d 36 154 [.null, a1, a2, a3] (.null :: st) h Q := gw_loc m36 f36_153 rfl rfl
theorem f36_154 : gm_ft 36 154 = some (.getfield 145, 3) := by decide +kernel
theorem r36_154 {E : Nat → Value} {d : Nat} {st : List Value} {h : gm_H} {Q : gm_R → gm_H → Prop} {lv : List Value} {a : Nat} (hk : gm_kd h a = 5) : gm_W E d 36 154 lv (.ref a :: st) h Q ↔ gm_W E d 36 157 lv (gm_fv h a 8 :: st) h Q := gw_rd m36 f36_154 rfl rfl rfl rfl (gs_get k5_145 hk (by decide))
theorem f36_157 : gm_ft 36 157 = some (.ifCond .eq 4, 3) := by decide +kernel
theorem r36_157 {E : Nat → Value} {d : Nat} {st : List Value} {h : gm_H} {Q : gm_R → gm_H → Prop} {lv : List Value} {x : Int32} : gm_W E d 36 157 lv (.int x :: st) h Q ↔ (if x = 0 then gm_W E d 36 161 lv st h Q else gm_W E d 36 160 lv st h Q) := (gw_br m36 f36_157 rfl rfl rfl rfl).trans gw_if
theorem f36_160 : gm_ft 36 160 = some (.return_, 1) := by decide +kernel
theorem r36_160 {E : Nat → Value} {d : Nat} {h : gm_H} {Q : gm_R → gm_H → Prop} {lv : List Value} : gm_W E d 36 160 lv [] h Q ↔ Q (.inl none) h := gw_ret m36 f36_160 rfl rfl rfl rfl rfl rfl rfl rfl rfl
theorem f36_161 : gm_ft 36 161 = some (.aload_n 0, 1) := by decide +kernel
theorem r36_161 {E : Nat → Value} {d : Nat} {st : List Value} {h : gm_H} {Q : gm_R → gm_H → Prop} {a1 a2 a3 : Value} {x : Nat} : gm_W E d 36 161 [.ref x, a1, a2, a3] st h Q ↔ gm_W E d 36 162 [.ref x, a1, a2, a3] (.ref x :: st) h Q := gw_loc m36 f36_161 rfl rfl
theorem r36_161n {E : Nat → Value} {d : Nat} {st : List Value} {h : gm_H} {Q : gm_R → gm_H → Prop} {a1 a2 a3 : Value}  : gm_W E d 36 161 [.null, a1, a2, a3] st h Q ↔ gm_W E d 36 162 [.null, a1, a2, a3] (.null :: st) h Q := gw_loc m36 f36_161 rfl rfl
theorem f36_162 : gm_ft 36 162 = some (.getfield 57, 3) := by decide +kernel
theorem r36_162 {E : Nat → Value} {d : Nat} {st : List Value} {h : gm_H} {Q : gm_R → gm_H → Prop} {lv : List Value} {a : Nat} (hk : gm_kd h a = 5) : gm_W E d 36 162 lv (.ref a :: st) h Q ↔ gm_W E d 36 165 lv (gm_fv h a 26 :: st) h Q := gw_rd m36 f36_162 rfl rfl rfl rfl (gs_get k5_57 hk (by decide))
theorem f36_165 : gm_ft 36 165 = some (.aload_n 0, 1) := by decide +kernel
theorem r36_165 {E : Nat → Value} {d : Nat} {st : List Value} {h : gm_H} {Q : gm_R → gm_H → Prop} {a1 a2 a3 : Value} {x : Nat} : gm_W E d 36 165 [.ref x, a1, a2, a3] st h Q ↔ gm_W E d 36 166 [.ref x, a1, a2, a3] (.ref x :: st) h Q := gw_loc m36 f36_165 rfl rfl
theorem r36_165n {E : Nat → Value} {d : Nat} {st : List Value} {h : gm_H} {Q : gm_R → gm_H → Prop} {a1 a2 a3 : Value}  : gm_W E d 36 165 [.null, a1, a2, a3] st h Q ↔ gm_W E d 36 166 [.null, a1, a2, a3] (.null :: st) h Q := gw_loc m36 f36_165 rfl rfl
theorem f36_166 : gm_ft 36 166 = some (.getfield 111, 3) := by decide +kernel
theorem r36_166 {E : Nat → Value} {d : Nat} {st : List Value} {h : gm_H} {Q : gm_R → gm_H → Prop} {lv : List Value} {a : Nat} (hk : gm_kd h a = 5) : gm_W E d 36 166 lv (.ref a :: st) h Q ↔ gm_W E d 36 169 lv (gm_fv h a 46 :: st) h Q := gw_rd m36 f36_166 rfl rfl rfl rfl (gs_get k5_111 hk (by decide))
theorem f36_169 : gm_ft 36 169 = some (.iload_n 1, 1) := by decide +kernel
theorem r36_169 {E : Nat → Value} {d : Nat} {st : List Value} {h : gm_H} {Q : gm_R → gm_H → Prop} {a0 a2 a3 : Value} {x : Int32} : gm_W E d 36 169 [a0, .int x, a2, a3] st h Q ↔ gm_W E d 36 170 [a0, .int x, a2, a3] (.int x :: st) h Q := gw_loc m36 f36_169 rfl rfl
theorem f36_170 : gm_ft 36 170 = some (.iaload, 1) := by decide +kernel
theorem r36_170 {E : Nat → Value} {d : Nat} {st : List Value} {h : gm_H} {Q : gm_R → gm_H → Prop} {lv : List Value} {a j : Nat} (hk : gm_kd h a % 100 = 0 ∧ 100 ≤ gm_kd h a ∧ gm_kd h a < 900) (hj : j < gm_ln h a) (hl : gm_ln h a < 2 ^ 31) : gm_W E d 36 170 lv (.int (nI j) :: .ref a :: st) h Q ↔ gm_W E d 36 171 lv (gm_fv h a j :: st) h Q := gw_rd m36 f36_170 rfl rfl rfl rfl (gs_ld (P := fun t => t == 0) hk.2 (by have := hk.1; simp [this] <;> omega) hj hl)
theorem f36_171 : gm_ft 36 171 = some (.iconst 1, 1) := by decide +kernel
theorem r36_171 {E : Nat → Value} {d : Nat} {st : List Value} {h : gm_H} {Q : gm_R → gm_H → Prop} {lv : List Value} : gm_W E d 36 171 lv st h Q ↔ gm_W E d 36 172 lv (.int (1 : Int32) :: st) h Q := gw_pure m36 f36_171 rfl
theorem f36_172 : gm_ft 36 172 = some (.iastore, 1) := by decide +kernel
theorem r36_172 {E : Nat → Value} {d : Nat} {st : List Value} {h : gm_H} {Q : gm_R → gm_H → Prop} {lv : List Value} {a j : Nat} {x : Int32} (hk : gm_kd h a = 200) (hj : j < gm_ln h a) (hl : gm_ln h a < 2 ^ 31) : gm_W E d 36 172 lv (.int x :: .int (nI j) :: .ref a :: st) h Q ↔ gm_W E d 36 173 lv st (gm_sf h a j (.int x)) Q := gw_wr m36 f36_172 rfl rfl rfl rfl rfl (gs_st hk (by decide) hj hl)
theorem f36_173 : gm_ft 36 173 = some (.aload_n 0, 1) := by decide +kernel
theorem r36_173 {E : Nat → Value} {d : Nat} {st : List Value} {h : gm_H} {Q : gm_R → gm_H → Prop} {a1 a2 a3 : Value} {x : Nat} : gm_W E d 36 173 [.ref x, a1, a2, a3] st h Q ↔ gm_W E d 36 174 [.ref x, a1, a2, a3] (.ref x :: st) h Q := gw_loc m36 f36_173 rfl rfl
theorem r36_173n {E : Nat → Value} {d : Nat} {st : List Value} {h : gm_H} {Q : gm_R → gm_H → Prop} {a1 a2 a3 : Value}  : gm_W E d 36 173 [.null, a1, a2, a3] st h Q ↔ gm_W E d 36 174 [.null, a1, a2, a3] (.null :: st) h Q := gw_loc m36 f36_173 rfl rfl
theorem f36_174 : gm_ft 36 174 = some (.iload_n 2, 1) := by decide +kernel
theorem r36_174 {E : Nat → Value} {d : Nat} {st : List Value} {h : gm_H} {Q : gm_R → gm_H → Prop} {a0 a1 a3 : Value} {x : Int32} : gm_W E d 36 174 [a0, a1, .int x, a3] st h Q ↔ gm_W E d 36 175 [a0, a1, .int x, a3] (.int x :: st) h Q := gw_loc m36 f36_174 rfl rfl
theorem f36_175 : gm_ft 36 175 = some (.invokevirtual 182, 3) := by decide +kernel
theorem c36_175 {E : Nat → Value} {d : Nat} {st : List Value} {h : gm_H} {Q : gm_R → gm_H → Prop} {lv : List Value} {b0 : Int32} {a : Nat} {Qc : gm_R → gm_H → Prop} (hs : (st.map fun v => v.category).sum ≤ 8) (hr : gm_kd h a = 5) (hd : 1 ≤ d) (hc : gm_Ca E (d - 1) 16 [.ref a, .int b0] h Qc) (kn : ∀ (v9 : Option Value) (h9 : gm_H), Qc (.inl v9) h9 → gm_W E d 36 178 lv (v9.toList ++ st) h9 Q) (kx : ∀ (x9 : Nat) (h9 : gm_H), Qc (.inr x9) h9 → Q (.inr x9) h9) : gm_W E d 36 175 lv (.int b0 :: .ref a :: st) h Q := gw_call (gn_call m36 f36_175 rfl rfl rfl rfl rfl rfl rfl (gs_virt (bs := [.int b0]) (w := 872) (L := 2) rfl rfl rfl rfl hs (by simp [gm_en1]) hr (by decide)) (by decide)) m36 rfl rfl hd hc kn kx
theorem f36_178 : gm_ft 36 178 = some (.return_, 1) := by decide +kernel
theorem r36_178 {E : Nat → Value} {d : Nat} {h : gm_H} {Q : gm_R → gm_H → Prop} {lv : List Value} : gm_W E d 36 178 lv [] h Q ↔ Q (.inl none) h := gw_ret m36 f36_178 rfl rfl rfl rfl rfl rfl rfl rfl rfl
