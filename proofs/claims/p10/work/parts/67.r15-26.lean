/-! GraphReaderModel.push(IIII)V -/
theorem m15 : gm_mt[15]? = some (⟨"GraphReaderModel", "push", "(IIII)V"⟩, prog_7_method_14_code, 5, none, [], 5, 2) := rfl
theorem f15_0 : gm_ft 15 0 = some (.aload_n 0, 1) := by decide +kernel
theorem r15_0 {E : Nat → Value} {d : Nat} {st : List Value} {h : gm_H} {Q : gm_R → gm_H → Prop} {a1 a2 a3 a4 : Value} {x : Nat} : gm_W E d 15 0 [.ref x, a1, a2, a3, a4] st h Q ↔ gm_W E d 15 1 [.ref x, a1, a2, a3, a4] (.ref x :: st) h Q := gw_loc m15 f15_0 rfl rfl
theorem r15_0n {E : Nat → Value} {d : Nat} {st : List Value} {h : gm_H} {Q : gm_R → gm_H → Prop} {a1 a2 a3 a4 : Value}  : gm_W E d 15 0 [.null, a1, a2, a3, a4] st h Q ↔ gm_W E d 15 1 [.null, a1, a2, a3, a4] (.null :: st) h Q := gw_loc m15 f15_0 rfl rfl
theorem f15_1 : gm_ft 15 1 = some (.getfield 93, 3) := by decide +kernel
theorem r15_1 {E : Nat → Value} {d : Nat} {st : List Value} {h : gm_H} {Q : gm_R → gm_H → Prop} {lv : List Value} {a : Nat} (hk : gm_kd h a = 5) : gm_W E d 15 1 lv (.ref a :: st) h Q ↔ gm_W E d 15 4 lv (gm_fv h a 40 :: st) h Q := gw_rd m15 f15_1 rfl rfl rfl rfl (gs_get k5_93 hk (by decide))
theorem f15_4 : gm_ft 15 4 = some (.aload_n 0, 1) := by decide +kernel
theorem r15_4 {E : Nat → Value} {d : Nat} {st : List Value} {h : gm_H} {Q : gm_R → gm_H → Prop} {a1 a2 a3 a4 : Value} {x : Nat} : gm_W E d 15 4 [.ref x, a1, a2, a3, a4] st h Q ↔ gm_W E d 15 5 [.ref x, a1, a2, a3, a4] (.ref x :: st) h Q := gw_loc m15 f15_4 rfl rfl
theorem r15_4n {E : Nat → Value} {d : Nat} {st : List Value} {h : gm_H} {Q : gm_R → gm_H → Prop} {a1 a2 a3 a4 : Value}  : gm_W E d 15 4 [.null, a1, a2, a3, a4] st h Q ↔ gm_W E d 15 5 [.null, a1, a2, a3, a4] (.null :: st) h Q := gw_loc m15 f15_4 rfl rfl
theorem f15_5 : gm_ft 15 5 = some (.getfield 175, 3) := by decide +kernel
theorem r15_5 {E : Nat → Value} {d : Nat} {st : List Value} {h : gm_H} {Q : gm_R → gm_H → Prop} {lv : List Value} {a : Nat} (hk : gm_kd h a = 5) : gm_W E d 15 5 lv (.ref a :: st) h Q ↔ gm_W E d 15 8 lv (gm_fv h a 47 :: st) h Q := gw_rd m15 f15_5 rfl rfl rfl rfl (gs_get k5_175 hk (by decide))
theorem f15_8 : gm_ft 15 8 = some (.iload_n 1, 1) := by decide +kernel
theorem r15_8 {E : Nat → Value} {d : Nat} {st : List Value} {h : gm_H} {Q : gm_R → gm_H → Prop} {a0 a2 a3 a4 : Value} {x : Int32} : gm_W E d 15 8 [a0, .int x, a2, a3, a4] st h Q ↔ gm_W E d 15 9 [a0, .int x, a2, a3, a4] (.int x :: st) h Q := gw_loc m15 f15_8 rfl rfl
theorem f15_9 : gm_ft 15 9 = some (.iastore, 1) := by decide +kernel
theorem r15_9 {E : Nat → Value} {d : Nat} {st : List Value} {h : gm_H} {Q : gm_R → gm_H → Prop} {lv : List Value} {a j : Nat} {x : Int32} (hk : gm_kd h a = 200) (hj : j < gm_ln h a) (hl : gm_ln h a < 2 ^ 31) : gm_W E d 15 9 lv (.int x :: .int (nI j) :: .ref a :: st) h Q ↔ gm_W E d 15 10 lv st (gm_sf h a j (.int x)) Q := gw_wr m15 f15_9 rfl rfl rfl rfl rfl (gs_st hk (by decide) hj hl)
theorem f15_10 : gm_ft 15 10 = some (.aload_n 0, 1) := by decide +kernel
theorem r15_10 {E : Nat → Value} {d : Nat} {st : List Value} {h : gm_H} {Q : gm_R → gm_H → Prop} {a1 a2 a3 a4 : Value} {x : Nat} : gm_W E d 15 10 [.ref x, a1, a2, a3, a4] st h Q ↔ gm_W E d 15 11 [.ref x, a1, a2, a3, a4] (.ref x :: st) h Q := gw_loc m15 f15_10 rfl rfl
theorem r15_10n {E : Nat → Value} {d : Nat} {st : List Value} {h : gm_H} {Q : gm_R → gm_H → Prop} {a1 a2 a3 a4 : Value}  : gm_W E d 15 10 [.null, a1, a2, a3, a4] st h Q ↔ gm_W E d 15 11 [.null, a1, a2, a3, a4] (.null :: st) h Q := gw_loc m15 f15_10 rfl rfl
theorem f15_11 : gm_ft 15 11 = some (.getfield 96, 3) := by decide +kernel
theorem r15_11 {E : Nat → Value} {d : Nat} {st : List Value} {h : gm_H} {Q : gm_R → gm_H → Prop} {lv : List Value} {a : Nat} (hk : gm_kd h a = 5) : gm_W E d 15 11 lv (.ref a :: st) h Q ↔ gm_W E d 15 14 lv (gm_fv h a 41 :: st) h Q := gw_rd m15 f15_11 rfl rfl rfl rfl (gs_get k5_96 hk (by decide))
theorem f15_14 : gm_ft 15 14 = some (.aload_n 0, 1) := by decide +kernel
theorem r15_14 {E : Nat → Value} {d : Nat} {st : List Value} {h : gm_H} {Q : gm_R → gm_H → Prop} {a1 a2 a3 a4 : Value} {x : Nat} : gm_W E d 15 14 [.ref x, a1, a2, a3, a4] st h Q ↔ gm_W E d 15 15 [.ref x, a1, a2, a3, a4] (.ref x :: st) h Q := gw_loc m15 f15_14 rfl rfl
theorem r15_14n {E : Nat → Value} {d : Nat} {st : List Value} {h : gm_H} {Q : gm_R → gm_H → Prop} {a1 a2 a3 a4 : Value}  : gm_W E d 15 14 [.null, a1, a2, a3, a4] st h Q ↔ gm_W E d 15 15 [.null, a1, a2, a3, a4] (.null :: st) h Q := gw_loc m15 f15_14 rfl rfl
theorem f15_15 : gm_ft 15 15 = some (.getfield 175, 3) := by decide +kernel
theorem r15_15 {E : Nat → Value} {d : Nat} {st : List Value} {h : gm_H} {Q : gm_R → gm_H → Prop} {lv : List Value} {a : Nat} (hk : gm_kd h a = 5) : gm_W E d 15 15 lv (.ref a :: st) h Q ↔ gm_W E d 15 18 lv (gm_fv h a 47 :: st) h Q := gw_rd m15 f15_15 rfl rfl rfl rfl (gs_get k5_175 hk (by decide))
theorem f15_18 : gm_ft 15 18 = some (.iconst 0, 1) := by decide +kernel
theorem r15_18 {E : Nat → Value} {d : Nat} {st : List Value} {h : gm_H} {Q : gm_R → gm_H → Prop} {lv : List Value} : gm_W E d 15 18 lv st h Q ↔ gm_W E d 15 19 lv (.int (0 : Int32) :: st) h Q := gw_pure m15 f15_18 rfl
theorem f15_19 : gm_ft 15 19 = some (.iastore, 1) := by decide +kernel
theorem r15_19 {E : Nat → Value} {d : Nat} {st : List Value} {h : gm_H} {Q : gm_R → gm_H → Prop} {lv : List Value} {a j : Nat} {x : Int32} (hk : gm_kd h a = 200) (hj : j < gm_ln h a) (hl : gm_ln h a < 2 ^ 31) : gm_W E d 15 19 lv (.int x :: .int (nI j) :: .ref a :: st) h Q ↔ gm_W E d 15 20 lv st (gm_sf h a j (.int x)) Q := gw_wr m15 f15_19 rfl rfl rfl rfl rfl (gs_st hk (by decide) hj hl)
theorem f15_20 : gm_ft 15 20 = some (.aload_n 0, 1) := by decide +kernel
theorem r15_20 {E : Nat → Value} {d : Nat} {st : List Value} {h : gm_H} {Q : gm_R → gm_H → Prop} {a1 a2 a3 a4 : Value} {x : Nat} : gm_W E d 15 20 [.ref x, a1, a2, a3, a4] st h Q ↔ gm_W E d 15 21 [.ref x, a1, a2, a3, a4] (.ref x :: st) h Q := gw_loc m15 f15_20 rfl rfl
theorem r15_20n {E : Nat → Value} {d : Nat} {st : List Value} {h : gm_H} {Q : gm_R → gm_H → Prop} {a1 a2 a3 a4 : Value}  : gm_W E d 15 20 [.null, a1, a2, a3, a4] st h Q ↔ gm_W E d 15 21 [.null, a1, a2, a3, a4] (.null :: st) h Q := gw_loc m15 f15_20 rfl rfl
theorem f15_21 : gm_ft 15 21 = some (.getfield 99, 3) := by decide +kernel
theorem r15_21 {E : Nat → Value} {d : Nat} {st : List Value} {h : gm_H} {Q : gm_R → gm_H → Prop} {lv : List Value} {a : Nat} (hk : gm_kd h a = 5) : gm_W E d 15 21 lv (.ref a :: st) h Q ↔ gm_W E d 15 24 lv (gm_fv h a 42 :: st) h Q := gw_rd m15 f15_21 rfl rfl rfl rfl (gs_get k5_99 hk (by decide))
theorem f15_24 : gm_ft 15 24 = some (.aload_n 0, 1) := by decide +kernel
theorem r15_24 {E : Nat → Value} {d : Nat} {st : List Value} {h : gm_H} {Q : gm_R → gm_H → Prop} {a1 a2 a3 a4 : Value} {x : Nat} : gm_W E d 15 24 [.ref x, a1, a2, a3, a4] st h Q ↔ gm_W E d 15 25 [.ref x, a1, a2, a3, a4] (.ref x :: st) h Q := gw_loc m15 f15_24 rfl rfl
theorem r15_24n {E : Nat → Value} {d : Nat} {st : List Value} {h : gm_H} {Q : gm_R → gm_H → Prop} {a1 a2 a3 a4 : Value}  : gm_W E d 15 24 [.null, a1, a2, a3, a4] st h Q ↔ gm_W E d 15 25 [.null, a1, a2, a3, a4] (.null :: st) h Q := gw_loc m15 f15_24 rfl rfl
theorem f15_25 : gm_ft 15 25 = some (.getfield 175, 3) := by decide +kernel
theorem r15_25 {E : Nat → Value} {d : Nat} {st : List Value} {h : gm_H} {Q : gm_R → gm_H → Prop} {lv : List Value} {a : Nat} (hk : gm_kd h a = 5) : gm_W E d 15 25 lv (.ref a :: st) h Q ↔ gm_W E d 15 28 lv (gm_fv h a 47 :: st) h Q := gw_rd m15 f15_25 rfl rfl rfl rfl (gs_get k5_175 hk (by decide))
theorem f15_28 : gm_ft 15 28 = some (.iload_n 2, 1) := by decide +kernel
theorem r15_28 {E : Nat → Value} {d : Nat} {st : List Value} {h : gm_H} {Q : gm_R → gm_H → Prop} {a0 a1 a3 a4 : Value} {x : Int32} : gm_W E d 15 28 [a0, a1, .int x, a3, a4] st h Q ↔ gm_W E d 15 29 [a0, a1, .int x, a3, a4] (.int x :: st) h Q := gw_loc m15 f15_28 rfl rfl
theorem f15_29 : gm_ft 15 29 = some (.iastore, 1) := by decide +kernel
theorem r15_29 {E : Nat → Value} {d : Nat} {st : List Value} {h : gm_H} {Q : gm_R → gm_H → Prop} {lv : List Value} {a j : Nat} {x : Int32} (hk : gm_kd h a = 200) (hj : j < gm_ln h a) (hl : gm_ln h a < 2 ^ 31) : gm_W E d 15 29 lv (.int x :: .int (nI j) :: .ref a :: st) h Q ↔ gm_W E d 15 30 lv st (gm_sf h a j (.int x)) Q := gw_wr m15 f15_29 rfl rfl rfl rfl rfl (gs_st hk (by decide) hj hl)
theorem f15_30 : gm_ft 15 30 = some (.aload_n 0, 1) := by decide +kernel
theorem r15_30 {E : Nat → Value} {d : Nat} {st : List Value} {h : gm_H} {Q : gm_R → gm_H → Prop} {a1 a2 a3 a4 : Value} {x : Nat} : gm_W E d 15 30 [.ref x, a1, a2, a3, a4] st h Q ↔ gm_W E d 15 31 [.ref x, a1, a2, a3, a4] (.ref x :: st) h Q := gw_loc m15 f15_30 rfl rfl
theorem r15_30n {E : Nat → Value} {d : Nat} {st : List Value} {h : gm_H} {Q : gm_R → gm_H → Prop} {a1 a2 a3 a4 : Value}  : gm_W E d 15 30 [.null, a1, a2, a3, a4] st h Q ↔ gm_W E d 15 31 [.null, a1, a2, a3, a4] (.null :: st) h Q := gw_loc m15 f15_30 rfl rfl
theorem f15_31 : gm_ft 15 31 = some (.getfield 102, 3) := by decide +kernel
theorem r15_31 {E : Nat → Value} {d : Nat} {st : List Value} {h : gm_H} {Q : gm_R → gm_H → Prop} {lv : List Value} {a : Nat} (hk : gm_kd h a = 5) : gm_W E d 15 31 lv (.ref a :: st) h Q ↔ gm_W E d 15 34 lv (gm_fv h a 43 :: st) h Q := gw_rd m15 f15_31 rfl rfl rfl rfl (gs_get k5_102 hk (by decide))
theorem f15_34 : gm_ft 15 34 = some (.aload_n 0, 1) := by decide +kernel
theorem r15_34 {E : Nat → Value} {d : Nat} {st : List Value} {h : gm_H} {Q : gm_R → gm_H → Prop} {a1 a2 a3 a4 : Value} {x : Nat} : gm_W E d 15 34 [.ref x, a1, a2, a3, a4] st h Q ↔ gm_W E d 15 35 [.ref x, a1, a2, a3, a4] (.ref x :: st) h Q := gw_loc m15 f15_34 rfl rfl
theorem r15_34n {E : Nat → Value} {d : Nat} {st : List Value} {h : gm_H} {Q : gm_R → gm_H → Prop} {a1 a2 a3 a4 : Value}  : gm_W E d 15 34 [.null, a1, a2, a3, a4] st h Q ↔ gm_W E d 15 35 [.null, a1, a2, a3, a4] (.null :: st) h Q := gw_loc m15 f15_34 rfl rfl
theorem f15_35 : gm_ft 15 35 = some (.getfield 175, 3) := by decide +kernel
theorem r15_35 {E : Nat → Value} {d : Nat} {st : List Value} {h : gm_H} {Q : gm_R → gm_H → Prop} {lv : List Value} {a : Nat} (hk : gm_kd h a = 5) : gm_W E d 15 35 lv (.ref a :: st) h Q ↔ gm_W E d 15 38 lv (gm_fv h a 47 :: st) h Q := gw_rd m15 f15_35 rfl rfl rfl rfl (gs_get k5_175 hk (by decide))
theorem f15_38 : gm_ft 15 38 = some (.iload_n 3, 1) := by decide +kernel
theorem r15_38 {E : Nat → Value} {d : Nat} {st : List Value} {h : gm_H} {Q : gm_R → gm_H → Prop} {a0 a1 a2 a4 : Value} {x : Int32} : gm_W E d 15 38 [a0, a1, a2, .int x, a4] st h Q ↔ gm_W E d 15 39 [a0, a1, a2, .int x, a4] (.int x :: st) h Q := gw_loc m15 f15_38 rfl rfl
theorem f15_39 : gm_ft 15 39 = some (.iastore, 1) := by decide +kernel
theorem r15_39 {E : Nat → Value} {d : Nat} {st : List Value} {h : gm_H} {Q : gm_R → gm_H → Prop} {lv : List Value} {a j : Nat} {x : Int32} (hk : gm_kd h a = 200) (hj : j < gm_ln h a) (hl : gm_ln h a < 2 ^ 31) : gm_W E d 15 39 lv (.int x :: .int (nI j) :: .ref a :: st) h Q ↔ gm_W E d 15 40 lv st (gm_sf h a j (.int x)) Q := gw_wr m15 f15_39 rfl rfl rfl rfl rfl (gs_st hk (by decide) hj hl)
theorem f15_40 : gm_ft 15 40 = some (.aload_n 0, 1) := by decide +kernel
theorem r15_40 {E : Nat → Value} {d : Nat} {st : List Value} {h : gm_H} {Q : gm_R → gm_H → Prop} {a1 a2 a3 a4 : Value} {x : Nat} : gm_W E d 15 40 [.ref x, a1, a2, a3, a4] st h Q ↔ gm_W E d 15 41 [.ref x, a1, a2, a3, a4] (.ref x :: st) h Q := gw_loc m15 f15_40 rfl rfl
theorem r15_40n {E : Nat → Value} {d : Nat} {st : List Value} {h : gm_H} {Q : gm_R → gm_H → Prop} {a1 a2 a3 a4 : Value}  : gm_W E d 15 40 [.null, a1, a2, a3, a4] st h Q ↔ gm_W E d 15 41 [.null, a1, a2, a3, a4] (.null :: st) h Q := gw_loc m15 f15_40 rfl rfl
theorem f15_41 : gm_ft 15 41 = some (.getfield 105, 3) := by decide +kernel
theorem r15_41 {E : Nat → Value} {d : Nat} {st : List Value} {h : gm_H} {Q : gm_R → gm_H → Prop} {lv : List Value} {a : Nat} (hk : gm_kd h a = 5) : gm_W E d 15 41 lv (.ref a :: st) h Q ↔ gm_W E d 15 44 lv (gm_fv h a 44 :: st) h Q := gw_rd m15 f15_41 rfl rfl rfl rfl (gs_get k5_105 hk (by decide))
theorem f15_44 : gm_ft 15 44 = some (.aload_n 0, 1) := by decide +kernel
theorem r15_44 {E : Nat → Value} {d : Nat} {st : List Value} {h : gm_H} {Q : gm_R → gm_H → Prop} {a1 a2 a3 a4 : Value} {x : Nat} : gm_W E d 15 44 [.ref x, a1, a2, a3, a4] st h Q ↔ gm_W E d 15 45 [.ref x, a1, a2, a3, a4] (.ref x :: st) h Q := gw_loc m15 f15_44 rfl rfl
theorem r15_44n {E : Nat → Value} {d : Nat} {st : List Value} {h : gm_H} {Q : gm_R → gm_H → Prop} {a1 a2 a3 a4 : Value}  : gm_W E d 15 44 [.null, a1, a2, a3, a4] st h Q ↔ gm_W E d 15 45 [.null, a1, a2, a3, a4] (.null :: st) h Q := gw_loc m15 f15_44 rfl rfl
theorem f15_45 : gm_ft 15 45 = some (.getfield 175, 3) := by decide +kernel
theorem r15_45 {E : Nat → Value} {d : Nat} {st : List Value} {h : gm_H} {Q : gm_R → gm_H → Prop} {lv : List Value} {a : Nat} (hk : gm_kd h a = 5) : gm_W E d 15 45 lv (.ref a :: st) h Q ↔ gm_W E d 15 48 lv (gm_fv h a 47 :: st) h Q := gw_rd m15 f15_45 rfl rfl rfl rfl (gs_get k5_175 hk (by decide))
theorem f15_48 : gm_ft 15 48 = some (.iload 4, 2) := by decide +kernel
theorem r15_48 {E : Nat → Value} {d : Nat} {st : List Value} {h : gm_H} {Q : gm_R → gm_H → Prop} {a0 a1 a2 a3 : Value} {x : Int32} : gm_W E d 15 48 [a0, a1, a2, a3, .int x] st h Q ↔ gm_W E d 15 50 [a0, a1, a2, a3, .int x] (.int x :: st) h Q := gw_loc m15 f15_48 rfl rfl
theorem f15_50 : gm_ft 15 50 = some (.iastore, 1) := by decide +kernel
theorem r15_50 {E : Nat → Value} {d : Nat} {st : List Value} {h : gm_H} {Q : gm_R → gm_H → Prop} {lv : List Value} {a j : Nat} {x : Int32} (hk : gm_kd h a = 200) (hj : j < gm_ln h a) (hl : gm_ln h a < 2 ^ 31) : gm_W E d 15 50 lv (.int x :: .int (nI j) :: .ref a :: st) h Q ↔ gm_W E d 15 51 lv st (gm_sf h a j (.int x)) Q := gw_wr m15 f15_50 rfl rfl rfl rfl rfl (gs_st hk (by decide) hj hl)
theorem f15_51 : gm_ft 15 51 = some (.aload_n 0, 1) := by decide +kernel
theorem r15_51 {E : Nat → Value} {d : Nat} {st : List Value} {h : gm_H} {Q : gm_R → gm_H → Prop} {a1 a2 a3 a4 : Value} {x : Nat} : gm_W E d 15 51 [.ref x, a1, a2, a3, a4] st h Q ↔ gm_W E d 15 52 [.ref x, a1, a2, a3, a4] (.ref x :: st) h Q := gw_loc m15 f15_51 rfl rfl
theorem r15_51n {E : Nat → Value} {d : Nat} {st : List Value} {h : gm_H} {Q : gm_R → gm_H → Prop} {a1 a2 a3 a4 : Value}  : gm_W E d 15 51 [.null, a1, a2, a3, a4] st h Q ↔ gm_W E d 15 52 [.null, a1, a2, a3, a4] (.null :: st) h Q := gw_loc m15 f15_51 rfl rfl
theorem f15_52 : gm_ft 15 52 = some (.getfield 108, 3) := by decide +kernel
theorem r15_52 {E : Nat → Value} {d : Nat} {st : List Value} {h : gm_H} {Q : gm_R → gm_H → Prop} {lv : List Value} {a : Nat} (hk : gm_kd h a = 5) : gm_W E d 15 52 lv (.ref a :: st) h Q ↔ gm_W E d 15 55 lv (gm_fv h a 45 :: st) h Q := gw_rd m15 f15_52 rfl rfl rfl rfl (gs_get k5_108 hk (by decide))
theorem f15_55 : gm_ft 15 55 = some (.aload_n 0, 1) := by decide +kernel
theorem r15_55 {E : Nat → Value} {d : Nat} {st : List Value} {h : gm_H} {Q : gm_R → gm_H → Prop} {a1 a2 a3 a4 : Value} {x : Nat} : gm_W E d 15 55 [.ref x, a1, a2, a3, a4] st h Q ↔ gm_W E d 15 56 [.ref x, a1, a2, a3, a4] (.ref x :: st) h Q := gw_loc m15 f15_55 rfl rfl
theorem r15_55n {E : Nat → Value} {d : Nat} {st : List Value} {h : gm_H} {Q : gm_R → gm_H → Prop} {a1 a2 a3 a4 : Value}  : gm_W E d 15 55 [.null, a1, a2, a3, a4] st h Q ↔ gm_W E d 15 56 [.null, a1, a2, a3, a4] (.null :: st) h Q := gw_loc m15 f15_55 rfl rfl
theorem f15_56 : gm_ft 15 56 = some (.getfield 175, 3) := by decide +kernel
theorem r15_56 {E : Nat → Value} {d : Nat} {st : List Value} {h : gm_H} {Q : gm_R → gm_H → Prop} {lv : List Value} {a : Nat} (hk : gm_kd h a = 5) : gm_W E d 15 56 lv (.ref a :: st) h Q ↔ gm_W E d 15 59 lv (gm_fv h a 47 :: st) h Q := gw_rd m15 f15_56 rfl rfl rfl rfl (gs_get k5_175 hk (by decide))
theorem f15_59 : gm_ft 15 59 = some (.iconst 0, 1) := by decide +kernel
theorem r15_59 {E : Nat → Value} {d : Nat} {st : List Value} {h : gm_H} {Q : gm_R → gm_H → Prop} {lv : List Value} : gm_W E d 15 59 lv st h Q ↔ gm_W E d 15 60 lv (.int (0 : Int32) :: st) h Q := gw_pure m15 f15_59 rfl
theorem f15_60 : gm_ft 15 60 = some (.iastore, 1) := by decide +kernel
theorem r15_60 {E : Nat → Value} {d : Nat} {st : List Value} {h : gm_H} {Q : gm_R → gm_H → Prop} {lv : List Value} {a j : Nat} {x : Int32} (hk : gm_kd h a = 200) (hj : j < gm_ln h a) (hl : gm_ln h a < 2 ^ 31) : gm_W E d 15 60 lv (.int x :: .int (nI j) :: .ref a :: st) h Q ↔ gm_W E d 15 61 lv st (gm_sf h a j (.int x)) Q := gw_wr m15 f15_60 rfl rfl rfl rfl rfl (gs_st hk (by decide) hj hl)
theorem f15_61 : gm_ft 15 61 = some (.aload_n 0, 1) := by decide +kernel
theorem r15_61 {E : Nat → Value} {d : Nat} {st : List Value} {h : gm_H} {Q : gm_R → gm_H → Prop} {a1 a2 a3 a4 : Value} {x : Nat} : gm_W E d 15 61 [.ref x, a1, a2, a3, a4] st h Q ↔ gm_W E d 15 62 [.ref x, a1, a2, a3, a4] (.ref x :: st) h Q := gw_loc m15 f15_61 rfl rfl
theorem r15_61n {E : Nat → Value} {d : Nat} {st : List Value} {h : gm_H} {Q : gm_R → gm_H → Prop} {a1 a2 a3 a4 : Value}  : gm_W E d 15 61 [.null, a1, a2, a3, a4] st h Q ↔ gm_W E d 15 62 [.null, a1, a2, a3, a4] (.null :: st) h Q := gw_loc m15 f15_61 rfl rfl
theorem f15_62 : gm_ft 15 62 = some (.getfield 111, 3) := by decide +kernel
theorem r15_62 {E : Nat → Value} {d : Nat} {st : List Value} {h : gm_H} {Q : gm_R → gm_H → Prop} {lv : List Value} {a : Nat} (hk : gm_kd h a = 5) : gm_W E d 15 62 lv (.ref a :: st) h Q ↔ gm_W E d 15 65 lv (gm_fv h a 46 :: st) h Q := gw_rd m15 f15_62 rfl rfl rfl rfl (gs_get k5_111 hk (by decide))
theorem f15_65 : gm_ft 15 65 = some (.aload_n 0, 1) := by decide +kernel
theorem r15_65 {E : Nat → Value} {d : Nat} {st : List Value} {h : gm_H} {Q : gm_R → gm_H → Prop} {a1 a2 a3 a4 : Value} {x : Nat} : gm_W E d 15 65 [.ref x, a1, a2, a3, a4] st h Q ↔ gm_W E d 15 66 [.ref x, a1, a2, a3, a4] (.ref x :: st) h Q := gw_loc m15 f15_65 rfl rfl
theorem r15_65n {E : Nat → Value} {d : Nat} {st : List Value} {h : gm_H} {Q : gm_R → gm_H → Prop} {a1 a2 a3 a4 : Value}  : gm_W E d 15 65 [.null, a1, a2, a3, a4] st h Q ↔ gm_W E d 15 66 [.null, a1, a2, a3, a4] (.null :: st) h Q := gw_loc m15 f15_65 rfl rfl
theorem f15_66 : gm_ft 15 66 = some (.getfield 175, 3) := by decide +kernel
theorem r15_66 {E : Nat → Value} {d : Nat} {st : List Value} {h : gm_H} {Q : gm_R → gm_H → Prop} {lv : List Value} {a : Nat} (hk : gm_kd h a = 5) : gm_W E d 15 66 lv (.ref a :: st) h Q ↔ gm_W E d 15 69 lv (gm_fv h a 47 :: st) h Q := gw_rd m15 f15_66 rfl rfl rfl rfl (gs_get k5_175 hk (by decide))
theorem f15_69 : gm_ft 15 69 = some (.iconst 0, 1) := by decide +kernel
theorem r15_69 {E : Nat → Value} {d : Nat} {st : List Value} {h : gm_H} {Q : gm_R → gm_H → Prop} {lv : List Value} : gm_W E d 15 69 lv st h Q ↔ gm_W E d 15 70 lv (.int (0 : Int32) :: st) h Q := gw_pure m15 f15_69 rfl
theorem f15_70 : gm_ft 15 70 = some (.iastore, 1) := by decide +kernel
theorem r15_70 {E : Nat → Value} {d : Nat} {st : List Value} {h : gm_H} {Q : gm_R → gm_H → Prop} {lv : List Value} {a j : Nat} {x : Int32} (hk : gm_kd h a = 200) (hj : j < gm_ln h a) (hl : gm_ln h a < 2 ^ 31) : gm_W E d 15 70 lv (.int x :: .int (nI j) :: .ref a :: st) h Q ↔ gm_W E d 15 71 lv st (gm_sf h a j (.int x)) Q := gw_wr m15 f15_70 rfl rfl rfl rfl rfl (gs_st hk (by decide) hj hl)
theorem f15_71 : gm_ft 15 71 = some (.aload_n 0, 1) := by decide +kernel
theorem r15_71 {E : Nat → Value} {d : Nat} {st : List Value} {h : gm_H} {Q : gm_R → gm_H → Prop} {a1 a2 a3 a4 : Value} {x : Nat} : gm_W E d 15 71 [.ref x, a1, a2, a3, a4] st h Q ↔ gm_W E d 15 72 [.ref x, a1, a2, a3, a4] (.ref x :: st) h Q := gw_loc m15 f15_71 rfl rfl
theorem r15_71n {E : Nat → Value} {d : Nat} {st : List Value} {h : gm_H} {Q : gm_R → gm_H → Prop} {a1 a2 a3 a4 : Value}  : gm_W E d 15 71 [.null, a1, a2, a3, a4] st h Q ↔ gm_W E d 15 72 [.null, a1, a2, a3, a4] (.null :: st) h Q := gw_loc m15 f15_71 rfl rfl
theorem f15_72 : gm_ft 15 72 = some (.dup, 1) := by decide +kernel
theorem r15_72 {E : Nat → Value} {d : Nat} {st : List Value} {h : gm_H} {Q : gm_R → gm_H → Prop} {lv : List Value} {a : Nat} : gm_W E d 15 72 lv (.ref a :: st) h Q ↔ gm_W E d 15 73 lv (.ref a :: .ref a :: st) h Q := gw_pure m15 f15_72 rfl
theorem r15_72i {E : Nat → Value} {d : Nat} {st : List Value} {h : gm_H} {Q : gm_R → gm_H → Prop} {lv : List Value} {x : Int32} : gm_W E d 15 72 lv (.int x :: st) h Q ↔ gm_W E d 15 73 lv (.int x :: .int x :: st) h Q := gw_pure m15 f15_72 rfl
theorem f15_73 : gm_ft 15 73 = some (.getfield 175, 3) := by decide +kernel
theorem r15_73 {E : Nat → Value} {d : Nat} {st : List Value} {h : gm_H} {Q : gm_R → gm_H → Prop} {lv : List Value} {a : Nat} (hk : gm_kd h a = 5) : gm_W E d 15 73 lv (.ref a :: st) h Q ↔ gm_W E d 15 76 lv (gm_fv h a 47 :: st) h Q := gw_rd m15 f15_73 rfl rfl rfl rfl (gs_get k5_175 hk (by decide))
theorem f15_76 : gm_ft 15 76 = some (.iconst 1, 1) := by decide +kernel
theorem r15_76 {E : Nat → Value} {d : Nat} {st : List Value} {h : gm_H} {Q : gm_R → gm_H → Prop} {lv : List Value} : gm_W E d 15 76 lv st h Q ↔ gm_W E d 15 77 lv (.int (1 : Int32) :: st) h Q := gw_pure m15 f15_76 rfl
theorem f15_77 : gm_ft 15 77 = some (.iadd, 1) := by decide +kernel
theorem r15_77 {E : Nat → Value} {d : Nat} {st : List Value} {h : gm_H} {Q : gm_R → gm_H → Prop} {lv : List Value} {x y : Int32} : gm_W E d 15 77 lv (.int y :: .int x :: st) h Q ↔ gm_W E d 15 78 lv (.int (x + y) :: st) h Q := gw_pure m15 f15_77 rfl
theorem f15_78 : gm_ft 15 78 = some (.putfield 175, 3) := by decide +kernel
theorem r15_78 {E : Nat → Value} {d : Nat} {st : List Value} {h : gm_H} {Q : gm_R → gm_H → Prop} {lv : List Value} {a : Nat} {x : Int32} (hk : gm_kd h a = 5) : gm_W E d 15 78 lv (.int x :: .ref a :: st) h Q ↔ gm_W E d 15 81 lv st (gm_sf h a 47 (.int x)) Q := gw_wr m15 f15_78 rfl rfl rfl rfl rfl (gs_put k5_175 hk (by decide) (by decide) ⟨rfl, rfl⟩ (by decide))
theorem f15_81 : gm_ft 15 81 = some (.return_, 1) := by decide +kernel
theorem r15_81 {E : Nat → Value} {d : Nat} {h : gm_H} {Q : gm_R → gm_H → Prop} {lv : List Value} : gm_W E d 15 81 lv [] h Q ↔ Q (.inl none) h := gw_ret m15 f15_81 rfl rfl rfl rfl rfl rfl rfl rfl rfl
/-! GraphReaderModel.give(I)V -/
theorem m16 : gm_mt[16]? = some (⟨"GraphReaderModel", "give", "(I)V"⟩, prog_7_method_15_code, 2, none, [], 5, 2) := rfl
theorem f16_0 : gm_ft 16 0 = some (.aload_n 0, 1) := by decide +kernel
theorem r16_0 {E : Nat → Value} {d : Nat} {st : List Value} {h : gm_H} {Q : gm_R → gm_H → Prop} {a1 : Value} {x : Nat} : gm_W E d 16 0 [.ref x, a1] st h Q ↔ gm_W E d 16 1 [.ref x, a1] (.ref x :: st) h Q := gw_loc m16 f16_0 rfl rfl
theorem r16_0n {E : Nat → Value} {d : Nat} {st : List Value} {h : gm_H} {Q : gm_R → gm_H → Prop} {a1 : Value}  : gm_W E d 16 0 [.null, a1] st h Q ↔ gm_W E d 16 1 [.null, a1] (.null :: st) h Q := gw_loc m16 f16_0 rfl rfl
theorem f16_1 : gm_ft 16 1 = some (.iload_n 1, 1) := by decide +kernel
theorem r16_1 {E : Nat → Value} {d : Nat} {st : List Value} {h : gm_H} {Q : gm_R → gm_H → Prop} {a0 : Value} {x : Int32} : gm_W E d 16 1 [a0, .int x] st h Q ↔ gm_W E d 16 2 [a0, .int x] (.int x :: st) h Q := gw_loc m16 f16_1 rfl rfl
theorem f16_2 : gm_ft 16 2 = some (.putfield 178, 3) := by decide +kernel
theorem r16_2 {E : Nat → Value} {d : Nat} {st : List Value} {h : gm_H} {Q : gm_R → gm_H → Prop} {lv : List Value} {a : Nat} {x : Int32} (hk : gm_kd h a = 5) : gm_W E d 16 2 lv (.int x :: .ref a :: st) h Q ↔ gm_W E d 16 5 lv st (gm_sf h a 9 (.int x)) Q := gw_wr m16 f16_2 rfl rfl rfl rfl rfl (gs_put k5_178 hk (by decide) (by decide) ⟨rfl, rfl⟩ (by decide))
theorem f16_5 : gm_ft 16 5 = some (.aload_n 0, 1) := by decide +kernel
theorem r16_5 {E : Nat → Value} {d : Nat} {st : List Value} {h : gm_H} {Q : gm_R → gm_H → Prop} {a1 : Value} {x : Nat} : gm_W E d 16 5 [.ref x, a1] st h Q ↔ gm_W E d 16 6 [.ref x, a1] (.ref x :: st) h Q := gw_loc m16 f16_5 rfl rfl
theorem r16_5n {E : Nat → Value} {d : Nat} {st : List Value} {h : gm_H} {Q : gm_R → gm_H → Prop} {a1 : Value}  : gm_W E d 16 5 [.null, a1] st h Q ↔ gm_W E d 16 6 [.null, a1] (.null :: st) h Q := gw_loc m16 f16_5 rfl rfl
theorem f16_6 : gm_ft 16 6 = some (.dup, 1) := by decide +kernel
theorem r16_6 {E : Nat → Value} {d : Nat} {st : List Value} {h : gm_H} {Q : gm_R → gm_H → Prop} {lv : List Value} {a : Nat} : gm_W E d 16 6 lv (.ref a :: st) h Q ↔ gm_W E d 16 7 lv (.ref a :: .ref a :: st) h Q := gw_pure m16 f16_6 rfl
theorem r16_6i {E : Nat → Value} {d : Nat} {st : List Value} {h : gm_H} {Q : gm_R → gm_H → Prop} {lv : List Value} {x : Int32} : gm_W E d 16 6 lv (.int x :: st) h Q ↔ gm_W E d 16 7 lv (.int x :: .int x :: st) h Q := gw_pure m16 f16_6 rfl
theorem f16_7 : gm_ft 16 7 = some (.getfield 175, 3) := by decide +kernel
theorem r16_7 {E : Nat → Value} {d : Nat} {st : List Value} {h : gm_H} {Q : gm_R → gm_H → Prop} {lv : List Value} {a : Nat} (hk : gm_kd h a = 5) : gm_W E d 16 7 lv (.ref a :: st) h Q ↔ gm_W E d 16 10 lv (gm_fv h a 47 :: st) h Q := gw_rd m16 f16_7 rfl rfl rfl rfl (gs_get k5_175 hk (by decide))
theorem f16_10 : gm_ft 16 10 = some (.iconst 1, 1) := by decide +kernel
theorem r16_10 {E : Nat → Value} {d : Nat} {st : List Value} {h : gm_H} {Q : gm_R → gm_H → Prop} {lv : List Value} : gm_W E d 16 10 lv st h Q ↔ gm_W E d 16 11 lv (.int (1 : Int32) :: st) h Q := gw_pure m16 f16_10 rfl
theorem f16_11 : gm_ft 16 11 = some (.isub, 1) := by decide +kernel
theorem r16_11 {E : Nat → Value} {d : Nat} {st : List Value} {h : gm_H} {Q : gm_R → gm_H → Prop} {lv : List Value} {x y : Int32} : gm_W E d 16 11 lv (.int y :: .int x :: st) h Q ↔ gm_W E d 16 12 lv (.int (x - y) :: st) h Q := gw_pure m16 f16_11 rfl
theorem f16_12 : gm_ft 16 12 = some (.putfield 175, 3) := by decide +kernel
theorem r16_12 {E : Nat → Value} {d : Nat} {st : List Value} {h : gm_H} {Q : gm_R → gm_H → Prop} {lv : List Value} {a : Nat} {x : Int32} (hk : gm_kd h a = 5) : gm_W E d 16 12 lv (.int x :: .ref a :: st) h Q ↔ gm_W E d 16 15 lv st (gm_sf h a 47 (.int x)) Q := gw_wr m16 f16_12 rfl rfl rfl rfl rfl (gs_put k5_175 hk (by decide) (by decide) ⟨rfl, rfl⟩ (by decide))
theorem f16_15 : gm_ft 16 15 = some (.return_, 1) := by decide +kernel
theorem r16_15 {E : Nat → Value} {d : Nat} {h : gm_H} {Q : gm_R → gm_H → Prop} {lv : List Value} : gm_W E d 16 15 lv [] h Q ↔ Q (.inl none) h := gw_ret m16 f16_15 rfl rfl rfl rfl rfl rfl rfl rfl rfl
/-! GraphReaderModel.entry(II)I -/
theorem m17 : gm_mt[17]? = some (⟨"GraphReaderModel", "entry", "(II)I"⟩, prog_7_method_16_code, 3, (some .int), [], 5, 2) := rfl
theorem f17_0 : gm_ft 17 0 = some (.aload_n 0, 1) := by decide +kernel
theorem r17_0 {E : Nat → Value} {d : Nat} {st : List Value} {h : gm_H} {Q : gm_R → gm_H → Prop} {a1 a2 : Value} {x : Nat} : gm_W E d 17 0 [.ref x, a1, a2] st h Q ↔ gm_W E d 17 1 [.ref x, a1, a2] (.ref x :: st) h Q := gw_loc m17 f17_0 rfl rfl
theorem r17_0n {E : Nat → Value} {d : Nat} {st : List Value} {h : gm_H} {Q : gm_R → gm_H → Prop} {a1 a2 : Value}  : gm_W E d 17 0 [.null, a1, a2] st h Q ↔ gm_W E d 17 1 [.null, a1, a2] (.null :: st) h Q := gw_loc m17 f17_0 rfl rfl
theorem f17_1 : gm_ft 17 1 = some (.getfield 57, 3) := by decide +kernel
theorem r17_1 {E : Nat → Value} {d : Nat} {st : List Value} {h : gm_H} {Q : gm_R → gm_H → Prop} {lv : List Value} {a : Nat} (hk : gm_kd h a = 5) : gm_W E d 17 1 lv (.ref a :: st) h Q ↔ gm_W E d 17 4 lv (gm_fv h a 26 :: st) h Q := gw_rd m17 f17_1 rfl rfl rfl rfl (gs_get k5_57 hk (by decide))
theorem f17_4 : gm_ft 17 4 = some (.aload_n 0, 1) := by decide +kernel
theorem r17_4 {E : Nat → Value} {d : Nat} {st : List Value} {h : gm_H} {Q : gm_R → gm_H → Prop} {a1 a2 : Value} {x : Nat} : gm_W E d 17 4 [.ref x, a1, a2] st h Q ↔ gm_W E d 17 5 [.ref x, a1, a2] (.ref x :: st) h Q := gw_loc m17 f17_4 rfl rfl
theorem r17_4n {E : Nat → Value} {d : Nat} {st : List Value} {h : gm_H} {Q : gm_R → gm_H → Prop} {a1 a2 : Value}  : gm_W E d 17 4 [.null, a1, a2] st h Q ↔ gm_W E d 17 5 [.null, a1, a2] (.null :: st) h Q := gw_loc m17 f17_4 rfl rfl
theorem f17_5 : gm_ft 17 5 = some (.getfield 166, 3) := by decide +kernel
theorem r17_5 {E : Nat → Value} {d : Nat} {st : List Value} {h : gm_H} {Q : gm_R → gm_H → Prop} {lv : List Value} {a : Nat} (hk : gm_kd h a = 5) : gm_W E d 17 5 lv (.ref a :: st) h Q ↔ gm_W E d 17 8 lv (gm_fv h a 28 :: st) h Q := gw_rd m17 f17_5 rfl rfl rfl rfl (gs_get k5_166 hk (by decide))
theorem f17_8 : gm_ft 17 8 = some (.iload_n 1, 1) := by decide +kernel
theorem r17_8 {E : Nat → Value} {d : Nat} {st : List Value} {h : gm_H} {Q : gm_R → gm_H → Prop} {a0 a2 : Value} {x : Int32} : gm_W E d 17 8 [a0, .int x, a2] st h Q ↔ gm_W E d 17 9 [a0, .int x, a2] (.int x :: st) h Q := gw_loc m17 f17_8 rfl rfl
theorem f17_9 : gm_ft 17 9 = some (.iastore, 1) := by decide +kernel
theorem r17_9 {E : Nat → Value} {d : Nat} {st : List Value} {h : gm_H} {Q : gm_R → gm_H → Prop} {lv : List Value} {a j : Nat} {x : Int32} (hk : gm_kd h a = 200) (hj : j < gm_ln h a) (hl : gm_ln h a < 2 ^ 31) : gm_W E d 17 9 lv (.int x :: .int (nI j) :: .ref a :: st) h Q ↔ gm_W E d 17 10 lv st (gm_sf h a j (.int x)) Q := gw_wr m17 f17_9 rfl rfl rfl rfl rfl (gs_st hk (by decide) hj hl)
theorem f17_10 : gm_ft 17 10 = some (.aload_n 0, 1) := by decide +kernel
theorem r17_10 {E : Nat → Value} {d : Nat} {st : List Value} {h : gm_H} {Q : gm_R → gm_H → Prop} {a1 a2 : Value} {x : Nat} : gm_W E d 17 10 [.ref x, a1, a2] st h Q ↔ gm_W E d 17 11 [.ref x, a1, a2] (.ref x :: st) h Q := gw_loc m17 f17_10 rfl rfl
theorem r17_10n {E : Nat → Value} {d : Nat} {st : List Value} {h : gm_H} {Q : gm_R → gm_H → Prop} {a1 a2 : Value}  : gm_W E d 17 10 [.null, a1, a2] st h Q ↔ gm_W E d 17 11 [.null, a1, a2] (.null :: st) h Q := gw_loc m17 f17_10 rfl rfl
theorem f17_11 : gm_ft 17 11 = some (.getfield 60, 3) := by decide +kernel
theorem r17_11 {E : Nat → Value} {d : Nat} {st : List Value} {h : gm_H} {Q : gm_R → gm_H → Prop} {lv : List Value} {a : Nat} (hk : gm_kd h a = 5) : gm_W E d 17 11 lv (.ref a :: st) h Q ↔ gm_W E d 17 14 lv (gm_fv h a 27 :: st) h Q := gw_rd m17 f17_11 rfl rfl rfl rfl (gs_get k5_60 hk (by decide))
theorem f17_14 : gm_ft 17 14 = some (.aload_n 0, 1) := by decide +kernel
theorem r17_14 {E : Nat → Value} {d : Nat} {st : List Value} {h : gm_H} {Q : gm_R → gm_H → Prop} {a1 a2 : Value} {x : Nat} : gm_W E d 17 14 [.ref x, a1, a2] st h Q ↔ gm_W E d 17 15 [.ref x, a1, a2] (.ref x :: st) h Q := gw_loc m17 f17_14 rfl rfl
theorem r17_14n {E : Nat → Value} {d : Nat} {st : List Value} {h : gm_H} {Q : gm_R → gm_H → Prop} {a1 a2 : Value}  : gm_W E d 17 14 [.null, a1, a2] st h Q ↔ gm_W E d 17 15 [.null, a1, a2] (.null :: st) h Q := gw_loc m17 f17_14 rfl rfl
theorem f17_15 : gm_ft 17 15 = some (.getfield 166, 3) := by decide +kernel
theorem r17_15 {E : Nat → Value} {d : Nat} {st : List Value} {h : gm_H} {Q : gm_R → gm_H → Prop} {lv : List Value} {a : Nat} (hk : gm_kd h a = 5) : gm_W E d 17 15 lv (.ref a :: st) h Q ↔ gm_W E d 17 18 lv (gm_fv h a 28 :: st) h Q := gw_rd m17 f17_15 rfl rfl rfl rfl (gs_get k5_166 hk (by decide))
theorem f17_18 : gm_ft 17 18 = some (.iload_n 2, 1) := by decide +kernel
theorem r17_18 {E : Nat → Value} {d : Nat} {st : List Value} {h : gm_H} {Q : gm_R → gm_H → Prop} {a0 a1 : Value} {x : Int32} : gm_W E d 17 18 [a0, a1, .int x] st h Q ↔ gm_W E d 17 19 [a0, a1, .int x] (.int x :: st) h Q := gw_loc m17 f17_18 rfl rfl
theorem f17_19 : gm_ft 17 19 = some (.iastore, 1) := by decide +kernel
theorem r17_19 {E : Nat → Value} {d : Nat} {st : List Value} {h : gm_H} {Q : gm_R → gm_H → Prop} {lv : List Value} {a j : Nat} {x : Int32} (hk : gm_kd h a = 200) (hj : j < gm_ln h a) (hl : gm_ln h a < 2 ^ 31) : gm_W E d 17 19 lv (.int x :: .int (nI j) :: .ref a :: st) h Q ↔ gm_W E d 17 20 lv st (gm_sf h a j (.int x)) Q := gw_wr m17 f17_19 rfl rfl rfl rfl rfl (gs_st hk (by decide) hj hl)
theorem f17_20 : gm_ft 17 20 = some (.aload_n 0, 1) := by decide +kernel
theorem r17_20 {E : Nat → Value} {d : Nat} {st : List Value} {h : gm_H} {Q : gm_R → gm_H → Prop} {a1 a2 : Value} {x : Nat} : gm_W E d 17 20 [.ref x, a1, a2] st h Q ↔ gm_W E d 17 21 [.ref x, a1, a2] (.ref x :: st) h Q := gw_loc m17 f17_20 rfl rfl
theorem r17_20n {E : Nat → Value} {d : Nat} {st : List Value} {h : gm_H} {Q : gm_R → gm_H → Prop} {a1 a2 : Value}  : gm_W E d 17 20 [.null, a1, a2] st h Q ↔ gm_W E d 17 21 [.null, a1, a2] (.null :: st) h Q := gw_loc m17 f17_20 rfl rfl
theorem f17_21 : gm_ft 17 21 = some (.dup, 1) := by decide +kernel
theorem r17_21 {E : Nat → Value} {d : Nat} {st : List Value} {h : gm_H} {Q : gm_R → gm_H → Prop} {lv : List Value} {a : Nat} : gm_W E d 17 21 lv (.ref a :: st) h Q ↔ gm_W E d 17 22 lv (.ref a :: .ref a :: st) h Q := gw_pure m17 f17_21 rfl
theorem r17_21i {E : Nat → Value} {d : Nat} {st : List Value} {h : gm_H} {Q : gm_R → gm_H → Prop} {lv : List Value} {x : Int32} : gm_W E d 17 21 lv (.int x :: st) h Q ↔ gm_W E d 17 22 lv (.int x :: .int x :: st) h Q := gw_pure m17 f17_21 rfl
theorem f17_22 : gm_ft 17 22 = some (.getfield 166, 3) := by decide +kernel
theorem r17_22 {E : Nat → Value} {d : Nat} {st : List Value} {h : gm_H} {Q : gm_R → gm_H → Prop} {lv : List Value} {a : Nat} (hk : gm_kd h a = 5) : gm_W E d 17 22 lv (.ref a :: st) h Q ↔ gm_W E d 17 25 lv (gm_fv h a 28 :: st) h Q := gw_rd m17 f17_22 rfl rfl rfl rfl (gs_get k5_166 hk (by decide))
theorem f17_25 : gm_ft 17 25 = some (.iconst 1, 1) := by decide +kernel
theorem r17_25 {E : Nat → Value} {d : Nat} {st : List Value} {h : gm_H} {Q : gm_R → gm_H → Prop} {lv : List Value} : gm_W E d 17 25 lv st h Q ↔ gm_W E d 17 26 lv (.int (1 : Int32) :: st) h Q := gw_pure m17 f17_25 rfl
theorem f17_26 : gm_ft 17 26 = some (.iadd, 1) := by decide +kernel
theorem r17_26 {E : Nat → Value} {d : Nat} {st : List Value} {h : gm_H} {Q : gm_R → gm_H → Prop} {lv : List Value} {x y : Int32} : gm_W E d 17 26 lv (.int y :: .int x :: st) h Q ↔ gm_W E d 17 27 lv (.int (x + y) :: st) h Q := gw_pure m17 f17_26 rfl
theorem f17_27 : gm_ft 17 27 = some (.putfield 166, 3) := by decide +kernel
theorem r17_27 {E : Nat → Value} {d : Nat} {st : List Value} {h : gm_H} {Q : gm_R → gm_H → Prop} {lv : List Value} {a : Nat} {x : Int32} (hk : gm_kd h a = 5) : gm_W E d 17 27 lv (.int x :: .ref a :: st) h Q ↔ gm_W E d 17 30 lv st (gm_sf h a 28 (.int x)) Q := gw_wr m17 f17_27 rfl rfl rfl rfl rfl (gs_put k5_166 hk (by decide) (by decide) ⟨rfl, rfl⟩ (by decide))
theorem f17_30 : gm_ft 17 30 = some (.aload_n 0, 1) := by decide +kernel
theorem r17_30 {E : Nat → Value} {d : Nat} {st : List Value} {h : gm_H} {Q : gm_R → gm_H → Prop} {a1 a2 : Value} {x : Nat} : gm_W E d 17 30 [.ref x, a1, a2] st h Q ↔ gm_W E d 17 31 [.ref x, a1, a2] (.ref x :: st) h Q := gw_loc m17 f17_30 rfl rfl
theorem r17_30n {E : Nat → Value} {d : Nat} {st : List Value} {h : gm_H} {Q : gm_R → gm_H → Prop} {a1 a2 : Value}  : gm_W E d 17 30 [.null, a1, a2] st h Q ↔ gm_W E d 17 31 [.null, a1, a2] (.null :: st) h Q := gw_loc m17 f17_30 rfl rfl
theorem f17_31 : gm_ft 17 31 = some (.getfield 166, 3) := by decide +kernel
theorem r17_31 {E : Nat → Value} {d : Nat} {st : List Value} {h : gm_H} {Q : gm_R → gm_H → Prop} {lv : List Value} {a : Nat} (hk : gm_kd h a = 5) : gm_W E d 17 31 lv (.ref a :: st) h Q ↔ gm_W E d 17 34 lv (gm_fv h a 28 :: st) h Q := gw_rd m17 f17_31 rfl rfl rfl rfl (gs_get k5_166 hk (by decide))
theorem f17_34 : gm_ft 17 34 = some (.iconst 1, 1) := by decide +kernel
theorem r17_34 {E : Nat → Value} {d : Nat} {st : List Value} {h : gm_H} {Q : gm_R → gm_H → Prop} {lv : List Value} : gm_W E d 17 34 lv st h Q ↔ gm_W E d 17 35 lv (.int (1 : Int32) :: st) h Q := gw_pure m17 f17_34 rfl
theorem f17_35 : gm_ft 17 35 = some (.isub, 1) := by decide +kernel
theorem r17_35 {E : Nat → Value} {d : Nat} {st : List Value} {h : gm_H} {Q : gm_R → gm_H → Prop} {lv : List Value} {x y : Int32} : gm_W E d 17 35 lv (.int y :: .int x :: st) h Q ↔ gm_W E d 17 36 lv (.int (x - y) :: st) h Q := gw_pure m17 f17_35 rfl
theorem f17_36 : gm_ft 17 36 = some (.ireturn, 1) := by decide +kernel
theorem r17_36 {E : Nat → Value} {d : Nat} {h : gm_H} {Q : gm_R → gm_H → Prop} {lv : List Value} {x : Int32} : gm_W E d 17 36 lv [.int x] h Q ↔ Q (.inl (some (.int x))) h := gw_ret m17 f17_36 rfl rfl rfl rfl rfl rfl rfl rfl (by unfold gm_rt; dsimp only; rw [if_pos ⟨rfl, rfl⟩])
/-! GraphReaderModel.make(IIII)I -/
theorem m18 : gm_mt[18]? = some (⟨"GraphReaderModel", "make", "(IIII)I"⟩, prog_7_method_17_code, 5, (some .int), [], 5, 2) := rfl
theorem f18_0 : gm_ft 18 0 = some (.aload_n 0, 1) := by decide +kernel
theorem r18_0 {E : Nat → Value} {d : Nat} {st : List Value} {h : gm_H} {Q : gm_R → gm_H → Prop} {a1 a2 a3 a4 : Value} {x : Nat} : gm_W E d 18 0 [.ref x, a1, a2, a3, a4] st h Q ↔ gm_W E d 18 1 [.ref x, a1, a2, a3, a4] (.ref x :: st) h Q := gw_loc m18 f18_0 rfl rfl
theorem r18_0n {E : Nat → Value} {d : Nat} {st : List Value} {h : gm_H} {Q : gm_R → gm_H → Prop} {a1 a2 a3 a4 : Value}  : gm_W E d 18 0 [.null, a1, a2, a3, a4] st h Q ↔ gm_W E d 18 1 [.null, a1, a2, a3, a4] (.null :: st) h Q := gw_loc m18 f18_0 rfl rfl
theorem f18_1 : gm_ft 18 1 = some (.getfield 39, 3) := by decide +kernel
theorem r18_1 {E : Nat → Value} {d : Nat} {st : List Value} {h : gm_H} {Q : gm_R → gm_H → Prop} {lv : List Value} {a : Nat} (hk : gm_kd h a = 5) : gm_W E d 18 1 lv (.ref a :: st) h Q ↔ gm_W E d 18 4 lv (gm_fv h a 18 :: st) h Q := gw_rd m18 f18_1 rfl rfl rfl rfl (gs_get k5_39 hk (by decide))
theorem f18_4 : gm_ft 18 4 = some (.aload_n 0, 1) := by decide +kernel
theorem r18_4 {E : Nat → Value} {d : Nat} {st : List Value} {h : gm_H} {Q : gm_R → gm_H → Prop} {a1 a2 a3 a4 : Value} {x : Nat} : gm_W E d 18 4 [.ref x, a1, a2, a3, a4] st h Q ↔ gm_W E d 18 5 [.ref x, a1, a2, a3, a4] (.ref x :: st) h Q := gw_loc m18 f18_4 rfl rfl
theorem r18_4n {E : Nat → Value} {d : Nat} {st : List Value} {h : gm_H} {Q : gm_R → gm_H → Prop} {a1 a2 a3 a4 : Value}  : gm_W E d 18 4 [.null, a1, a2, a3, a4] st h Q ↔ gm_W E d 18 5 [.null, a1, a2, a3, a4] (.null :: st) h Q := gw_loc m18 f18_4 rfl rfl
theorem f18_5 : gm_ft 18 5 = some (.getfield 139, 3) := by decide +kernel
theorem r18_5 {E : Nat → Value} {d : Nat} {st : List Value} {h : gm_H} {Q : gm_R → gm_H → Prop} {lv : List Value} {a : Nat} (hk : gm_kd h a = 5) : gm_W E d 18 5 lv (.ref a :: st) h Q ↔ gm_W E d 18 8 lv (gm_fv h a 23 :: st) h Q := gw_rd m18 f18_5 rfl rfl rfl rfl (gs_get k5_139 hk (by decide))
theorem f18_8 : gm_ft 18 8 = some (.iload_n 1, 1) := by decide +kernel
theorem r18_8 {E : Nat → Value} {d : Nat} {st : List Value} {h : gm_H} {Q : gm_R → gm_H → Prop} {a0 a2 a3 a4 : Value} {x : Int32} : gm_W E d 18 8 [a0, .int x, a2, a3, a4] st h Q ↔ gm_W E d 18 9 [a0, .int x, a2, a3, a4] (.int x :: st) h Q := gw_loc m18 f18_8 rfl rfl
theorem f18_9 : gm_ft 18 9 = some (.iastore, 1) := by decide +kernel
theorem r18_9 {E : Nat → Value} {d : Nat} {st : List Value} {h : gm_H} {Q : gm_R → gm_H → Prop} {lv : List Value} {a j : Nat} {x : Int32} (hk : gm_kd h a = 200) (hj : j < gm_ln h a) (hl : gm_ln h a < 2 ^ 31) : gm_W E d 18 9 lv (.int x :: .int (nI j) :: .ref a :: st) h Q ↔ gm_W E d 18 10 lv st (gm_sf h a j (.int x)) Q := gw_wr m18 f18_9 rfl rfl rfl rfl rfl (gs_st hk (by decide) hj hl)
theorem f18_10 : gm_ft 18 10 = some (.aload_n 0, 1) := by decide +kernel
theorem r18_10 {E : Nat → Value} {d : Nat} {st : List Value} {h : gm_H} {Q : gm_R → gm_H → Prop} {a1 a2 a3 a4 : Value} {x : Nat} : gm_W E d 18 10 [.ref x, a1, a2, a3, a4] st h Q ↔ gm_W E d 18 11 [.ref x, a1, a2, a3, a4] (.ref x :: st) h Q := gw_loc m18 f18_10 rfl rfl
theorem r18_10n {E : Nat → Value} {d : Nat} {st : List Value} {h : gm_H} {Q : gm_R → gm_H → Prop} {a1 a2 a3 a4 : Value}  : gm_W E d 18 10 [.null, a1, a2, a3, a4] st h Q ↔ gm_W E d 18 11 [.null, a1, a2, a3, a4] (.null :: st) h Q := gw_loc m18 f18_10 rfl rfl
theorem f18_11 : gm_ft 18 11 = some (.getfield 42, 3) := by decide +kernel
theorem r18_11 {E : Nat → Value} {d : Nat} {st : List Value} {h : gm_H} {Q : gm_R → gm_H → Prop} {lv : List Value} {a : Nat} (hk : gm_kd h a = 5) : gm_W E d 18 11 lv (.ref a :: st) h Q ↔ gm_W E d 18 14 lv (gm_fv h a 19 :: st) h Q := gw_rd m18 f18_11 rfl rfl rfl rfl (gs_get k5_42 hk (by decide))
theorem f18_14 : gm_ft 18 14 = some (.aload_n 0, 1) := by decide +kernel
theorem r18_14 {E : Nat → Value} {d : Nat} {st : List Value} {h : gm_H} {Q : gm_R → gm_H → Prop} {a1 a2 a3 a4 : Value} {x : Nat} : gm_W E d 18 14 [.ref x, a1, a2, a3, a4] st h Q ↔ gm_W E d 18 15 [.ref x, a1, a2, a3, a4] (.ref x :: st) h Q := gw_loc m18 f18_14 rfl rfl
theorem r18_14n {E : Nat → Value} {d : Nat} {st : List Value} {h : gm_H} {Q : gm_R → gm_H → Prop} {a1 a2 a3 a4 : Value}  : gm_W E d 18 14 [.null, a1, a2, a3, a4] st h Q ↔ gm_W E d 18 15 [.null, a1, a2, a3, a4] (.null :: st) h Q := gw_loc m18 f18_14 rfl rfl
theorem f18_15 : gm_ft 18 15 = some (.getfield 139, 3) := by decide +kernel
theorem r18_15 {E : Nat → Value} {d : Nat} {st : List Value} {h : gm_H} {Q : gm_R → gm_H → Prop} {lv : List Value} {a : Nat} (hk : gm_kd h a = 5) : gm_W E d 18 15 lv (.ref a :: st) h Q ↔ gm_W E d 18 18 lv (gm_fv h a 23 :: st) h Q := gw_rd m18 f18_15 rfl rfl rfl rfl (gs_get k5_139 hk (by decide))
theorem f18_18 : gm_ft 18 18 = some (.iload_n 2, 1) := by decide +kernel
theorem r18_18 {E : Nat → Value} {d : Nat} {st : List Value} {h : gm_H} {Q : gm_R → gm_H → Prop} {a0 a1 a3 a4 : Value} {x : Int32} : gm_W E d 18 18 [a0, a1, .int x, a3, a4] st h Q ↔ gm_W E d 18 19 [a0, a1, .int x, a3, a4] (.int x :: st) h Q := gw_loc m18 f18_18 rfl rfl
theorem f18_19 : gm_ft 18 19 = some (.iastore, 1) := by decide +kernel
theorem r18_19 {E : Nat → Value} {d : Nat} {st : List Value} {h : gm_H} {Q : gm_R → gm_H → Prop} {lv : List Value} {a j : Nat} {x : Int32} (hk : gm_kd h a = 200) (hj : j < gm_ln h a) (hl : gm_ln h a < 2 ^ 31) : gm_W E d 18 19 lv (.int x :: .int (nI j) :: .ref a :: st) h Q ↔ gm_W E d 18 20 lv st (gm_sf h a j (.int x)) Q := gw_wr m18 f18_19 rfl rfl rfl rfl rfl (gs_st hk (by decide) hj hl)
theorem f18_20 : gm_ft 18 20 = some (.aload_n 0, 1) := by decide +kernel
theorem r18_20 {E : Nat → Value} {d : Nat} {st : List Value} {h : gm_H} {Q : gm_R → gm_H → Prop} {a1 a2 a3 a4 : Value} {x : Nat} : gm_W E d 18 20 [.ref x, a1, a2, a3, a4] st h Q ↔ gm_W E d 18 21 [.ref x, a1, a2, a3, a4] (.ref x :: st) h Q := gw_loc m18 f18_20 rfl rfl
theorem r18_20n {E : Nat → Value} {d : Nat} {st : List Value} {h : gm_H} {Q : gm_R → gm_H → Prop} {a1 a2 a3 a4 : Value}  : gm_W E d 18 20 [.null, a1, a2, a3, a4] st h Q ↔ gm_W E d 18 21 [.null, a1, a2, a3, a4] (.null :: st) h Q := gw_loc m18 f18_20 rfl rfl
theorem f18_21 : gm_ft 18 21 = some (.getfield 45, 3) := by decide +kernel
theorem r18_21 {E : Nat → Value} {d : Nat} {st : List Value} {h : gm_H} {Q : gm_R → gm_H → Prop} {lv : List Value} {a : Nat} (hk : gm_kd h a = 5) : gm_W E d 18 21 lv (.ref a :: st) h Q ↔ gm_W E d 18 24 lv (gm_fv h a 20 :: st) h Q := gw_rd m18 f18_21 rfl rfl rfl rfl (gs_get k5_45 hk (by decide))
theorem f18_24 : gm_ft 18 24 = some (.aload_n 0, 1) := by decide +kernel
theorem r18_24 {E : Nat → Value} {d : Nat} {st : List Value} {h : gm_H} {Q : gm_R → gm_H → Prop} {a1 a2 a3 a4 : Value} {x : Nat} : gm_W E d 18 24 [.ref x, a1, a2, a3, a4] st h Q ↔ gm_W E d 18 25 [.ref x, a1, a2, a3, a4] (.ref x :: st) h Q := gw_loc m18 f18_24 rfl rfl
theorem r18_24n {E : Nat → Value} {d : Nat} {st : List Value} {h : gm_H} {Q : gm_R → gm_H → Prop} {a1 a2 a3 a4 : Value}  : gm_W E d 18 24 [.null, a1, a2, a3, a4] st h Q ↔ gm_W E d 18 25 [.null, a1, a2, a3, a4] (.null :: st) h Q := gw_loc m18 f18_24 rfl rfl
theorem f18_25 : gm_ft 18 25 = some (.getfield 139, 3) := by decide +kernel
theorem r18_25 {E : Nat → Value} {d : Nat} {st : List Value} {h : gm_H} {Q : gm_R → gm_H → Prop} {lv : List Value} {a : Nat} (hk : gm_kd h a = 5) : gm_W E d 18 25 lv (.ref a :: st) h Q ↔ gm_W E d 18 28 lv (gm_fv h a 23 :: st) h Q := gw_rd m18 f18_25 rfl rfl rfl rfl (gs_get k5_139 hk (by decide))
theorem f18_28 : gm_ft 18 28 = some (.iload_n 3, 1) := by decide +kernel
theorem r18_28 {E : Nat → Value} {d : Nat} {st : List Value} {h : gm_H} {Q : gm_R → gm_H → Prop} {a0 a1 a2 a4 : Value} {x : Int32} : gm_W E d 18 28 [a0, a1, a2, .int x, a4] st h Q ↔ gm_W E d 18 29 [a0, a1, a2, .int x, a4] (.int x :: st) h Q := gw_loc m18 f18_28 rfl rfl
theorem f18_29 : gm_ft 18 29 = some (.iastore, 1) := by decide +kernel
theorem r18_29 {E : Nat → Value} {d : Nat} {st : List Value} {h : gm_H} {Q : gm_R → gm_H → Prop} {lv : List Value} {a j : Nat} {x : Int32} (hk : gm_kd h a = 200) (hj : j < gm_ln h a) (hl : gm_ln h a < 2 ^ 31) : gm_W E d 18 29 lv (.int x :: .int (nI j) :: .ref a :: st) h Q ↔ gm_W E d 18 30 lv st (gm_sf h a j (.int x)) Q := gw_wr m18 f18_29 rfl rfl rfl rfl rfl (gs_st hk (by decide) hj hl)
theorem f18_30 : gm_ft 18 30 = some (.aload_n 0, 1) := by decide +kernel
theorem r18_30 {E : Nat → Value} {d : Nat} {st : List Value} {h : gm_H} {Q : gm_R → gm_H → Prop} {a1 a2 a3 a4 : Value} {x : Nat} : gm_W E d 18 30 [.ref x, a1, a2, a3, a4] st h Q ↔ gm_W E d 18 31 [.ref x, a1, a2, a3, a4] (.ref x :: st) h Q := gw_loc m18 f18_30 rfl rfl
theorem r18_30n {E : Nat → Value} {d : Nat} {st : List Value} {h : gm_H} {Q : gm_R → gm_H → Prop} {a1 a2 a3 a4 : Value}  : gm_W E d 18 30 [.null, a1, a2, a3, a4] st h Q ↔ gm_W E d 18 31 [.null, a1, a2, a3, a4] (.null :: st) h Q := gw_loc m18 f18_30 rfl rfl
theorem f18_31 : gm_ft 18 31 = some (.getfield 48, 3) := by decide +kernel
theorem r18_31 {E : Nat → Value} {d : Nat} {st : List Value} {h : gm_H} {Q : gm_R → gm_H → Prop} {lv : List Value} {a : Nat} (hk : gm_kd h a = 5) : gm_W E d 18 31 lv (.ref a :: st) h Q ↔ gm_W E d 18 34 lv (gm_fv h a 21 :: st) h Q := gw_rd m18 f18_31 rfl rfl rfl rfl (gs_get k5_48 hk (by decide))
theorem f18_34 : gm_ft 18 34 = some (.aload_n 0, 1) := by decide +kernel
theorem r18_34 {E : Nat → Value} {d : Nat} {st : List Value} {h : gm_H} {Q : gm_R → gm_H → Prop} {a1 a2 a3 a4 : Value} {x : Nat} : gm_W E d 18 34 [.ref x, a1, a2, a3, a4] st h Q ↔ gm_W E d 18 35 [.ref x, a1, a2, a3, a4] (.ref x :: st) h Q := gw_loc m18 f18_34 rfl rfl
theorem r18_34n {E : Nat → Value} {d : Nat} {st : List Value} {h : gm_H} {Q : gm_R → gm_H → Prop} {a1 a2 a3 a4 : Value}  : gm_W E d 18 34 [.null, a1, a2, a3, a4] st h Q ↔ gm_W E d 18 35 [.null, a1, a2, a3, a4] (.null :: st) h Q := gw_loc m18 f18_34 rfl rfl
theorem f18_35 : gm_ft 18 35 = some (.getfield 139, 3) := by decide +kernel
theorem r18_35 {E : Nat → Value} {d : Nat} {st : List Value} {h : gm_H} {Q : gm_R → gm_H → Prop} {lv : List Value} {a : Nat} (hk : gm_kd h a = 5) : gm_W E d 18 35 lv (.ref a :: st) h Q ↔ gm_W E d 18 38 lv (gm_fv h a 23 :: st) h Q := gw_rd m18 f18_35 rfl rfl rfl rfl (gs_get k5_139 hk (by decide))
theorem f18_38 : gm_ft 18 38 = some (.iload 4, 2) := by decide +kernel
theorem r18_38 {E : Nat → Value} {d : Nat} {st : List Value} {h : gm_H} {Q : gm_R → gm_H → Prop} {a0 a1 a2 a3 : Value} {x : Int32} : gm_W E d 18 38 [a0, a1, a2, a3, .int x] st h Q ↔ gm_W E d 18 40 [a0, a1, a2, a3, .int x] (.int x :: st) h Q := gw_loc m18 f18_38 rfl rfl
theorem f18_40 : gm_ft 18 40 = some (.iastore, 1) := by decide +kernel
theorem r18_40 {E : Nat → Value} {d : Nat} {st : List Value} {h : gm_H} {Q : gm_R → gm_H → Prop} {lv : List Value} {a j : Nat} {x : Int32} (hk : gm_kd h a = 200) (hj : j < gm_ln h a) (hl : gm_ln h a < 2 ^ 31) : gm_W E d 18 40 lv (.int x :: .int (nI j) :: .ref a :: st) h Q ↔ gm_W E d 18 41 lv st (gm_sf h a j (.int x)) Q := gw_wr m18 f18_40 rfl rfl rfl rfl rfl (gs_st hk (by decide) hj hl)
theorem f18_41 : gm_ft 18 41 = some (.aload_n 0, 1) := by decide +kernel
theorem r18_41 {E : Nat → Value} {d : Nat} {st : List Value} {h : gm_H} {Q : gm_R → gm_H → Prop} {a1 a2 a3 a4 : Value} {x : Nat} : gm_W E d 18 41 [.ref x, a1, a2, a3, a4] st h Q ↔ gm_W E d 18 42 [.ref x, a1, a2, a3, a4] (.ref x :: st) h Q := gw_loc m18 f18_41 rfl rfl
theorem r18_41n {E : Nat → Value} {d : Nat} {st : List Value} {h : gm_H} {Q : gm_R → gm_H → Prop} {a1 a2 a3 a4 : Value}  : gm_W E d 18 41 [.null, a1, a2, a3, a4] st h Q ↔ gm_W E d 18 42 [.null, a1, a2, a3, a4] (.null :: st) h Q := gw_loc m18 f18_41 rfl rfl
theorem f18_42 : gm_ft 18 42 = some (.getfield 51, 3) := by decide +kernel
theorem r18_42 {E : Nat → Value} {d : Nat} {st : List Value} {h : gm_H} {Q : gm_R → gm_H → Prop} {lv : List Value} {a : Nat} (hk : gm_kd h a = 5) : gm_W E d 18 42 lv (.ref a :: st) h Q ↔ gm_W E d 18 45 lv (gm_fv h a 22 :: st) h Q := gw_rd m18 f18_42 rfl rfl rfl rfl (gs_get k5_51 hk (by decide))
theorem f18_45 : gm_ft 18 45 = some (.aload_n 0, 1) := by decide +kernel
theorem r18_45 {E : Nat → Value} {d : Nat} {st : List Value} {h : gm_H} {Q : gm_R → gm_H → Prop} {a1 a2 a3 a4 : Value} {x : Nat} : gm_W E d 18 45 [.ref x, a1, a2, a3, a4] st h Q ↔ gm_W E d 18 46 [.ref x, a1, a2, a3, a4] (.ref x :: st) h Q := gw_loc m18 f18_45 rfl rfl
theorem r18_45n {E : Nat → Value} {d : Nat} {st : List Value} {h : gm_H} {Q : gm_R → gm_H → Prop} {a1 a2 a3 a4 : Value}  : gm_W E d 18 45 [.null, a1, a2, a3, a4] st h Q ↔ gm_W E d 18 46 [.null, a1, a2, a3, a4] (.null :: st) h Q := gw_loc m18 f18_45 rfl rfl
theorem f18_46 : gm_ft 18 46 = some (.getfield 139, 3) := by decide +kernel
theorem r18_46 {E : Nat → Value} {d : Nat} {st : List Value} {h : gm_H} {Q : gm_R → gm_H → Prop} {lv : List Value} {a : Nat} (hk : gm_kd h a = 5) : gm_W E d 18 46 lv (.ref a :: st) h Q ↔ gm_W E d 18 49 lv (gm_fv h a 23 :: st) h Q := gw_rd m18 f18_46 rfl rfl rfl rfl (gs_get k5_139 hk (by decide))
theorem f18_49 : gm_ft 18 49 = some (.iconst 0, 1) := by decide +kernel
theorem r18_49 {E : Nat → Value} {d : Nat} {st : List Value} {h : gm_H} {Q : gm_R → gm_H → Prop} {lv : List Value} : gm_W E d 18 49 lv st h Q ↔ gm_W E d 18 50 lv (.int (0 : Int32) :: st) h Q := gw_pure m18 f18_49 rfl
theorem f18_50 : gm_ft 18 50 = some (.iastore, 1) := by decide +kernel
theorem r18_50 {E : Nat → Value} {d : Nat} {st : List Value} {h : gm_H} {Q : gm_R → gm_H → Prop} {lv : List Value} {a j : Nat} {x : Int32} (hk : gm_kd h a = 200) (hj : j < gm_ln h a) (hl : gm_ln h a < 2 ^ 31) : gm_W E d 18 50 lv (.int x :: .int (nI j) :: .ref a :: st) h Q ↔ gm_W E d 18 51 lv st (gm_sf h a j (.int x)) Q := gw_wr m18 f18_50 rfl rfl rfl rfl rfl (gs_st hk (by decide) hj hl)
theorem f18_51 : gm_ft 18 51 = some (.aload_n 0, 1) := by decide +kernel
theorem r18_51 {E : Nat → Value} {d : Nat} {st : List Value} {h : gm_H} {Q : gm_R → gm_H → Prop} {a1 a2 a3 a4 : Value} {x : Nat} : gm_W E d 18 51 [.ref x, a1, a2, a3, a4] st h Q ↔ gm_W E d 18 52 [.ref x, a1, a2, a3, a4] (.ref x :: st) h Q := gw_loc m18 f18_51 rfl rfl
theorem r18_51n {E : Nat → Value} {d : Nat} {st : List Value} {h : gm_H} {Q : gm_R → gm_H → Prop} {a1 a2 a3 a4 : Value}  : gm_W E d 18 51 [.null, a1, a2, a3, a4] st h Q ↔ gm_W E d 18 52 [.null, a1, a2, a3, a4] (.null :: st) h Q := gw_loc m18 f18_51 rfl rfl
theorem f18_52 : gm_ft 18 52 = some (.dup, 1) := by decide +kernel
theorem r18_52 {E : Nat → Value} {d : Nat} {st : List Value} {h : gm_H} {Q : gm_R → gm_H → Prop} {lv : List Value} {a : Nat} : gm_W E d 18 52 lv (.ref a :: st) h Q ↔ gm_W E d 18 53 lv (.ref a :: .ref a :: st) h Q := gw_pure m18 f18_52 rfl
theorem r18_52i {E : Nat → Value} {d : Nat} {st : List Value} {h : gm_H} {Q : gm_R → gm_H → Prop} {lv : List Value} {x : Int32} : gm_W E d 18 52 lv (.int x :: st) h Q ↔ gm_W E d 18 53 lv (.int x :: .int x :: st) h Q := gw_pure m18 f18_52 rfl
theorem f18_53 : gm_ft 18 53 = some (.getfield 139, 3) := by decide +kernel
theorem r18_53 {E : Nat → Value} {d : Nat} {st : List Value} {h : gm_H} {Q : gm_R → gm_H → Prop} {lv : List Value} {a : Nat} (hk : gm_kd h a = 5) : gm_W E d 18 53 lv (.ref a :: st) h Q ↔ gm_W E d 18 56 lv (gm_fv h a 23 :: st) h Q := gw_rd m18 f18_53 rfl rfl rfl rfl (gs_get k5_139 hk (by decide))
theorem f18_56 : gm_ft 18 56 = some (.iconst 1, 1) := by decide +kernel
theorem r18_56 {E : Nat → Value} {d : Nat} {st : List Value} {h : gm_H} {Q : gm_R → gm_H → Prop} {lv : List Value} : gm_W E d 18 56 lv st h Q ↔ gm_W E d 18 57 lv (.int (1 : Int32) :: st) h Q := gw_pure m18 f18_56 rfl
theorem f18_57 : gm_ft 18 57 = some (.iadd, 1) := by decide +kernel
theorem r18_57 {E : Nat → Value} {d : Nat} {st : List Value} {h : gm_H} {Q : gm_R → gm_H → Prop} {lv : List Value} {x y : Int32} : gm_W E d 18 57 lv (.int y :: .int x :: st) h Q ↔ gm_W E d 18 58 lv (.int (x + y) :: st) h Q := gw_pure m18 f18_57 rfl
theorem f18_58 : gm_ft 18 58 = some (.putfield 139, 3) := by decide +kernel
theorem r18_58 {E : Nat → Value} {d : Nat} {st : List Value} {h : gm_H} {Q : gm_R → gm_H → Prop} {lv : List Value} {a : Nat} {x : Int32} (hk : gm_kd h a = 5) : gm_W E d 18 58 lv (.int x :: .ref a :: st) h Q ↔ gm_W E d 18 61 lv st (gm_sf h a 23 (.int x)) Q := gw_wr m18 f18_58 rfl rfl rfl rfl rfl (gs_put k5_139 hk (by decide) (by decide) ⟨rfl, rfl⟩ (by decide))
theorem f18_61 : gm_ft 18 61 = some (.aload_n 0, 1) := by decide +kernel
theorem r18_61 {E : Nat → Value} {d : Nat} {st : List Value} {h : gm_H} {Q : gm_R → gm_H → Prop} {a1 a2 a3 a4 : Value} {x : Nat} : gm_W E d 18 61 [.ref x, a1, a2, a3, a4] st h Q ↔ gm_W E d 18 62 [.ref x, a1, a2, a3, a4] (.ref x :: st) h Q := gw_loc m18 f18_61 rfl rfl
theorem r18_61n {E : Nat → Value} {d : Nat} {st : List Value} {h : gm_H} {Q : gm_R → gm_H → Prop} {a1 a2 a3 a4 : Value}  : gm_W E d 18 61 [.null, a1, a2, a3, a4] st h Q ↔ gm_W E d 18 62 [.null, a1, a2, a3, a4] (.null :: st) h Q := gw_loc m18 f18_61 rfl rfl
theorem f18_62 : gm_ft 18 62 = some (.getfield 139, 3) := by decide +kernel
theorem r18_62 {E : Nat → Value} {d : Nat} {st : List Value} {h : gm_H} {Q : gm_R → gm_H → Prop} {lv : List Value} {a : Nat} (hk : gm_kd h a = 5) : gm_W E d 18 62 lv (.ref a :: st) h Q ↔ gm_W E d 18 65 lv (gm_fv h a 23 :: st) h Q := gw_rd m18 f18_62 rfl rfl rfl rfl (gs_get k5_139 hk (by decide))
theorem f18_65 : gm_ft 18 65 = some (.iconst 1, 1) := by decide +kernel
theorem r18_65 {E : Nat → Value} {d : Nat} {st : List Value} {h : gm_H} {Q : gm_R → gm_H → Prop} {lv : List Value} : gm_W E d 18 65 lv st h Q ↔ gm_W E d 18 66 lv (.int (1 : Int32) :: st) h Q := gw_pure m18 f18_65 rfl
theorem f18_66 : gm_ft 18 66 = some (.isub, 1) := by decide +kernel
theorem r18_66 {E : Nat → Value} {d : Nat} {st : List Value} {h : gm_H} {Q : gm_R → gm_H → Prop} {lv : List Value} {x y : Int32} : gm_W E d 18 66 lv (.int y :: .int x :: st) h Q ↔ gm_W E d 18 67 lv (.int (x - y) :: st) h Q := gw_pure m18 f18_66 rfl
theorem f18_67 : gm_ft 18 67 = some (.ireturn, 1) := by decide +kernel
theorem r18_67 {E : Nat → Value} {d : Nat} {h : gm_H} {Q : gm_R → gm_H → Prop} {lv : List Value} {x : Int32} : gm_W E d 18 67 lv [.int x] h Q ↔ Q (.inl (some (.int x))) h := gw_ret m18 f18_67 rfl rfl rfl rfl rfl rfl rfl rfl (by unfold gm_rt; dsimp only; rw [if_pos ⟨rfl, rfl⟩])
/-! GraphReaderModel.limits(III)Z -/
theorem m19 : gm_mt[19]? = some (⟨"GraphReaderModel", "limits", "(III)Z"⟩, prog_7_method_18_code, 5, (some .boolean), [], 5, 2) := rfl
theorem f19_0 : gm_ft 19 0 = some (.iload_n 1, 1) := by decide +kernel
theorem r19_0 {E : Nat → Value} {d : Nat} {st : List Value} {h : gm_H} {Q : gm_R → gm_H → Prop} {a0 a2 a3 a4 : Value} {x : Int32} : gm_W E d 19 0 [a0, .int x, a2, a3, a4] st h Q ↔ gm_W E d 19 1 [a0, .int x, a2, a3, a4] (.int x :: st) h Q := gw_loc m19 f19_0 rfl rfl
theorem f19_1 : gm_ft 19 1 = some (.aload_n 0, 1) := by decide +kernel
theorem r19_1 {E : Nat → Value} {d : Nat} {st : List Value} {h : gm_H} {Q : gm_R → gm_H → Prop} {a1 a2 a3 a4 : Value} {x : Nat} : gm_W E d 19 1 [.ref x, a1, a2, a3, a4] st h Q ↔ gm_W E d 19 2 [.ref x, a1, a2, a3, a4] (.ref x :: st) h Q := gw_loc m19 f19_1 rfl rfl
theorem r19_1n {E : Nat → Value} {d : Nat} {st : List Value} {h : gm_H} {Q : gm_R → gm_H → Prop} {a1 a2 a3 a4 : Value}  : gm_W E d 19 1 [.null, a1, a2, a3, a4] st h Q ↔ gm_W E d 19 2 [.null, a1, a2, a3, a4] (.null :: st) h Q := gw_loc m19 f19_1 rfl rfl
theorem f19_2 : gm_ft 19 2 = some (.getfield 118, 3) := by decide +kernel
theorem r19_2 {E : Nat → Value} {d : Nat} {st : List Value} {h : gm_H} {Q : gm_R → gm_H → Prop} {lv : List Value} {a : Nat} (hk : gm_kd h a = 5) : gm_W E d 19 2 lv (.ref a :: st) h Q ↔ gm_W E d 19 5 lv (gm_fv h a 0 :: st) h Q := gw_rd m19 f19_2 rfl rfl rfl rfl (gs_get k5_118 hk (by decide))
theorem f19_5 : gm_ft 19 5 = some (.if_icmp .gt 33, 3) := by decide +kernel
theorem r19_5 {E : Nat → Value} {d : Nat} {st : List Value} {h : gm_H} {Q : gm_R → gm_H → Prop} {lv : List Value} {x y : Int32} : gm_W E d 19 5 lv (.int y :: .int x :: st) h Q ↔ (if y < x then gm_W E d 19 38 lv st h Q else gm_W E d 19 8 lv st h Q) := (gw_br m19 f19_5 rfl rfl rfl rfl).trans gw_if
theorem f19_8 : gm_ft 19 8 = some (.aload_n 0, 1) := by decide +kernel
theorem r19_8 {E : Nat → Value} {d : Nat} {st : List Value} {h : gm_H} {Q : gm_R → gm_H → Prop} {a1 a2 a3 a4 : Value} {x : Nat} : gm_W E d 19 8 [.ref x, a1, a2, a3, a4] st h Q ↔ gm_W E d 19 9 [.ref x, a1, a2, a3, a4] (.ref x :: st) h Q := gw_loc m19 f19_8 rfl rfl
theorem r19_8n {E : Nat → Value} {d : Nat} {st : List Value} {h : gm_H} {Q : gm_R → gm_H → Prop} {a1 a2 a3 a4 : Value}  : gm_W E d 19 8 [.null, a1, a2, a3, a4] st h Q ↔ gm_W E d 19 9 [.null, a1, a2, a3, a4] (.null :: st) h Q := gw_loc m19 f19_8 rfl rfl
theorem f19_9 : gm_ft 19 9 = some (.getfield 166, 3) := by decide +kernel
theorem r19_9 {E : Nat → Value} {d : Nat} {st : List Value} {h : gm_H} {Q : gm_R → gm_H → Prop} {lv : List Value} {a : Nat} (hk : gm_kd h a = 5) : gm_W E d 19 9 lv (.ref a :: st) h Q ↔ gm_W E d 19 12 lv (gm_fv h a 28 :: st) h Q := gw_rd m19 f19_9 rfl rfl rfl rfl (gs_get k5_166 hk (by decide))
theorem f19_12 : gm_ft 19 12 = some (.aload_n 0, 1) := by decide +kernel
theorem r19_12 {E : Nat → Value} {d : Nat} {st : List Value} {h : gm_H} {Q : gm_R → gm_H → Prop} {a1 a2 a3 a4 : Value} {x : Nat} : gm_W E d 19 12 [.ref x, a1, a2, a3, a4] st h Q ↔ gm_W E d 19 13 [.ref x, a1, a2, a3, a4] (.ref x :: st) h Q := gw_loc m19 f19_12 rfl rfl
theorem r19_12n {E : Nat → Value} {d : Nat} {st : List Value} {h : gm_H} {Q : gm_R → gm_H → Prop} {a1 a2 a3 a4 : Value}  : gm_W E d 19 12 [.null, a1, a2, a3, a4] st h Q ↔ gm_W E d 19 13 [.null, a1, a2, a3, a4] (.null :: st) h Q := gw_loc m19 f19_12 rfl rfl
theorem f19_13 : gm_ft 19 13 = some (.getfield 122, 3) := by decide +kernel
theorem r19_13 {E : Nat → Value} {d : Nat} {st : List Value} {h : gm_H} {Q : gm_R → gm_H → Prop} {lv : List Value} {a : Nat} (hk : gm_kd h a = 5) : gm_W E d 19 13 lv (.ref a :: st) h Q ↔ gm_W E d 19 16 lv (gm_fv h a 1 :: st) h Q := gw_rd m19 f19_13 rfl rfl rfl rfl (gs_get k5_122 hk (by decide))
theorem f19_16 : gm_ft 19 16 = some (.if_icmp .gt 22, 3) := by decide +kernel
theorem r19_16 {E : Nat → Value} {d : Nat} {st : List Value} {h : gm_H} {Q : gm_R → gm_H → Prop} {lv : List Value} {x y : Int32} : gm_W E d 19 16 lv (.int y :: .int x :: st) h Q ↔ (if y < x then gm_W E d 19 38 lv st h Q else gm_W E d 19 19 lv st h Q) := (gw_br m19 f19_16 rfl rfl rfl rfl).trans gw_if
theorem f19_19 : gm_ft 19 19 = some (.iload_n 2, 1) := by decide +kernel
theorem r19_19 {E : Nat → Value} {d : Nat} {st : List Value} {h : gm_H} {Q : gm_R → gm_H → Prop} {a0 a1 a3 a4 : Value} {x : Int32} : gm_W E d 19 19 [a0, a1, .int x, a3, a4] st h Q ↔ gm_W E d 19 20 [a0, a1, .int x, a3, a4] (.int x :: st) h Q := gw_loc m19 f19_19 rfl rfl
theorem f19_20 : gm_ft 19 20 = some (.aload_n 0, 1) := by decide +kernel
theorem r19_20 {E : Nat → Value} {d : Nat} {st : List Value} {h : gm_H} {Q : gm_R → gm_H → Prop} {a1 a2 a3 a4 : Value} {x : Nat} : gm_W E d 19 20 [.ref x, a1, a2, a3, a4] st h Q ↔ gm_W E d 19 21 [.ref x, a1, a2, a3, a4] (.ref x :: st) h Q := gw_loc m19 f19_20 rfl rfl
theorem r19_20n {E : Nat → Value} {d : Nat} {st : List Value} {h : gm_H} {Q : gm_R → gm_H → Prop} {a1 a2 a3 a4 : Value}  : gm_W E d 19 20 [.null, a1, a2, a3, a4] st h Q ↔ gm_W E d 19 21 [.null, a1, a2, a3, a4] (.null :: st) h Q := gw_loc m19 f19_20 rfl rfl
theorem f19_21 : gm_ft 19 21 = some (.getfield 125, 3) := by decide +kernel
theorem r19_21 {E : Nat → Value} {d : Nat} {st : List Value} {h : gm_H} {Q : gm_R → gm_H → Prop} {lv : List Value} {a : Nat} (hk : gm_kd h a = 5) : gm_W E d 19 21 lv (.ref a :: st) h Q ↔ gm_W E d 19 24 lv (gm_fv h a 2 :: st) h Q := gw_rd m19 f19_21 rfl rfl rfl rfl (gs_get k5_125 hk (by decide))
theorem f19_24 : gm_ft 19 24 = some (.if_icmp .gt 14, 3) := by decide +kernel
theorem r19_24 {E : Nat → Value} {d : Nat} {st : List Value} {h : gm_H} {Q : gm_R → gm_H → Prop} {lv : List Value} {x y : Int32} : gm_W E d 19 24 lv (.int y :: .int x :: st) h Q ↔ (if y < x then gm_W E d 19 38 lv st h Q else gm_W E d 19 27 lv st h Q) := (gw_br m19 f19_24 rfl rfl rfl rfl).trans gw_if
theorem f19_27 : gm_ft 19 27 = some (.aload_n 0, 1) := by decide +kernel
theorem r19_27 {E : Nat → Value} {d : Nat} {st : List Value} {h : gm_H} {Q : gm_R → gm_H → Prop} {a1 a2 a3 a4 : Value} {x : Nat} : gm_W E d 19 27 [.ref x, a1, a2, a3, a4] st h Q ↔ gm_W E d 19 28 [.ref x, a1, a2, a3, a4] (.ref x :: st) h Q := gw_loc m19 f19_27 rfl rfl
theorem r19_27n {E : Nat → Value} {d : Nat} {st : List Value} {h : gm_H} {Q : gm_R → gm_H → Prop} {a1 a2 a3 a4 : Value}  : gm_W E d 19 27 [.null, a1, a2, a3, a4] st h Q ↔ gm_W E d 19 28 [.null, a1, a2, a3, a4] (.null :: st) h Q := gw_loc m19 f19_27 rfl rfl
theorem f19_28 : gm_ft 19 28 = some (.getfield 148, 3) := by decide +kernel
theorem r19_28 {E : Nat → Value} {d : Nat} {st : List Value} {h : gm_H} {Q : gm_R → gm_H → Prop} {lv : List Value} {a : Nat} (hk : gm_kd h a = 5) : gm_W E d 19 28 lv (.ref a :: st) h Q ↔ gm_W E d 19 31 lv (gm_fv h a 6 :: st) h Q := gw_rd m19 f19_28 rfl rfl rfl rfl (gs_get k5_148 hk (by decide))
theorem f19_31 : gm_ft 19 31 = some (.aload_n 0, 1) := by decide +kernel
theorem r19_31 {E : Nat → Value} {d : Nat} {st : List Value} {h : gm_H} {Q : gm_R → gm_H → Prop} {a1 a2 a3 a4 : Value} {x : Nat} : gm_W E d 19 31 [.ref x, a1, a2, a3, a4] st h Q ↔ gm_W E d 19 32 [.ref x, a1, a2, a3, a4] (.ref x :: st) h Q := gw_loc m19 f19_31 rfl rfl
theorem r19_31n {E : Nat → Value} {d : Nat} {st : List Value} {h : gm_H} {Q : gm_R → gm_H → Prop} {a1 a2 a3 a4 : Value}  : gm_W E d 19 31 [.null, a1, a2, a3, a4] st h Q ↔ gm_W E d 19 32 [.null, a1, a2, a3, a4] (.null :: st) h Q := gw_loc m19 f19_31 rfl rfl
theorem f19_32 : gm_ft 19 32 = some (.getfield 128, 3) := by decide +kernel
theorem r19_32 {E : Nat → Value} {d : Nat} {st : List Value} {h : gm_H} {Q : gm_R → gm_H → Prop} {lv : List Value} {a : Nat} (hk : gm_kd h a = 5) : gm_W E d 19 32 lv (.ref a :: st) h Q ↔ gm_W E d 19 35 lv (gm_fv h a 3 :: st) h Q := gw_rd m19 f19_32 rfl rfl rfl rfl (gs_get k5_128 hk (by decide))
theorem f19_35 : gm_ft 19 35 = some (.if_icmp .le 7, 3) := by decide +kernel
theorem r19_35 {E : Nat → Value} {d : Nat} {st : List Value} {h : gm_H} {Q : gm_R → gm_H → Prop} {lv : List Value} {x y : Int32} : gm_W E d 19 35 lv (.int y :: .int x :: st) h Q ↔ (if x ≤ y then gm_W E d 19 42 lv st h Q else gm_W E d 19 38 lv st h Q) := (gw_br m19 f19_35 rfl rfl rfl rfl).trans gw_if
theorem f19_38 : gm_ft 19 38 = some (.iconst 1, 1) := by decide +kernel
theorem r19_38 {E : Nat → Value} {d : Nat} {st : List Value} {h : gm_H} {Q : gm_R → gm_H → Prop} {lv : List Value} : gm_W E d 19 38 lv st h Q ↔ gm_W E d 19 39 lv (.int (1 : Int32) :: st) h Q := gw_pure m19 f19_38 rfl
theorem f19_39 : gm_ft 19 39 = some (.goto 4, 3) := by decide +kernel
theorem r19_39 {E : Nat → Value} {d : Nat} {st : List Value} {h : gm_H} {Q : gm_R → gm_H → Prop} {lv : List Value} : gm_W E d 19 39 lv st h Q ↔ gm_W E d 19 43 lv st h Q := gw_brT m19 f19_39 rfl rfl rfl rfl
theorem f19_42 : gm_ft 19 42 = some (.iconst 0, 1) := by decide +kernel
theorem r19_42 {E : Nat → Value} {d : Nat} {st : List Value} {h : gm_H} {Q : gm_R → gm_H → Prop} {lv : List Value} : gm_W E d 19 42 lv st h Q ↔ gm_W E d 19 43 lv (.int (0 : Int32) :: st) h Q := gw_pure m19 f19_42 rfl
theorem f19_43 : gm_ft 19 43 = some (.istore 4, 2) := by decide +kernel
theorem r19_43 {E : Nat → Value} {d : Nat} {st : List Value} {h : gm_H} {Q : gm_R → gm_H → Prop} {a0 a1 a2 a3 a4 : Value} {x : Int32} : gm_W E d 19 43 [a0, a1, a2, a3, a4] (.int x :: st) h Q ↔ gm_W E d 19 45 [a0, a1, a2, gm_k a3, .int x] st h Q := gw_loc m19 f19_43 rfl rfl
theorem f19_45 : gm_ft 19 45 = some (.iload 4, 2) := by decide +kernel
theorem r19_45 {E : Nat → Value} {d : Nat} {st : List Value} {h : gm_H} {Q : gm_R → gm_H → Prop} {a0 a1 a2 a3 : Value} {x : Int32} : gm_W E d 19 45 [a0, a1, a2, a3, .int x] st h Q ↔ gm_W E d 19 47 [a0, a1, a2, a3, .int x] (.int x :: st) h Q := gw_loc m19 f19_45 rfl rfl
theorem f19_47 : gm_ft 19 47 = some (.ifCond .ne 26, 3) := by decide +kernel
theorem r19_47 {E : Nat → Value} {d : Nat} {st : List Value} {h : gm_H} {Q : gm_R → gm_H → Prop} {lv : List Value} {x : Int32} : gm_W E d 19 47 lv (.int x :: st) h Q ↔ (if x = 0 then gm_W E d 19 50 lv st h Q else gm_W E d 19 73 lv st h Q) := (gw_br m19 f19_47 rfl rfl rfl rfl).trans gw_ifn
theorem f19_50 : gm_ft 19 50 = some (.aload_n 0, 1) := by decide +kernel
theorem r19_50 {E : Nat → Value} {d : Nat} {st : List Value} {h : gm_H} {Q : gm_R → gm_H → Prop} {a1 a2 a3 a4 : Value} {x : Nat} : gm_W E d 19 50 [.ref x, a1, a2, a3, a4] st h Q ↔ gm_W E d 19 51 [.ref x, a1, a2, a3, a4] (.ref x :: st) h Q := gw_loc m19 f19_50 rfl rfl
theorem r19_50n {E : Nat → Value} {d : Nat} {st : List Value} {h : gm_H} {Q : gm_R → gm_H → Prop} {a1 a2 a3 a4 : Value}  : gm_W E d 19 50 [.null, a1, a2, a3, a4] st h Q ↔ gm_W E d 19 51 [.null, a1, a2, a3, a4] (.null :: st) h Q := gw_loc m19 f19_50 rfl rfl
theorem f19_51 : gm_ft 19 51 = some (.getfield 69, 3) := by decide +kernel
theorem r19_51 {E : Nat → Value} {d : Nat} {st : List Value} {h : gm_H} {Q : gm_R → gm_H → Prop} {lv : List Value} {a : Nat} (hk : gm_kd h a = 5) : gm_W E d 19 51 lv (.ref a :: st) h Q ↔ gm_W E d 19 54 lv (gm_fv h a 31 :: st) h Q := gw_rd m19 f19_51 rfl rfl rfl rfl (gs_get k5_69 hk (by decide))
theorem f19_54 : gm_ft 19 54 = some (.iload_n 3, 1) := by decide +kernel
theorem r19_54 {E : Nat → Value} {d : Nat} {st : List Value} {h : gm_H} {Q : gm_R → gm_H → Prop} {a0 a1 a2 a4 : Value} {x : Int32} : gm_W E d 19 54 [a0, a1, a2, .int x, a4] st h Q ↔ gm_W E d 19 55 [a0, a1, a2, .int x, a4] (.int x :: st) h Q := gw_loc m19 f19_54 rfl rfl
theorem f19_55 : gm_ft 19 55 = some (.iaload, 1) := by decide +kernel
theorem r19_55 {E : Nat → Value} {d : Nat} {st : List Value} {h : gm_H} {Q : gm_R → gm_H → Prop} {lv : List Value} {a j : Nat} (hk : gm_kd h a % 100 = 0 ∧ 100 ≤ gm_kd h a ∧ gm_kd h a < 900) (hj : j < gm_ln h a) (hl : gm_ln h a < 2 ^ 31) : gm_W E d 19 55 lv (.int (nI j) :: .ref a :: st) h Q ↔ gm_W E d 19 56 lv (gm_fv h a j :: st) h Q := gw_rd m19 f19_55 rfl rfl rfl rfl (gs_ld (P := fun t => t == 0) hk.2 (by have := hk.1; simp [this] <;> omega) hj hl)
theorem f19_56 : gm_ft 19 56 = some (.ifCond .lt 23, 3) := by decide +kernel
theorem r19_56 {E : Nat → Value} {d : Nat} {st : List Value} {h : gm_H} {Q : gm_R → gm_H → Prop} {lv : List Value} {x : Int32} : gm_W E d 19 56 lv (.int x :: st) h Q ↔ (if x < 0 then gm_W E d 19 79 lv st h Q else gm_W E d 19 59 lv st h Q) := (gw_br m19 f19_56 rfl rfl rfl rfl).trans gw_if
theorem f19_59 : gm_ft 19 59 = some (.aload_n 0, 1) := by decide +kernel
theorem r19_59 {E : Nat → Value} {d : Nat} {st : List Value} {h : gm_H} {Q : gm_R → gm_H → Prop} {a1 a2 a3 a4 : Value} {x : Nat} : gm_W E d 19 59 [.ref x, a1, a2, a3, a4] st h Q ↔ gm_W E d 19 60 [.ref x, a1, a2, a3, a4] (.ref x :: st) h Q := gw_loc m19 f19_59 rfl rfl
theorem r19_59n {E : Nat → Value} {d : Nat} {st : List Value} {h : gm_H} {Q : gm_R → gm_H → Prop} {a1 a2 a3 a4 : Value}  : gm_W E d 19 59 [.null, a1, a2, a3, a4] st h Q ↔ gm_W E d 19 60 [.null, a1, a2, a3, a4] (.null :: st) h Q := gw_loc m19 f19_59 rfl rfl
theorem f19_60 : gm_ft 19 60 = some (.getfield 35, 3) := by decide +kernel
theorem r19_60 {E : Nat → Value} {d : Nat} {st : List Value} {h : gm_H} {Q : gm_R → gm_H → Prop} {lv : List Value} {a : Nat} (hk : gm_kd h a = 5) : gm_W E d 19 60 lv (.ref a :: st) h Q ↔ gm_W E d 19 63 lv (gm_fv h a 17 :: st) h Q := gw_rd m19 f19_60 rfl rfl rfl rfl (gs_get k5_35 hk (by decide))
theorem f19_63 : gm_ft 19 63 = some (.aload_n 0, 1) := by decide +kernel
theorem r19_63 {E : Nat → Value} {d : Nat} {st : List Value} {h : gm_H} {Q : gm_R → gm_H → Prop} {a1 a2 a3 a4 : Value} {x : Nat} : gm_W E d 19 63 [.ref x, a1, a2, a3, a4] st h Q ↔ gm_W E d 19 64 [.ref x, a1, a2, a3, a4] (.ref x :: st) h Q := gw_loc m19 f19_63 rfl rfl
theorem r19_63n {E : Nat → Value} {d : Nat} {st : List Value} {h : gm_H} {Q : gm_R → gm_H → Prop} {a1 a2 a3 a4 : Value}  : gm_W E d 19 63 [.null, a1, a2, a3, a4] st h Q ↔ gm_W E d 19 64 [.null, a1, a2, a3, a4] (.null :: st) h Q := gw_loc m19 f19_63 rfl rfl
theorem f19_64 : gm_ft 19 64 = some (.getfield 69, 3) := by decide +kernel
theorem r19_64 {E : Nat → Value} {d : Nat} {st : List Value} {h : gm_H} {Q : gm_R → gm_H → Prop} {lv : List Value} {a : Nat} (hk : gm_kd h a = 5) : gm_W E d 19 64 lv (.ref a :: st) h Q ↔ gm_W E d 19 67 lv (gm_fv h a 31 :: st) h Q := gw_rd m19 f19_64 rfl rfl rfl rfl (gs_get k5_69 hk (by decide))
theorem f19_67 : gm_ft 19 67 = some (.iload_n 3, 1) := by decide +kernel
theorem r19_67 {E : Nat → Value} {d : Nat} {st : List Value} {h : gm_H} {Q : gm_R → gm_H → Prop} {a0 a1 a2 a4 : Value} {x : Int32} : gm_W E d 19 67 [a0, a1, a2, .int x, a4] st h Q ↔ gm_W E d 19 68 [a0, a1, a2, .int x, a4] (.int x :: st) h Q := gw_loc m19 f19_67 rfl rfl
theorem f19_68 : gm_ft 19 68 = some (.iaload, 1) := by decide +kernel
theorem r19_68 {E : Nat → Value} {d : Nat} {st : List Value} {h : gm_H} {Q : gm_R → gm_H → Prop} {lv : List Value} {a j : Nat} (hk : gm_kd h a % 100 = 0 ∧ 100 ≤ gm_kd h a ∧ gm_kd h a < 900) (hj : j < gm_ln h a) (hl : gm_ln h a < 2 ^ 31) : gm_W E d 19 68 lv (.int (nI j) :: .ref a :: st) h Q ↔ gm_W E d 19 69 lv (gm_fv h a j :: st) h Q := gw_rd m19 f19_68 rfl rfl rfl rfl (gs_ld (P := fun t => t == 0) hk.2 (by have := hk.1; simp [this] <;> omega) hj hl)
theorem f19_69 : gm_ft 19 69 = some (.baload, 1) := by decide +kernel
theorem r19_69 {E : Nat → Value} {d : Nat} {st : List Value} {h : gm_H} {Q : gm_R → gm_H → Prop} {lv : List Value} {a j : Nat} (hk : (gm_kd h a % 100 = 2 ∨ gm_kd h a % 100 = 3) ∧ 100 ≤ gm_kd h a ∧ gm_kd h a < 900) (hj : j < gm_ln h a) (hl : gm_ln h a < 2 ^ 31) : gm_W E d 19 69 lv (.int (nI j) :: .ref a :: st) h Q ↔ gm_W E d 19 70 lv (gm_fv h a j :: st) h Q := gw_rd m19 f19_69 rfl rfl rfl rfl (gs_ld (P := fun t => t == 2 || t == 3) hk.2 (by have := hk.1; simp [this] <;> omega) hj hl)
theorem f19_70 : gm_ft 19 70 = some (.ifCond .eq 9, 3) := by decide +kernel
theorem r19_70 {E : Nat → Value} {d : Nat} {st : List Value} {h : gm_H} {Q : gm_R → gm_H → Prop} {lv : List Value} {x : Int32} : gm_W E d 19 70 lv (.int x :: st) h Q ↔ (if x = 0 then gm_W E d 19 79 lv st h Q else gm_W E d 19 73 lv st h Q) := (gw_br m19 f19_70 rfl rfl rfl rfl).trans gw_if
theorem f19_73 : gm_ft 19 73 = some (.aload_n 0, 1) := by decide +kernel
theorem r19_73 {E : Nat → Value} {d : Nat} {st : List Value} {h : gm_H} {Q : gm_R → gm_H → Prop} {a1 a2 a3 a4 : Value} {x : Nat} : gm_W E d 19 73 [.ref x, a1, a2, a3, a4] st h Q ↔ gm_W E d 19 74 [.ref x, a1, a2, a3, a4] (.ref x :: st) h Q := gw_loc m19 f19_73 rfl rfl
theorem r19_73n {E : Nat → Value} {d : Nat} {st : List Value} {h : gm_H} {Q : gm_R → gm_H → Prop} {a1 a2 a3 a4 : Value}  : gm_W E d 19 73 [.null, a1, a2, a3, a4] st h Q ↔ gm_W E d 19 74 [.null, a1, a2, a3, a4] (.null :: st) h Q := gw_loc m19 f19_73 rfl rfl
theorem f19_74 : gm_ft 19 74 = some (.bipush (-8), 2) := by decide +kernel
theorem r19_74 {E : Nat → Value} {d : Nat} {st : List Value} {h : gm_H} {Q : gm_R → gm_H → Prop} {lv : List Value} : gm_W E d 19 74 lv st h Q ↔ gm_W E d 19 76 lv (.int (-8 : Int32) :: st) h Q := gw_pure m19 f19_74 rfl
theorem f19_76 : gm_ft 19 76 = some (.invokevirtual 151, 3) := by decide +kernel
theorem c19_76 {E : Nat → Value} {d : Nat} {st : List Value} {h : gm_H} {Q : gm_R → gm_H → Prop} {lv : List Value} {b0 : Int32} {a : Nat} {Qc : gm_R → gm_H → Prop} (hs : (st.map fun v => v.category).sum ≤ 8) (hr : gm_kd h a = 5) (hd : 1 ≤ d) (hc : gm_Ca E (d - 1) 10 [.ref a, .int b0] h Qc) (kn : ∀ (v9 : Option Value) (h9 : gm_H), Qc (.inl v9) h9 → gm_W E d 19 79 lv (v9.toList ++ st) h9 Q) (kx : ∀ (x9 : Nat) (h9 : gm_H), Qc (.inr x9) h9 → Q (.inr x9) h9) : gm_W E d 19 76 lv (.int b0 :: .ref a :: st) h Q := gw_call (gn_call m19 f19_76 rfl rfl rfl rfl rfl rfl rfl (gs_virt (bs := [.int b0]) (w := 844) (L := 2) rfl rfl rfl rfl hs (by simp [gm_en1]) hr (by decide)) (by decide)) m19 rfl rfl hd hc kn kx
theorem f19_79 : gm_ft 19 79 = some (.aload_n 0, 1) := by decide +kernel
theorem r19_79 {E : Nat → Value} {d : Nat} {st : List Value} {h : gm_H} {Q : gm_R → gm_H → Prop} {a1 a2 a3 a4 : Value} {x : Nat} : gm_W E d 19 79 [.ref x, a1, a2, a3, a4] st h Q ↔ gm_W E d 19 80 [.ref x, a1, a2, a3, a4] (.ref x :: st) h Q := gw_loc m19 f19_79 rfl rfl
theorem r19_79n {E : Nat → Value} {d : Nat} {st : List Value} {h : gm_H} {Q : gm_R → gm_H → Prop} {a1 a2 a3 a4 : Value}  : gm_W E d 19 79 [.null, a1, a2, a3, a4] st h Q ↔ gm_W E d 19 80 [.null, a1, a2, a3, a4] (.null :: st) h Q := gw_loc m19 f19_79 rfl rfl
theorem f19_80 : gm_ft 19 80 = some (.getfield 145, 3) := by decide +kernel
theorem r19_80 {E : Nat → Value} {d : Nat} {st : List Value} {h : gm_H} {Q : gm_R → gm_H → Prop} {lv : List Value} {a : Nat} (hk : gm_kd h a = 5) : gm_W E d 19 80 lv (.ref a :: st) h Q ↔ gm_W E d 19 83 lv (gm_fv h a 8 :: st) h Q := gw_rd m19 f19_80 rfl rfl rfl rfl (gs_get k5_145 hk (by decide))
theorem f19_83 : gm_ft 19 83 = some (.ifCond .ne 7, 3) := by decide +kernel
theorem r19_83 {E : Nat → Value} {d : Nat} {st : List Value} {h : gm_H} {Q : gm_R → gm_H → Prop} {lv : List Value} {x : Int32} : gm_W E d 19 83 lv (.int x :: st) h Q ↔ (if x = 0 then gm_W E d 19 86 lv st h Q else gm_W E d 19 90 lv st h Q) := (gw_br m19 f19_83 rfl rfl rfl rfl).trans gw_ifn
theorem f19_86 : gm_ft 19 86 = some (.iconst 1, 1) := by decide +kernel
theorem r19_86 {E : Nat → Value} {d : Nat} {st : List Value} {h : gm_H} {Q : gm_R → gm_H → Prop} {lv : List Value} : gm_W E d 19 86 lv st h Q ↔ gm_W E d 19 87 lv (.int (1 : Int32) :: st) h Q := gw_pure m19 f19_86 rfl
theorem f19_87 : gm_ft 19 87 = some (.goto 4, 3) := by decide +kernel
theorem r19_87 {E : Nat → Value} {d : Nat} {st : List Value} {h : gm_H} {Q : gm_R → gm_H → Prop} {lv : List Value} : gm_W E d 19 87 lv st h Q ↔ gm_W E d 19 91 lv st h Q := gw_brT m19 f19_87 rfl rfl rfl rfl
theorem f19_90 : gm_ft 19 90 = some (.iconst 0, 1) := by decide +kernel
theorem r19_90 {E : Nat → Value} {d : Nat} {st : List Value} {h : gm_H} {Q : gm_R → gm_H → Prop} {lv : List Value} : gm_W E d 19 90 lv st h Q ↔ gm_W E d 19 91 lv (.int (0 : Int32) :: st) h Q := gw_pure m19 f19_90 rfl
theorem f19_91 : gm_ft 19 91 = some (.ireturn, 1) := by decide +kernel
theorem r19_91 {E : Nat → Value} {d : Nat} {h : gm_H} {Q : gm_R → gm_H → Prop} {lv : List Value} {x : Int32} (hx : x = 0 ∨ x = 1) : gm_W E d 19 91 lv [.int x] h Q ↔ Q (.inl (some (.int x))) h := gw_ret m19 f19_91 rfl rfl rfl rfl rfl rfl rfl rfl (by unfold gm_rt; dsimp only; rw [if_pos ⟨rfl, (gs_nb hx).1⟩])
/-! GraphReaderModel.firstSlot(I)I -/
theorem m20 : gm_mt[20]? = some (⟨"GraphReaderModel", "firstSlot", "(I)I"⟩, prog_7_method_19_code, 4, (some .int), [], 5, 2) := rfl
theorem f20_0 : gm_ft 20 0 = some (.iconst 0, 1) := by decide +kernel
theorem r20_0 {E : Nat → Value} {d : Nat} {st : List Value} {h : gm_H} {Q : gm_R → gm_H → Prop} {lv : List Value} : gm_W E d 20 0 lv st h Q ↔ gm_W E d 20 1 lv (.int (0 : Int32) :: st) h Q := gw_pure m20 f20_0 rfl
theorem f20_1 : gm_ft 20 1 = some (.istore_n 2, 1) := by decide +kernel
theorem r20_1 {E : Nat → Value} {d : Nat} {st : List Value} {h : gm_H} {Q : gm_R → gm_H → Prop} {a0 a1 a2 a3 : Value} {x : Int32} : gm_W E d 20 1 [a0, a1, a2, a3] (.int x :: st) h Q ↔ gm_W E d 20 2 [a0, gm_k a1, .int x, a3] st h Q := gw_loc m20 f20_1 rfl rfl
theorem f20_2 : gm_ft 20 2 = some (.aload_n 0, 1) := by decide +kernel
theorem r20_2 {E : Nat → Value} {d : Nat} {st : List Value} {h : gm_H} {Q : gm_R → gm_H → Prop} {a1 a2 a3 : Value} {x : Nat} : gm_W E d 20 2 [.ref x, a1, a2, a3] st h Q ↔ gm_W E d 20 3 [.ref x, a1, a2, a3] (.ref x :: st) h Q := gw_loc m20 f20_2 rfl rfl
theorem r20_2n {E : Nat → Value} {d : Nat} {st : List Value} {h : gm_H} {Q : gm_R → gm_H → Prop} {a1 a2 a3 : Value}  : gm_W E d 20 2 [.null, a1, a2, a3] st h Q ↔ gm_W E d 20 3 [.null, a1, a2, a3] (.null :: st) h Q := gw_loc m20 f20_2 rfl rfl
theorem f20_3 : gm_ft 20 3 = some (.getfield 20, 3) := by decide +kernel
theorem r20_3 {E : Nat → Value} {d : Nat} {st : List Value} {h : gm_H} {Q : gm_R → gm_H → Prop} {lv : List Value} {a : Nat} (hk : gm_kd h a = 5) : gm_W E d 20 3 lv (.ref a :: st) h Q ↔ gm_W E d 20 6 lv (gm_fv h a 12 :: st) h Q := gw_rd m20 f20_3 rfl rfl rfl rfl (gs_get k5_20 hk (by decide))
theorem f20_6 : gm_ft 20 6 = some (.iload_n 1, 1) := by decide +kernel
theorem r20_6 {E : Nat → Value} {d : Nat} {st : List Value} {h : gm_H} {Q : gm_R → gm_H → Prop} {a0 a2 a3 : Value} {x : Int32} : gm_W E d 20 6 [a0, .int x, a2, a3] st h Q ↔ gm_W E d 20 7 [a0, .int x, a2, a3] (.int x :: st) h Q := gw_loc m20 f20_6 rfl rfl
theorem f20_7 : gm_ft 20 7 = some (.iaload, 1) := by decide +kernel
theorem r20_7 {E : Nat → Value} {d : Nat} {st : List Value} {h : gm_H} {Q : gm_R → gm_H → Prop} {lv : List Value} {a j : Nat} (hk : gm_kd h a % 100 = 0 ∧ 100 ≤ gm_kd h a ∧ gm_kd h a < 900) (hj : j < gm_ln h a) (hl : gm_ln h a < 2 ^ 31) : gm_W E d 20 7 lv (.int (nI j) :: .ref a :: st) h Q ↔ gm_W E d 20 8 lv (gm_fv h a j :: st) h Q := gw_rd m20 f20_7 rfl rfl rfl rfl (gs_ld (P := fun t => t == 0) hk.2 (by have := hk.1; simp [this] <;> omega) hj hl)
theorem f20_8 : gm_ft 20 8 = some (.istore_n 3, 1) := by decide +kernel
theorem r20_8 {E : Nat → Value} {d : Nat} {st : List Value} {h : gm_H} {Q : gm_R → gm_H → Prop} {a0 a1 a2 a3 : Value} {x : Int32} : gm_W E d 20 8 [a0, a1, a2, a3] (.int x :: st) h Q ↔ gm_W E d 20 9 [a0, a1, gm_k a2, .int x] st h Q := gw_loc m20 f20_8 rfl rfl
theorem f20_9 : gm_ft 20 9 = some (.iload_n 3, 1) := by decide +kernel
theorem r20_9 {E : Nat → Value} {d : Nat} {st : List Value} {h : gm_H} {Q : gm_R → gm_H → Prop} {a0 a1 a2 : Value} {x : Int32} : gm_W E d 20 9 [a0, a1, a2, .int x] st h Q ↔ gm_W E d 20 10 [a0, a1, a2, .int x] (.int x :: st) h Q := gw_loc m20 f20_9 rfl rfl
theorem f20_10 : gm_ft 20 10 = some (.ifCond .lt 22, 3) := by decide +kernel
theorem r20_10 {E : Nat → Value} {d : Nat} {st : List Value} {h : gm_H} {Q : gm_R → gm_H → Prop} {lv : List Value} {x : Int32} : gm_W E d 20 10 lv (.int x :: st) h Q ↔ (if x < 0 then gm_W E d 20 32 lv st h Q else gm_W E d 20 13 lv st h Q) := (gw_br m20 f20_10 rfl rfl rfl rfl).trans gw_if
theorem f20_13 : gm_ft 20 13 = some (.iload_n 2, 1) := by decide +kernel
theorem r20_13 {E : Nat → Value} {d : Nat} {st : List Value} {h : gm_H} {Q : gm_R → gm_H → Prop} {a0 a1 a3 : Value} {x : Int32} : gm_W E d 20 13 [a0, a1, .int x, a3] st h Q ↔ gm_W E d 20 14 [a0, a1, .int x, a3] (.int x :: st) h Q := gw_loc m20 f20_13 rfl rfl
theorem f20_14 : gm_ft 20 14 = some (.aload_n 0, 1) := by decide +kernel
theorem r20_14 {E : Nat → Value} {d : Nat} {st : List Value} {h : gm_H} {Q : gm_R → gm_H → Prop} {a1 a2 a3 : Value} {x : Nat} : gm_W E d 20 14 [.ref x, a1, a2, a3] st h Q ↔ gm_W E d 20 15 [.ref x, a1, a2, a3] (.ref x :: st) h Q := gw_loc m20 f20_14 rfl rfl
theorem r20_14n {E : Nat → Value} {d : Nat} {st : List Value} {h : gm_H} {Q : gm_R → gm_H → Prop} {a1 a2 a3 : Value}  : gm_W E d 20 14 [.null, a1, a2, a3] st h Q ↔ gm_W E d 20 15 [.null, a1, a2, a3] (.null :: st) h Q := gw_loc m20 f20_14 rfl rfl
theorem f20_15 : gm_ft 20 15 = some (.getfield 23, 3) := by decide +kernel
theorem r20_15 {E : Nat → Value} {d : Nat} {st : List Value} {h : gm_H} {Q : gm_R → gm_H → Prop} {lv : List Value} {a : Nat} (hk : gm_kd h a = 5) : gm_W E d 20 15 lv (.ref a :: st) h Q ↔ gm_W E d 20 18 lv (gm_fv h a 13 :: st) h Q := gw_rd m20 f20_15 rfl rfl rfl rfl (gs_get k5_23 hk (by decide))
theorem f20_18 : gm_ft 20 18 = some (.iload_n 3, 1) := by decide +kernel
theorem r20_18 {E : Nat → Value} {d : Nat} {st : List Value} {h : gm_H} {Q : gm_R → gm_H → Prop} {a0 a1 a2 : Value} {x : Int32} : gm_W E d 20 18 [a0, a1, a2, .int x] st h Q ↔ gm_W E d 20 19 [a0, a1, a2, .int x] (.int x :: st) h Q := gw_loc m20 f20_18 rfl rfl
theorem f20_19 : gm_ft 20 19 = some (.iaload, 1) := by decide +kernel
theorem r20_19 {E : Nat → Value} {d : Nat} {st : List Value} {h : gm_H} {Q : gm_R → gm_H → Prop} {lv : List Value} {a j : Nat} (hk : gm_kd h a % 100 = 0 ∧ 100 ≤ gm_kd h a ∧ gm_kd h a < 900) (hj : j < gm_ln h a) (hl : gm_ln h a < 2 ^ 31) : gm_W E d 20 19 lv (.int (nI j) :: .ref a :: st) h Q ↔ gm_W E d 20 20 lv (gm_fv h a j :: st) h Q := gw_rd m20 f20_19 rfl rfl rfl rfl (gs_ld (P := fun t => t == 0) hk.2 (by have := hk.1; simp [this] <;> omega) hj hl)
theorem f20_20 : gm_ft 20 20 = some (.iadd, 1) := by decide +kernel
theorem r20_20 {E : Nat → Value} {d : Nat} {st : List Value} {h : gm_H} {Q : gm_R → gm_H → Prop} {lv : List Value} {x y : Int32} : gm_W E d 20 20 lv (.int y :: .int x :: st) h Q ↔ gm_W E d 20 21 lv (.int (x + y) :: st) h Q := gw_pure m20 f20_20 rfl
theorem f20_21 : gm_ft 20 21 = some (.istore_n 2, 1) := by decide +kernel
theorem r20_21 {E : Nat → Value} {d : Nat} {st : List Value} {h : gm_H} {Q : gm_R → gm_H → Prop} {a0 a1 a2 a3 : Value} {x : Int32} : gm_W E d 20 21 [a0, a1, a2, a3] (.int x :: st) h Q ↔ gm_W E d 20 22 [a0, gm_k a1, .int x, a3] st h Q := gw_loc m20 f20_21 rfl rfl
theorem f20_22 : gm_ft 20 22 = some (.aload_n 0, 1) := by decide +kernel
theorem r20_22 {E : Nat → Value} {d : Nat} {st : List Value} {h : gm_H} {Q : gm_R → gm_H → Prop} {a1 a2 a3 : Value} {x : Nat} : gm_W E d 20 22 [.ref x, a1, a2, a3] st h Q ↔ gm_W E d 20 23 [.ref x, a1, a2, a3] (.ref x :: st) h Q := gw_loc m20 f20_22 rfl rfl
theorem r20_22n {E : Nat → Value} {d : Nat} {st : List Value} {h : gm_H} {Q : gm_R → gm_H → Prop} {a1 a2 a3 : Value}  : gm_W E d 20 22 [.null, a1, a2, a3] st h Q ↔ gm_W E d 20 23 [.null, a1, a2, a3] (.null :: st) h Q := gw_loc m20 f20_22 rfl rfl
theorem f20_23 : gm_ft 20 23 = some (.getfield 20, 3) := by decide +kernel
theorem r20_23 {E : Nat → Value} {d : Nat} {st : List Value} {h : gm_H} {Q : gm_R → gm_H → Prop} {lv : List Value} {a : Nat} (hk : gm_kd h a = 5) : gm_W E d 20 23 lv (.ref a :: st) h Q ↔ gm_W E d 20 26 lv (gm_fv h a 12 :: st) h Q := gw_rd m20 f20_23 rfl rfl rfl rfl (gs_get k5_20 hk (by decide))
theorem f20_26 : gm_ft 20 26 = some (.iload_n 3, 1) := by decide +kernel
theorem r20_26 {E : Nat → Value} {d : Nat} {st : List Value} {h : gm_H} {Q : gm_R → gm_H → Prop} {a0 a1 a2 : Value} {x : Int32} : gm_W E d 20 26 [a0, a1, a2, .int x] st h Q ↔ gm_W E d 20 27 [a0, a1, a2, .int x] (.int x :: st) h Q := gw_loc m20 f20_26 rfl rfl
theorem f20_27 : gm_ft 20 27 = some (.iaload, 1) := by decide +kernel
theorem r20_27 {E : Nat → Value} {d : Nat} {st : List Value} {h : gm_H} {Q : gm_R → gm_H → Prop} {lv : List Value} {a j : Nat} (hk : gm_kd h a % 100 = 0 ∧ 100 ≤ gm_kd h a ∧ gm_kd h a < 900) (hj : j < gm_ln h a) (hl : gm_ln h a < 2 ^ 31) : gm_W E d 20 27 lv (.int (nI j) :: .ref a :: st) h Q ↔ gm_W E d 20 28 lv (gm_fv h a j :: st) h Q := gw_rd m20 f20_27 rfl rfl rfl rfl (gs_ld (P := fun t => t == 0) hk.2 (by have := hk.1; simp [this] <;> omega) hj hl)
theorem f20_28 : gm_ft 20 28 = some (.istore_n 3, 1) := by decide +kernel
theorem r20_28 {E : Nat → Value} {d : Nat} {st : List Value} {h : gm_H} {Q : gm_R → gm_H → Prop} {a0 a1 a2 a3 : Value} {x : Int32} : gm_W E d 20 28 [a0, a1, a2, a3] (.int x :: st) h Q ↔ gm_W E d 20 29 [a0, a1, gm_k a2, .int x] st h Q := gw_loc m20 f20_28 rfl rfl
theorem f20_29 : gm_ft 20 29 = some (.goto (-20), 3) := by decide +kernel
theorem r20_29 {E : Nat → Value} {d : Nat} {st : List Value} {h : gm_H} {Q : gm_R → gm_H → Prop} {lv : List Value} : gm_W E d 20 29 lv st h Q ↔ gm_W E d 20 9 lv st h Q := gw_brT m20 f20_29 rfl rfl rfl rfl
theorem f20_32 : gm_ft 20 32 = some (.iload_n 2, 1) := by decide +kernel
theorem r20_32 {E : Nat → Value} {d : Nat} {st : List Value} {h : gm_H} {Q : gm_R → gm_H → Prop} {a0 a1 a3 : Value} {x : Int32} : gm_W E d 20 32 [a0, a1, .int x, a3] st h Q ↔ gm_W E d 20 33 [a0, a1, .int x, a3] (.int x :: st) h Q := gw_loc m20 f20_32 rfl rfl
theorem f20_33 : gm_ft 20 33 = some (.ireturn, 1) := by decide +kernel
theorem r20_33 {E : Nat → Value} {d : Nat} {h : gm_H} {Q : gm_R → gm_H → Prop} {lv : List Value} {x : Int32} : gm_W E d 20 33 lv [.int x] h Q ↔ Q (.inl (some (.int x))) h := gw_ret m20 f20_33 rfl rfl rfl rfl rfl rfl rfl rfl (by unfold gm_rt; dsimp only; rw [if_pos ⟨rfl, rfl⟩])
/-! GraphReaderModel.inChain(II)Z -/
theorem m21 : gm_mt[21]? = some (⟨"GraphReaderModel", "inChain", "(II)Z"⟩, prog_7_method_20_code, 5, (some .boolean), [], 5, 2) := rfl
theorem f21_0 : gm_ft 21 0 = some (.iload_n 2, 1) := by decide +kernel
theorem r21_0 {E : Nat → Value} {d : Nat} {st : List Value} {h : gm_H} {Q : gm_R → gm_H → Prop} {a0 a1 a3 a4 : Value} {x : Int32} : gm_W E d 21 0 [a0, a1, .int x, a3, a4] st h Q ↔ gm_W E d 21 1 [a0, a1, .int x, a3, a4] (.int x :: st) h Q := gw_loc m21 f21_0 rfl rfl
theorem f21_1 : gm_ft 21 1 = some (.istore_n 3, 1) := by decide +kernel
theorem r21_1 {E : Nat → Value} {d : Nat} {st : List Value} {h : gm_H} {Q : gm_R → gm_H → Prop} {a0 a1 a2 a3 a4 : Value} {x : Int32} : gm_W E d 21 1 [a0, a1, a2, a3, a4] (.int x :: st) h Q ↔ gm_W E d 21 2 [a0, a1, gm_k a2, .int x, a4] st h Q := gw_loc m21 f21_1 rfl rfl
theorem f21_2 : gm_ft 21 2 = some (.iconst 0, 1) := by decide +kernel
theorem r21_2 {E : Nat → Value} {d : Nat} {st : List Value} {h : gm_H} {Q : gm_R → gm_H → Prop} {lv : List Value} : gm_W E d 21 2 lv st h Q ↔ gm_W E d 21 3 lv (.int (0 : Int32) :: st) h Q := gw_pure m21 f21_2 rfl
theorem f21_3 : gm_ft 21 3 = some (.istore 4, 2) := by decide +kernel
theorem r21_3 {E : Nat → Value} {d : Nat} {st : List Value} {h : gm_H} {Q : gm_R → gm_H → Prop} {a0 a1 a2 a3 a4 : Value} {x : Int32} : gm_W E d 21 3 [a0, a1, a2, a3, a4] (.int x :: st) h Q ↔ gm_W E d 21 5 [a0, a1, a2, gm_k a3, .int x] st h Q := gw_loc m21 f21_3 rfl rfl
theorem f21_5 : gm_ft 21 5 = some (.iload 4, 2) := by decide +kernel
theorem r21_5 {E : Nat → Value} {d : Nat} {st : List Value} {h : gm_H} {Q : gm_R → gm_H → Prop} {a0 a1 a2 a3 : Value} {x : Int32} : gm_W E d 21 5 [a0, a1, a2, a3, .int x] st h Q ↔ gm_W E d 21 7 [a0, a1, a2, a3, .int x] (.int x :: st) h Q := gw_loc m21 f21_5 rfl rfl
theorem f21_7 : gm_ft 21 7 = some (.bipush 6, 2) := by decide +kernel
theorem r21_7 {E : Nat → Value} {d : Nat} {st : List Value} {h : gm_H} {Q : gm_R → gm_H → Prop} {lv : List Value} : gm_W E d 21 7 lv st h Q ↔ gm_W E d 21 9 lv (.int (6 : Int32) :: st) h Q := gw_pure m21 f21_7 rfl
theorem f21_9 : gm_ft 21 9 = some (.if_icmp .ge 25, 3) := by decide +kernel
theorem r21_9 {E : Nat → Value} {d : Nat} {st : List Value} {h : gm_H} {Q : gm_R → gm_H → Prop} {lv : List Value} {x y : Int32} : gm_W E d 21 9 lv (.int y :: .int x :: st) h Q ↔ (if y ≤ x then gm_W E d 21 34 lv st h Q else gm_W E d 21 12 lv st h Q) := (gw_br m21 f21_9 rfl rfl rfl rfl).trans gw_if
theorem f21_12 : gm_ft 21 12 = some (.iload_n 3, 1) := by decide +kernel
theorem r21_12 {E : Nat → Value} {d : Nat} {st : List Value} {h : gm_H} {Q : gm_R → gm_H → Prop} {a0 a1 a2 a4 : Value} {x : Int32} : gm_W E d 21 12 [a0, a1, a2, .int x, a4] st h Q ↔ gm_W E d 21 13 [a0, a1, a2, .int x, a4] (.int x :: st) h Q := gw_loc m21 f21_12 rfl rfl
theorem f21_13 : gm_ft 21 13 = some (.ifCond .lt 21, 3) := by decide +kernel
theorem r21_13 {E : Nat → Value} {d : Nat} {st : List Value} {h : gm_H} {Q : gm_R → gm_H → Prop} {lv : List Value} {x : Int32} : gm_W E d 21 13 lv (.int x :: st) h Q ↔ (if x < 0 then gm_W E d 21 34 lv st h Q else gm_W E d 21 16 lv st h Q) := (gw_br m21 f21_13 rfl rfl rfl rfl).trans gw_if
theorem f21_16 : gm_ft 21 16 = some (.iload_n 3, 1) := by decide +kernel
theorem r21_16 {E : Nat → Value} {d : Nat} {st : List Value} {h : gm_H} {Q : gm_R → gm_H → Prop} {a0 a1 a2 a4 : Value} {x : Int32} : gm_W E d 21 16 [a0, a1, a2, .int x, a4] st h Q ↔ gm_W E d 21 17 [a0, a1, a2, .int x, a4] (.int x :: st) h Q := gw_loc m21 f21_16 rfl rfl
theorem f21_17 : gm_ft 21 17 = some (.iload_n 1, 1) := by decide +kernel
theorem r21_17 {E : Nat → Value} {d : Nat} {st : List Value} {h : gm_H} {Q : gm_R → gm_H → Prop} {a0 a2 a3 a4 : Value} {x : Int32} : gm_W E d 21 17 [a0, .int x, a2, a3, a4] st h Q ↔ gm_W E d 21 18 [a0, .int x, a2, a3, a4] (.int x :: st) h Q := gw_loc m21 f21_17 rfl rfl
theorem f21_18 : gm_ft 21 18 = some (.if_icmp .eq 16, 3) := by decide +kernel
theorem r21_18 {E : Nat → Value} {d : Nat} {st : List Value} {h : gm_H} {Q : gm_R → gm_H → Prop} {lv : List Value} {x y : Int32} : gm_W E d 21 18 lv (.int y :: .int x :: st) h Q ↔ (if x = y then gm_W E d 21 34 lv st h Q else gm_W E d 21 21 lv st h Q) := (gw_br m21 f21_18 rfl rfl rfl rfl).trans gw_if
theorem f21_21 : gm_ft 21 21 = some (.aload_n 0, 1) := by decide +kernel
theorem r21_21 {E : Nat → Value} {d : Nat} {st : List Value} {h : gm_H} {Q : gm_R → gm_H → Prop} {a1 a2 a3 a4 : Value} {x : Nat} : gm_W E d 21 21 [.ref x, a1, a2, a3, a4] st h Q ↔ gm_W E d 21 22 [.ref x, a1, a2, a3, a4] (.ref x :: st) h Q := gw_loc m21 f21_21 rfl rfl
theorem r21_21n {E : Nat → Value} {d : Nat} {st : List Value} {h : gm_H} {Q : gm_R → gm_H → Prop} {a1 a2 a3 a4 : Value}  : gm_W E d 21 21 [.null, a1, a2, a3, a4] st h Q ↔ gm_W E d 21 22 [.null, a1, a2, a3, a4] (.null :: st) h Q := gw_loc m21 f21_21 rfl rfl
theorem f21_22 : gm_ft 21 22 = some (.getfield 20, 3) := by decide +kernel
theorem r21_22 {E : Nat → Value} {d : Nat} {st : List Value} {h : gm_H} {Q : gm_R → gm_H → Prop} {lv : List Value} {a : Nat} (hk : gm_kd h a = 5) : gm_W E d 21 22 lv (.ref a :: st) h Q ↔ gm_W E d 21 25 lv (gm_fv h a 12 :: st) h Q := gw_rd m21 f21_22 rfl rfl rfl rfl (gs_get k5_20 hk (by decide))
theorem f21_25 : gm_ft 21 25 = some (.iload_n 3, 1) := by decide +kernel
theorem r21_25 {E : Nat → Value} {d : Nat} {st : List Value} {h : gm_H} {Q : gm_R → gm_H → Prop} {a0 a1 a2 a4 : Value} {x : Int32} : gm_W E d 21 25 [a0, a1, a2, .int x, a4] st h Q ↔ gm_W E d 21 26 [a0, a1, a2, .int x, a4] (.int x :: st) h Q := gw_loc m21 f21_25 rfl rfl
theorem f21_26 : gm_ft 21 26 = some (.iaload, 1) := by decide +kernel
theorem r21_26 {E : Nat → Value} {d : Nat} {st : List Value} {h : gm_H} {Q : gm_R → gm_H → Prop} {lv : List Value} {a j : Nat} (hk : gm_kd h a % 100 = 0 ∧ 100 ≤ gm_kd h a ∧ gm_kd h a < 900) (hj : j < gm_ln h a) (hl : gm_ln h a < 2 ^ 31) : gm_W E d 21 26 lv (.int (nI j) :: .ref a :: st) h Q ↔ gm_W E d 21 27 lv (gm_fv h a j :: st) h Q := gw_rd m21 f21_26 rfl rfl rfl rfl (gs_ld (P := fun t => t == 0) hk.2 (by have := hk.1; simp [this] <;> omega) hj hl)
theorem f21_27 : gm_ft 21 27 = some (.istore_n 3, 1) := by decide +kernel
theorem r21_27 {E : Nat → Value} {d : Nat} {st : List Value} {h : gm_H} {Q : gm_R → gm_H → Prop} {a0 a1 a2 a3 a4 : Value} {x : Int32} : gm_W E d 21 27 [a0, a1, a2, a3, a4] (.int x :: st) h Q ↔ gm_W E d 21 28 [a0, a1, gm_k a2, .int x, a4] st h Q := gw_loc m21 f21_27 rfl rfl
theorem f21_28 : gm_ft 21 28 = some (.iinc 4 1, 3) := by decide +kernel
theorem r21_28 {E : Nat → Value} {d : Nat} {st : List Value} {h : gm_H} {Q : gm_R → gm_H → Prop} {a0 a1 a2 a3 : Value} {x : Int32} : gm_W E d 21 28 [a0, a1, a2, a3, .int x] st h Q ↔ gm_W E d 21 31 [a0, a1, a2, gm_k a3, .int (x + (1 : Int32))] st h Q := gw_loc m21 f21_28 rfl rfl
theorem f21_31 : gm_ft 21 31 = some (.goto (-26), 3) := by decide +kernel
theorem r21_31 {E : Nat → Value} {d : Nat} {st : List Value} {h : gm_H} {Q : gm_R → gm_H → Prop} {lv : List Value} : gm_W E d 21 31 lv st h Q ↔ gm_W E d 21 5 lv st h Q := gw_brT m21 f21_31 rfl rfl rfl rfl
theorem f21_34 : gm_ft 21 34 = some (.iload_n 3, 1) := by decide +kernel
theorem r21_34 {E : Nat → Value} {d : Nat} {st : List Value} {h : gm_H} {Q : gm_R → gm_H → Prop} {a0 a1 a2 a4 : Value} {x : Int32} : gm_W E d 21 34 [a0, a1, a2, .int x, a4] st h Q ↔ gm_W E d 21 35 [a0, a1, a2, .int x, a4] (.int x :: st) h Q := gw_loc m21 f21_34 rfl rfl
theorem f21_35 : gm_ft 21 35 = some (.iload_n 1, 1) := by decide +kernel
theorem r21_35 {E : Nat → Value} {d : Nat} {st : List Value} {h : gm_H} {Q : gm_R → gm_H → Prop} {a0 a2 a3 a4 : Value} {x : Int32} : gm_W E d 21 35 [a0, .int x, a2, a3, a4] st h Q ↔ gm_W E d 21 36 [a0, .int x, a2, a3, a4] (.int x :: st) h Q := gw_loc m21 f21_35 rfl rfl
theorem f21_36 : gm_ft 21 36 = some (.if_icmp .ne 7, 3) := by decide +kernel
theorem r21_36 {E : Nat → Value} {d : Nat} {st : List Value} {h : gm_H} {Q : gm_R → gm_H → Prop} {lv : List Value} {x y : Int32} : gm_W E d 21 36 lv (.int y :: .int x :: st) h Q ↔ (if x = y then gm_W E d 21 39 lv st h Q else gm_W E d 21 43 lv st h Q) := (gw_br m21 f21_36 rfl rfl rfl rfl).trans gw_ifn
theorem f21_39 : gm_ft 21 39 = some (.iconst 1, 1) := by decide +kernel
theorem r21_39 {E : Nat → Value} {d : Nat} {st : List Value} {h : gm_H} {Q : gm_R → gm_H → Prop} {lv : List Value} : gm_W E d 21 39 lv st h Q ↔ gm_W E d 21 40 lv (.int (1 : Int32) :: st) h Q := gw_pure m21 f21_39 rfl
theorem f21_40 : gm_ft 21 40 = some (.goto 4, 3) := by decide +kernel
theorem r21_40 {E : Nat → Value} {d : Nat} {st : List Value} {h : gm_H} {Q : gm_R → gm_H → Prop} {lv : List Value} : gm_W E d 21 40 lv st h Q ↔ gm_W E d 21 44 lv st h Q := gw_brT m21 f21_40 rfl rfl rfl rfl
theorem f21_43 : gm_ft 21 43 = some (.iconst 0, 1) := by decide +kernel
theorem r21_43 {E : Nat → Value} {d : Nat} {st : List Value} {h : gm_H} {Q : gm_R → gm_H → Prop} {lv : List Value} : gm_W E d 21 43 lv st h Q ↔ gm_W E d 21 44 lv (.int (0 : Int32) :: st) h Q := gw_pure m21 f21_43 rfl
theorem f21_44 : gm_ft 21 44 = some (.ireturn, 1) := by decide +kernel
theorem r21_44 {E : Nat → Value} {d : Nat} {h : gm_H} {Q : gm_R → gm_H → Prop} {lv : List Value} {x : Int32} (hx : x = 0 ∨ x = 1) : gm_W E d 21 44 lv [.int x] h Q ↔ Q (.inl (some (.int x))) h := gw_ret m21 f21_44 rfl rfl rfl rfl rfl rfl rfl rfl (by unfold gm_rt; dsimp only; rw [if_pos ⟨rfl, (gs_nb hx).1⟩])
/-! GraphReaderModel.reference(IZ)V -/
theorem m22 : gm_mt[22]? = some (⟨"GraphReaderModel", "reference", "(IZ)V"⟩, prog_7_method_21_code, 5, none, [], 5, 2) := rfl
theorem f22_0 : gm_ft 22 0 = some (.aload_n 0, 1) := by decide +kernel
theorem r22_0 {E : Nat → Value} {d : Nat} {st : List Value} {h : gm_H} {Q : gm_R → gm_H → Prop} {a1 a2 a3 a4 : Value} {x : Nat} : gm_W E d 22 0 [.ref x, a1, a2, a3, a4] st h Q ↔ gm_W E d 22 1 [.ref x, a1, a2, a3, a4] (.ref x :: st) h Q := gw_loc m22 f22_0 rfl rfl
theorem r22_0n {E : Nat → Value} {d : Nat} {st : List Value} {h : gm_H} {Q : gm_R → gm_H → Prop} {a1 a2 a3 a4 : Value}  : gm_W E d 22 0 [.null, a1, a2, a3, a4] st h Q ↔ gm_W E d 22 1 [.null, a1, a2, a3, a4] (.null :: st) h Q := gw_loc m22 f22_0 rfl rfl
theorem f22_1 : gm_ft 22 1 = some (.iconst 4, 1) := by decide +kernel
theorem r22_1 {E : Nat → Value} {d : Nat} {st : List Value} {h : gm_H} {Q : gm_R → gm_H → Prop} {lv : List Value} : gm_W E d 22 1 lv st h Q ↔ gm_W E d 22 2 lv (.int (4 : Int32) :: st) h Q := gw_pure m22 f22_1 rfl
theorem f22_2 : gm_ft 22 2 = some (.invokevirtual 159, 3) := by decide +kernel
theorem c22_2 {E : Nat → Value} {d : Nat} {st : List Value} {h : gm_H} {Q : gm_R → gm_H → Prop} {lv : List Value} {b0 : Int32} {a : Nat} {Qc : gm_R → gm_H → Prop} (hs : (st.map fun v => v.category).sum ≤ 8) (hr : gm_kd h a = 5) (hd : 1 ≤ d) (hc : gm_Ca E (d - 1) 12 [.ref a, .int b0] h Qc) (kn : ∀ (v9 : Option Value) (h9 : gm_H), Qc (.inl v9) h9 → gm_W E d 22 5 lv (v9.toList ++ st) h9 Q) (kx : ∀ (x9 : Nat) (h9 : gm_H), Qc (.inr x9) h9 → Q (.inr x9) h9) : gm_W E d 22 2 lv (.int b0 :: .ref a :: st) h Q := gw_call (gn_call m22 f22_2 rfl rfl rfl rfl rfl rfl rfl (gs_virt (bs := [.int b0]) (w := 880) (L := 5) rfl rfl rfl rfl hs (by simp [gm_en1]) hr (by decide)) (by decide)) m22 rfl rfl hd hc kn kx
theorem f22_5 : gm_ft 22 5 = some (.l2i, 1) := by decide +kernel
theorem r22_5 {E : Nat → Value} {d : Nat} {st : List Value} {h : gm_H} {Q : gm_R → gm_H → Prop} {lv : List Value} {x : Int64} : gm_W E d 22 5 lv (.long x :: st) h Q ↔ gm_W E d 22 6 lv (.int (x.toInt32) :: st) h Q := gw_pure m22 f22_5 rfl
theorem f22_6 : gm_ft 22 6 = some (.ldc 181, 2) := by decide +kernel
theorem r22_6 {E : Nat → Value} {d : Nat} {st : List Value} {h : gm_H} {Q : gm_R → gm_H → Prop} {lv : List Value} : gm_W E d 22 6 lv st h Q ↔ gm_W E d 22 8 lv (.int (8257536 : Int32) :: st) h Q := gw_rd m22 f22_6 rfl rfl rfl rfl rfl
theorem f22_8 : gm_ft 22 8 = some (.isub, 1) := by decide +kernel
theorem r22_8 {E : Nat → Value} {d : Nat} {st : List Value} {h : gm_H} {Q : gm_R → gm_H → Prop} {lv : List Value} {x y : Int32} : gm_W E d 22 8 lv (.int y :: .int x :: st) h Q ↔ gm_W E d 22 9 lv (.int (x - y) :: st) h Q := gw_pure m22 f22_8 rfl
theorem f22_9 : gm_ft 22 9 = some (.istore_n 3, 1) := by decide +kernel
theorem r22_9 {E : Nat → Value} {d : Nat} {st : List Value} {h : gm_H} {Q : gm_R → gm_H → Prop} {a0 a1 a2 a3 a4 : Value} {x : Int32} : gm_W E d 22 9 [a0, a1, a2, a3, a4] (.int x :: st) h Q ↔ gm_W E d 22 10 [a0, a1, gm_k a2, .int x, a4] st h Q := gw_loc m22 f22_9 rfl rfl
theorem f22_10 : gm_ft 22 10 = some (.aload_n 0, 1) := by decide +kernel
theorem r22_10 {E : Nat → Value} {d : Nat} {st : List Value} {h : gm_H} {Q : gm_R → gm_H → Prop} {a1 a2 a3 a4 : Value} {x : Nat} : gm_W E d 22 10 [.ref x, a1, a2, a3, a4] st h Q ↔ gm_W E d 22 11 [.ref x, a1, a2, a3, a4] (.ref x :: st) h Q := gw_loc m22 f22_10 rfl rfl
theorem r22_10n {E : Nat → Value} {d : Nat} {st : List Value} {h : gm_H} {Q : gm_R → gm_H → Prop} {a1 a2 a3 a4 : Value}  : gm_W E d 22 10 [.null, a1, a2, a3, a4] st h Q ↔ gm_W E d 22 11 [.null, a1, a2, a3, a4] (.null :: st) h Q := gw_loc m22 f22_10 rfl rfl
theorem f22_11 : gm_ft 22 11 = some (.getfield 145, 3) := by decide +kernel
theorem r22_11 {E : Nat → Value} {d : Nat} {st : List Value} {h : gm_H} {Q : gm_R → gm_H → Prop} {lv : List Value} {a : Nat} (hk : gm_kd h a = 5) : gm_W E d 22 11 lv (.ref a :: st) h Q ↔ gm_W E d 22 14 lv (gm_fv h a 8 :: st) h Q := gw_rd m22 f22_11 rfl rfl rfl rfl (gs_get k5_145 hk (by decide))
theorem f22_14 : gm_ft 22 14 = some (.ifCond .eq 4, 3) := by decide +kernel
theorem r22_14 {E : Nat → Value} {d : Nat} {st : List Value} {h : gm_H} {Q : gm_R → gm_H → Prop} {lv : List Value} {x : Int32} : gm_W E d 22 14 lv (.int x :: st) h Q ↔ (if x = 0 then gm_W E d 22 18 lv st h Q else gm_W E d 22 17 lv st h Q) := (gw_br m22 f22_14 rfl rfl rfl rfl).trans gw_if
theorem f22_17 : gm_ft 22 17 = some (.return_, 1) := by decide +kernel
theorem r22_17 {E : Nat → Value} {d : Nat} {h : gm_H} {Q : gm_R → gm_H → Prop} {lv : List Value} : gm_W E d 22 17 lv [] h Q ↔ Q (.inl none) h := gw_ret m22 f22_17 rfl rfl rfl rfl rfl rfl rfl rfl rfl
theorem f22_18 : gm_ft 22 18 = some (.aload_n 0, 1) := by decide +kernel
theorem r22_18 {E : Nat → Value} {d : Nat} {st : List Value} {h : gm_H} {Q : gm_R → gm_H → Prop} {a1 a2 a3 a4 : Value} {x : Nat} : gm_W E d 22 18 [.ref x, a1, a2, a3, a4] st h Q ↔ gm_W E d 22 19 [.ref x, a1, a2, a3, a4] (.ref x :: st) h Q := gw_loc m22 f22_18 rfl rfl
theorem r22_18n {E : Nat → Value} {d : Nat} {st : List Value} {h : gm_H} {Q : gm_R → gm_H → Prop} {a1 a2 a3 a4 : Value}  : gm_W E d 22 18 [.null, a1, a2, a3, a4] st h Q ↔ gm_W E d 22 19 [.null, a1, a2, a3, a4] (.null :: st) h Q := gw_loc m22 f22_18 rfl rfl
theorem f22_19 : gm_ft 22 19 = some (.iload_n 3, 1) := by decide +kernel
theorem r22_19 {E : Nat → Value} {d : Nat} {st : List Value} {h : gm_H} {Q : gm_R → gm_H → Prop} {a0 a1 a2 a4 : Value} {x : Int32} : gm_W E d 22 19 [a0, a1, a2, .int x, a4] st h Q ↔ gm_W E d 22 20 [a0, a1, a2, .int x, a4] (.int x :: st) h Q := gw_loc m22 f22_19 rfl rfl
theorem f22_20 : gm_ft 22 20 = some (.aload_n 0, 1) := by decide +kernel
theorem r22_20 {E : Nat → Value} {d : Nat} {st : List Value} {h : gm_H} {Q : gm_R → gm_H → Prop} {a1 a2 a3 a4 : Value} {x : Nat} : gm_W E d 22 20 [.ref x, a1, a2, a3, a4] st h Q ↔ gm_W E d 22 21 [.ref x, a1, a2, a3, a4] (.ref x :: st) h Q := gw_loc m22 f22_20 rfl rfl
theorem r22_20n {E : Nat → Value} {d : Nat} {st : List Value} {h : gm_H} {Q : gm_R → gm_H → Prop} {a1 a2 a3 a4 : Value}  : gm_W E d 22 20 [.null, a1, a2, a3, a4] st h Q ↔ gm_W E d 22 21 [.null, a1, a2, a3, a4] (.null :: st) h Q := gw_loc m22 f22_20 rfl rfl
theorem f22_21 : gm_ft 22 21 = some (.getfield 166, 3) := by decide +kernel
theorem r22_21 {E : Nat → Value} {d : Nat} {st : List Value} {h : gm_H} {Q : gm_R → gm_H → Prop} {lv : List Value} {a : Nat} (hk : gm_kd h a = 5) : gm_W E d 22 21 lv (.ref a :: st) h Q ↔ gm_W E d 22 24 lv (gm_fv h a 28 :: st) h Q := gw_rd m22 f22_21 rfl rfl rfl rfl (gs_get k5_166 hk (by decide))
theorem f22_24 : gm_ft 22 24 = some (.invokevirtual 131, 3) := by decide +kernel
theorem c22_24 {E : Nat → Value} {d : Nat} {st : List Value} {h : gm_H} {Q : gm_R → gm_H → Prop} {lv : List Value} {b0 : Int32} {b1 : Int32} {a : Nat} {Qc : gm_R → gm_H → Prop} (hs : (st.map fun v => v.category).sum ≤ 8) (hr : gm_kd h a = 5) (hd : 1 ≤ d) (hc : gm_Ca E (d - 1) 4 [.ref a, .int b0, .int b1] h Qc) (kn : ∀ (v9 : Option Value) (h9 : gm_H), Qc (.inl v9) h9 → gm_W E d 22 27 lv (v9.toList ++ st) h9 Q) (kx : ∀ (x9 : Nat) (h9 : gm_H), Qc (.inr x9) h9 → Q (.inr x9) h9) : gm_W E d 22 24 lv (.int b1 :: .int b0 :: .ref a :: st) h Q := gw_call (gn_call m22 f22_24 rfl rfl rfl rfl rfl rfl rfl (gs_virt (bs := [.int b1, .int b0]) (w := 820) (L := 3) rfl rfl rfl rfl hs (by simp [gm_en1]) hr (by decide)) (by decide)) m22 rfl rfl hd hc kn kx
theorem f22_27 : gm_ft 22 27 = some (.ifCond .ne 34, 3) := by decide +kernel
theorem r22_27 {E : Nat → Value} {d : Nat} {st : List Value} {h : gm_H} {Q : gm_R → gm_H → Prop} {lv : List Value} {x : Int32} : gm_W E d 22 27 lv (.int x :: st) h Q ↔ (if x = 0 then gm_W E d 22 30 lv st h Q else gm_W E d 22 61 lv st h Q) := (gw_br m22 f22_27 rfl rfl rfl rfl).trans gw_ifn
theorem f22_30 : gm_ft 22 30 = some (.iload_n 2, 1) := by decide +kernel
theorem r22_30 {E : Nat → Value} {d : Nat} {st : List Value} {h : gm_H} {Q : gm_R → gm_H → Prop} {a0 a1 a3 a4 : Value} {x : Int32} : gm_W E d 22 30 [a0, a1, .int x, a3, a4] st h Q ↔ gm_W E d 22 31 [a0, a1, .int x, a3, a4] (.int x :: st) h Q := gw_loc m22 f22_30 rfl rfl
theorem f22_31 : gm_ft 22 31 = some (.ifCond .eq 16, 3) := by decide +kernel
theorem r22_31 {E : Nat → Value} {d : Nat} {st : List Value} {h : gm_H} {Q : gm_R → gm_H → Prop} {lv : List Value} {x : Int32} : gm_W E d 22 31 lv (.int x :: st) h Q ↔ (if x = 0 then gm_W E d 22 47 lv st h Q else gm_W E d 22 34 lv st h Q) := (gw_br m22 f22_31 rfl rfl rfl rfl).trans gw_if
theorem f22_34 : gm_ft 22 34 = some (.aload_n 0, 1) := by decide +kernel
theorem r22_34 {E : Nat → Value} {d : Nat} {st : List Value} {h : gm_H} {Q : gm_R → gm_H → Prop} {a1 a2 a3 a4 : Value} {x : Nat} : gm_W E d 22 34 [.ref x, a1, a2, a3, a4] st h Q ↔ gm_W E d 22 35 [.ref x, a1, a2, a3, a4] (.ref x :: st) h Q := gw_loc m22 f22_34 rfl rfl
theorem r22_34n {E : Nat → Value} {d : Nat} {st : List Value} {h : gm_H} {Q : gm_R → gm_H → Prop} {a1 a2 a3 a4 : Value}  : gm_W E d 22 34 [.null, a1, a2, a3, a4] st h Q ↔ gm_W E d 22 35 [.null, a1, a2, a3, a4] (.null :: st) h Q := gw_loc m22 f22_34 rfl rfl
theorem f22_35 : gm_ft 22 35 = some (.getfield 57, 3) := by decide +kernel
theorem r22_35 {E : Nat → Value} {d : Nat} {st : List Value} {h : gm_H} {Q : gm_R → gm_H → Prop} {lv : List Value} {a : Nat} (hk : gm_kd h a = 5) : gm_W E d 22 35 lv (.ref a :: st) h Q ↔ gm_W E d 22 38 lv (gm_fv h a 26 :: st) h Q := gw_rd m22 f22_35 rfl rfl rfl rfl (gs_get k5_57 hk (by decide))
theorem f22_38 : gm_ft 22 38 = some (.iload_n 3, 1) := by decide +kernel
theorem r22_38 {E : Nat → Value} {d : Nat} {st : List Value} {h : gm_H} {Q : gm_R → gm_H → Prop} {a0 a1 a2 a4 : Value} {x : Int32} : gm_W E d 22 38 [a0, a1, a2, .int x, a4] st h Q ↔ gm_W E d 22 39 [a0, a1, a2, .int x, a4] (.int x :: st) h Q := gw_loc m22 f22_38 rfl rfl
theorem f22_39 : gm_ft 22 39 = some (.iaload, 1) := by decide +kernel
theorem r22_39 {E : Nat → Value} {d : Nat} {st : List Value} {h : gm_H} {Q : gm_R → gm_H → Prop} {lv : List Value} {a j : Nat} (hk : gm_kd h a % 100 = 0 ∧ 100 ≤ gm_kd h a ∧ gm_kd h a < 900) (hj : j < gm_ln h a) (hl : gm_ln h a < 2 ^ 31) : gm_W E d 22 39 lv (.int (nI j) :: .ref a :: st) h Q ↔ gm_W E d 22 40 lv (gm_fv h a j :: st) h Q := gw_rd m22 f22_39 rfl rfl rfl rfl (gs_ld (P := fun t => t == 0) hk.2 (by have := hk.1; simp [this] <;> omega) hj hl)
theorem f22_40 : gm_ft 22 40 = some (.iconst 1, 1) := by decide +kernel
theorem r22_40 {E : Nat → Value} {d : Nat} {st : List Value} {h : gm_H} {Q : gm_R → gm_H → Prop} {lv : List Value} : gm_W E d 22 40 lv st h Q ↔ gm_W E d 22 41 lv (.int (1 : Int32) :: st) h Q := gw_pure m22 f22_40 rfl
theorem f22_41 : gm_ft 22 41 = some (.if_icmp .ne 20, 3) := by decide +kernel
theorem r22_41 {E : Nat → Value} {d : Nat} {st : List Value} {h : gm_H} {Q : gm_R → gm_H → Prop} {lv : List Value} {x y : Int32} : gm_W E d 22 41 lv (.int y :: .int x :: st) h Q ↔ (if x = y then gm_W E d 22 44 lv st h Q else gm_W E d 22 61 lv st h Q) := (gw_br m22 f22_41 rfl rfl rfl rfl).trans gw_ifn
theorem f22_44 : gm_ft 22 44 = some (.goto 13, 3) := by decide +kernel
theorem r22_44 {E : Nat → Value} {d : Nat} {st : List Value} {h : gm_H} {Q : gm_R → gm_H → Prop} {lv : List Value} : gm_W E d 22 44 lv st h Q ↔ gm_W E d 22 57 lv st h Q := gw_brT m22 f22_44 rfl rfl rfl rfl
theorem f22_47 : gm_ft 22 47 = some (.aload_n 0, 1) := by decide +kernel
theorem r22_47 {E : Nat → Value} {d : Nat} {st : List Value} {h : gm_H} {Q : gm_R → gm_H → Prop} {a1 a2 a3 a4 : Value} {x : Nat} : gm_W E d 22 47 [.ref x, a1, a2, a3, a4] st h Q ↔ gm_W E d 22 48 [.ref x, a1, a2, a3, a4] (.ref x :: st) h Q := gw_loc m22 f22_47 rfl rfl
theorem r22_47n {E : Nat → Value} {d : Nat} {st : List Value} {h : gm_H} {Q : gm_R → gm_H → Prop} {a1 a2 a3 a4 : Value}  : gm_W E d 22 47 [.null, a1, a2, a3, a4] st h Q ↔ gm_W E d 22 48 [.null, a1, a2, a3, a4] (.null :: st) h Q := gw_loc m22 f22_47 rfl rfl
theorem f22_48 : gm_ft 22 48 = some (.getfield 57, 3) := by decide +kernel
theorem r22_48 {E : Nat → Value} {d : Nat} {st : List Value} {h : gm_H} {Q : gm_R → gm_H → Prop} {lv : List Value} {a : Nat} (hk : gm_kd h a = 5) : gm_W E d 22 48 lv (.ref a :: st) h Q ↔ gm_W E d 22 51 lv (gm_fv h a 26 :: st) h Q := gw_rd m22 f22_48 rfl rfl rfl rfl (gs_get k5_57 hk (by decide))
theorem f22_51 : gm_ft 22 51 = some (.iload_n 3, 1) := by decide +kernel
theorem r22_51 {E : Nat → Value} {d : Nat} {st : List Value} {h : gm_H} {Q : gm_R → gm_H → Prop} {a0 a1 a2 a4 : Value} {x : Int32} : gm_W E d 22 51 [a0, a1, a2, .int x, a4] st h Q ↔ gm_W E d 22 52 [a0, a1, a2, .int x, a4] (.int x :: st) h Q := gw_loc m22 f22_51 rfl rfl
theorem f22_52 : gm_ft 22 52 = some (.iaload, 1) := by decide +kernel
theorem r22_52 {E : Nat → Value} {d : Nat} {st : List Value} {h : gm_H} {Q : gm_R → gm_H → Prop} {lv : List Value} {a j : Nat} (hk : gm_kd h a % 100 = 0 ∧ 100 ≤ gm_kd h a ∧ gm_kd h a < 900) (hj : j < gm_ln h a) (hl : gm_ln h a < 2 ^ 31) : gm_W E d 22 52 lv (.int (nI j) :: .ref a :: st) h Q ↔ gm_W E d 22 53 lv (gm_fv h a j :: st) h Q := gw_rd m22 f22_52 rfl rfl rfl rfl (gs_ld (P := fun t => t == 0) hk.2 (by have := hk.1; simp [this] <;> omega) hj hl)
theorem f22_53 : gm_ft 22 53 = some (.iconst 1, 1) := by decide +kernel
theorem r22_53 {E : Nat → Value} {d : Nat} {st : List Value} {h : gm_H} {Q : gm_R → gm_H → Prop} {lv : List Value} : gm_W E d 22 53 lv st h Q ↔ gm_W E d 22 54 lv (.int (1 : Int32) :: st) h Q := gw_pure m22 f22_53 rfl
theorem f22_54 : gm_ft 22 54 = some (.if_icmp .le 7, 3) := by decide +kernel
theorem r22_54 {E : Nat → Value} {d : Nat} {st : List Value} {h : gm_H} {Q : gm_R → gm_H → Prop} {lv : List Value} {x y : Int32} : gm_W E d 22 54 lv (.int y :: .int x :: st) h Q ↔ (if x ≤ y then gm_W E d 22 61 lv st h Q else gm_W E d 22 57 lv st h Q) := (gw_br m22 f22_54 rfl rfl rfl rfl).trans gw_if
theorem f22_57 : gm_ft 22 57 = some (.iconst 1, 1) := by decide +kernel
theorem r22_57 {E : Nat → Value} {d : Nat} {st : List Value} {h : gm_H} {Q : gm_R → gm_H → Prop} {lv : List Value} : gm_W E d 22 57 lv st h Q ↔ gm_W E d 22 58 lv (.int (1 : Int32) :: st) h Q := gw_pure m22 f22_57 rfl
theorem f22_58 : gm_ft 22 58 = some (.goto 4, 3) := by decide +kernel
theorem r22_58 {E : Nat → Value} {d : Nat} {st : List Value} {h : gm_H} {Q : gm_R → gm_H → Prop} {lv : List Value} : gm_W E d 22 58 lv st h Q ↔ gm_W E d 22 62 lv st h Q := gw_brT m22 f22_58 rfl rfl rfl rfl
theorem f22_61 : gm_ft 22 61 = some (.iconst 0, 1) := by decide +kernel
theorem r22_61 {E : Nat → Value} {d : Nat} {st : List Value} {h : gm_H} {Q : gm_R → gm_H → Prop} {lv : List Value} : gm_W E d 22 61 lv st h Q ↔ gm_W E d 22 62 lv (.int (0 : Int32) :: st) h Q := gw_pure m22 f22_61 rfl
theorem f22_62 : gm_ft 22 62 = some (.istore 4, 2) := by decide +kernel
theorem r22_62 {E : Nat → Value} {d : Nat} {st : List Value} {h : gm_H} {Q : gm_R → gm_H → Prop} {a0 a1 a2 a3 a4 : Value} {x : Int32} : gm_W E d 22 62 [a0, a1, a2, a3, a4] (.int x :: st) h Q ↔ gm_W E d 22 64 [a0, a1, a2, gm_k a3, .int x] st h Q := gw_loc m22 f22_62 rfl rfl
theorem f22_64 : gm_ft 22 64 = some (.iload 4, 2) := by decide +kernel
theorem r22_64 {E : Nat → Value} {d : Nat} {st : List Value} {h : gm_H} {Q : gm_R → gm_H → Prop} {a0 a1 a2 a3 : Value} {x : Int32} : gm_W E d 22 64 [a0, a1, a2, a3, .int x] st h Q ↔ gm_W E d 22 66 [a0, a1, a2, a3, .int x] (.int x :: st) h Q := gw_loc m22 f22_64 rfl rfl
theorem f22_66 : gm_ft 22 66 = some (.ifCond .ne 12, 3) := by decide +kernel
theorem r22_66 {E : Nat → Value} {d : Nat} {st : List Value} {h : gm_H} {Q : gm_R → gm_H → Prop} {lv : List Value} {x : Int32} : gm_W E d 22 66 lv (.int x :: st) h Q ↔ (if x = 0 then gm_W E d 22 69 lv st h Q else gm_W E d 22 78 lv st h Q) := (gw_br m22 f22_66 rfl rfl rfl rfl).trans gw_ifn
theorem f22_69 : gm_ft 22 69 = some (.aload_n 0, 1) := by decide +kernel
theorem r22_69 {E : Nat → Value} {d : Nat} {st : List Value} {h : gm_H} {Q : gm_R → gm_H → Prop} {a1 a2 a3 a4 : Value} {x : Nat} : gm_W E d 22 69 [.ref x, a1, a2, a3, a4] st h Q ↔ gm_W E d 22 70 [.ref x, a1, a2, a3, a4] (.ref x :: st) h Q := gw_loc m22 f22_69 rfl rfl
theorem r22_69n {E : Nat → Value} {d : Nat} {st : List Value} {h : gm_H} {Q : gm_R → gm_H → Prop} {a1 a2 a3 a4 : Value}  : gm_W E d 22 69 [.null, a1, a2, a3, a4] st h Q ↔ gm_W E d 22 70 [.null, a1, a2, a3, a4] (.null :: st) h Q := gw_loc m22 f22_69 rfl rfl
theorem f22_70 : gm_ft 22 70 = some (.bipush (-4), 2) := by decide +kernel
theorem r22_70 {E : Nat → Value} {d : Nat} {st : List Value} {h : gm_H} {Q : gm_R → gm_H → Prop} {lv : List Value} : gm_W E d 22 70 lv st h Q ↔ gm_W E d 22 72 lv (.int (-4 : Int32) :: st) h Q := gw_pure m22 f22_70 rfl
theorem f22_72 : gm_ft 22 72 = some (.invokevirtual 151, 3) := by decide +kernel
theorem c22_72 {E : Nat → Value} {d : Nat} {st : List Value} {h : gm_H} {Q : gm_R → gm_H → Prop} {lv : List Value} {b0 : Int32} {a : Nat} {Qc : gm_R → gm_H → Prop} (hs : (st.map fun v => v.category).sum ≤ 8) (hr : gm_kd h a = 5) (hd : 1 ≤ d) (hc : gm_Ca E (d - 1) 10 [.ref a, .int b0] h Qc) (kn : ∀ (v9 : Option Value) (h9 : gm_H), Qc (.inl v9) h9 → gm_W E d 22 75 lv (v9.toList ++ st) h9 Q) (kx : ∀ (x9 : Nat) (h9 : gm_H), Qc (.inr x9) h9 → Q (.inr x9) h9) : gm_W E d 22 72 lv (.int b0 :: .ref a :: st) h Q := gw_call (gn_call m22 f22_72 rfl rfl rfl rfl rfl rfl rfl (gs_virt (bs := [.int b0]) (w := 844) (L := 2) rfl rfl rfl rfl hs (by simp [gm_en1]) hr (by decide)) (by decide)) m22 rfl rfl hd hc kn kx
theorem f22_75 : gm_ft 22 75 = some (.goto 28, 3) := by decide +kernel
theorem r22_75 {E : Nat → Value} {d : Nat} {st : List Value} {h : gm_H} {Q : gm_R → gm_H → Prop} {lv : List Value} : gm_W E d 22 75 lv st h Q ↔ gm_W E d 22 103 lv st h Q := gw_brT m22 f22_75 rfl rfl rfl rfl
theorem f22_78 : gm_ft 22 78 = some (.aload_n 0, 1) := by decide +kernel
theorem r22_78 {E : Nat → Value} {d : Nat} {st : List Value} {h : gm_H} {Q : gm_R → gm_H → Prop} {a1 a2 a3 a4 : Value} {x : Nat} : gm_W E d 22 78 [.ref x, a1, a2, a3, a4] st h Q ↔ gm_W E d 22 79 [.ref x, a1, a2, a3, a4] (.ref x :: st) h Q := gw_loc m22 f22_78 rfl rfl
theorem r22_78n {E : Nat → Value} {d : Nat} {st : List Value} {h : gm_H} {Q : gm_R → gm_H → Prop} {a1 a2 a3 a4 : Value}  : gm_W E d 22 78 [.null, a1, a2, a3, a4] st h Q ↔ gm_W E d 22 79 [.null, a1, a2, a3, a4] (.null :: st) h Q := gw_loc m22 f22_78 rfl rfl
theorem f22_79 : gm_ft 22 79 = some (.aload_n 0, 1) := by decide +kernel
theorem r22_79 {E : Nat → Value} {d : Nat} {st : List Value} {h : gm_H} {Q : gm_R → gm_H → Prop} {a1 a2 a3 a4 : Value} {x : Nat} : gm_W E d 22 79 [.ref x, a1, a2, a3, a4] st h Q ↔ gm_W E d 22 80 [.ref x, a1, a2, a3, a4] (.ref x :: st) h Q := gw_loc m22 f22_79 rfl rfl
theorem r22_79n {E : Nat → Value} {d : Nat} {st : List Value} {h : gm_H} {Q : gm_R → gm_H → Prop} {a1 a2 a3 a4 : Value}  : gm_W E d 22 79 [.null, a1, a2, a3, a4] st h Q ↔ gm_W E d 22 80 [.null, a1, a2, a3, a4] (.null :: st) h Q := gw_loc m22 f22_79 rfl rfl
theorem f22_80 : gm_ft 22 80 = some (.getfield 57, 3) := by decide +kernel
theorem r22_80 {E : Nat → Value} {d : Nat} {st : List Value} {h : gm_H} {Q : gm_R → gm_H → Prop} {lv : List Value} {a : Nat} (hk : gm_kd h a = 5) : gm_W E d 22 80 lv (.ref a :: st) h Q ↔ gm_W E d 22 83 lv (gm_fv h a 26 :: st) h Q := gw_rd m22 f22_80 rfl rfl rfl rfl (gs_get k5_57 hk (by decide))
theorem f22_83 : gm_ft 22 83 = some (.iload_n 3, 1) := by decide +kernel
theorem r22_83 {E : Nat → Value} {d : Nat} {st : List Value} {h : gm_H} {Q : gm_R → gm_H → Prop} {a0 a1 a2 a4 : Value} {x : Int32} : gm_W E d 22 83 [a0, a1, a2, .int x, a4] st h Q ↔ gm_W E d 22 84 [a0, a1, a2, .int x, a4] (.int x :: st) h Q := gw_loc m22 f22_83 rfl rfl
theorem f22_84 : gm_ft 22 84 = some (.iaload, 1) := by decide +kernel
theorem r22_84 {E : Nat → Value} {d : Nat} {st : List Value} {h : gm_H} {Q : gm_R → gm_H → Prop} {lv : List Value} {a j : Nat} (hk : gm_kd h a % 100 = 0 ∧ 100 ≤ gm_kd h a ∧ gm_kd h a < 900) (hj : j < gm_ln h a) (hl : gm_ln h a < 2 ^ 31) : gm_W E d 22 84 lv (.int (nI j) :: .ref a :: st) h Q ↔ gm_W E d 22 85 lv (gm_fv h a j :: st) h Q := gw_rd m22 f22_84 rfl rfl rfl rfl (gs_ld (P := fun t => t == 0) hk.2 (by have := hk.1; simp [this] <;> omega) hj hl)
theorem f22_85 : gm_ft 22 85 = some (.iconst 3, 1) := by decide +kernel
theorem r22_85 {E : Nat → Value} {d : Nat} {st : List Value} {h : gm_H} {Q : gm_R → gm_H → Prop} {lv : List Value} : gm_W E d 22 85 lv st h Q ↔ gm_W E d 22 86 lv (.int (3 : Int32) :: st) h Q := gw_pure m22 f22_85 rfl
theorem f22_86 : gm_ft 22 86 = some (.if_icmp .ne 8, 3) := by decide +kernel
theorem r22_86 {E : Nat → Value} {d : Nat} {st : List Value} {h : gm_H} {Q : gm_R → gm_H → Prop} {lv : List Value} {x y : Int32} : gm_W E d 22 86 lv (.int y :: .int x :: st) h Q ↔ (if x = y then gm_W E d 22 89 lv st h Q else gm_W E d 22 94 lv st h Q) := (gw_br m22 f22_86 rfl rfl rfl rfl).trans gw_ifn
theorem f22_89 : gm_ft 22 89 = some (.bipush (-2), 2) := by decide +kernel
theorem r22_89 {E : Nat → Value} {d : Nat} {st : List Value} {h : gm_H} {Q : gm_R → gm_H → Prop} {lv : List Value} : gm_W E d 22 89 lv st h Q ↔ gm_W E d 22 91 lv (.int (-2 : Int32) :: st) h Q := gw_pure m22 f22_89 rfl
theorem f22_91 : gm_ft 22 91 = some (.goto 9, 3) := by decide +kernel
theorem r22_91 {E : Nat → Value} {d : Nat} {st : List Value} {h : gm_H} {Q : gm_R → gm_H → Prop} {lv : List Value} : gm_W E d 22 91 lv st h Q ↔ gm_W E d 22 100 lv st h Q := gw_brT m22 f22_91 rfl rfl rfl rfl
theorem f22_94 : gm_ft 22 94 = some (.aload_n 0, 1) := by decide +kernel
theorem r22_94 {E : Nat → Value} {d : Nat} {st : List Value} {h : gm_H} {Q : gm_R → gm_H → Prop} {a1 a2 a3 a4 : Value} {x : Nat} : gm_W E d 22 94 [.ref x, a1, a2, a3, a4] st h Q ↔ gm_W E d 22 95 [.ref x, a1, a2, a3, a4] (.ref x :: st) h Q := gw_loc m22 f22_94 rfl rfl
theorem r22_94n {E : Nat → Value} {d : Nat} {st : List Value} {h : gm_H} {Q : gm_R → gm_H → Prop} {a1 a2 a3 a4 : Value}  : gm_W E d 22 94 [.null, a1, a2, a3, a4] st h Q ↔ gm_W E d 22 95 [.null, a1, a2, a3, a4] (.null :: st) h Q := gw_loc m22 f22_94 rfl rfl
theorem f22_95 : gm_ft 22 95 = some (.getfield 60, 3) := by decide +kernel
theorem r22_95 {E : Nat → Value} {d : Nat} {st : List Value} {h : gm_H} {Q : gm_R → gm_H → Prop} {lv : List Value} {a : Nat} (hk : gm_kd h a = 5) : gm_W E d 22 95 lv (.ref a :: st) h Q ↔ gm_W E d 22 98 lv (gm_fv h a 27 :: st) h Q := gw_rd m22 f22_95 rfl rfl rfl rfl (gs_get k5_60 hk (by decide))
theorem f22_98 : gm_ft 22 98 = some (.iload_n 3, 1) := by decide +kernel
theorem r22_98 {E : Nat → Value} {d : Nat} {st : List Value} {h : gm_H} {Q : gm_R → gm_H → Prop} {a0 a1 a2 a4 : Value} {x : Int32} : gm_W E d 22 98 [a0, a1, a2, .int x, a4] st h Q ↔ gm_W E d 22 99 [a0, a1, a2, .int x, a4] (.int x :: st) h Q := gw_loc m22 f22_98 rfl rfl
theorem f22_99 : gm_ft 22 99 = some (.iaload, 1) := by decide +kernel
theorem r22_99 {E : Nat → Value} {d : Nat} {st : List Value} {h : gm_H} {Q : gm_R → gm_H → Prop} {lv : List Value} {a j : Nat} (hk : gm_kd h a % 100 = 0 ∧ 100 ≤ gm_kd h a ∧ gm_kd h a < 900) (hj : j < gm_ln h a) (hl : gm_ln h a < 2 ^ 31) : gm_W E d 22 99 lv (.int (nI j) :: .ref a :: st) h Q ↔ gm_W E d 22 100 lv (gm_fv h a j :: st) h Q := gw_rd m22 f22_99 rfl rfl rfl rfl (gs_ld (P := fun t => t == 0) hk.2 (by have := hk.1; simp [this] <;> omega) hj hl)
theorem f22_100 : gm_ft 22 100 = some (.invokevirtual 182, 3) := by decide +kernel
theorem c22_100 {E : Nat → Value} {d : Nat} {st : List Value} {h : gm_H} {Q : gm_R → gm_H → Prop} {lv : List Value} {b0 : Int32} {a : Nat} {Qc : gm_R → gm_H → Prop} (hs : (st.map fun v => v.category).sum ≤ 8) (hr : gm_kd h a = 5) (hd : 1 ≤ d) (hc : gm_Ca E (d - 1) 16 [.ref a, .int b0] h Qc) (kn : ∀ (v9 : Option Value) (h9 : gm_H), Qc (.inl v9) h9 → gm_W E d 22 103 lv (v9.toList ++ st) h9 Q) (kx : ∀ (x9 : Nat) (h9 : gm_H), Qc (.inr x9) h9 → Q (.inr x9) h9) : gm_W E d 22 100 lv (.int b0 :: .ref a :: st) h Q := gw_call (gn_call m22 f22_100 rfl rfl rfl rfl rfl rfl rfl (gs_virt (bs := [.int b0]) (w := 872) (L := 2) rfl rfl rfl rfl hs (by simp [gm_en1]) hr (by decide)) (by decide)) m22 rfl rfl hd hc kn kx
theorem f22_103 : gm_ft 22 103 = some (.return_, 1) := by decide +kernel
theorem r22_103 {E : Nat → Value} {d : Nat} {h : gm_H} {Q : gm_R → gm_H → Prop} {lv : List Value} : gm_W E d 22 103 lv [] h Q ↔ Q (.inl none) h := gw_ret m22 f22_103 rfl rfl rfl rfl rfl rfl rfl rfl rfl
/-! GraphReaderModel.startRead(I)V -/
theorem m23 : gm_mt[23]? = some (⟨"GraphReaderModel", "startRead", "(I)V"⟩, prog_7_method_22_code, 6, none, [], 5, 2) := rfl
theorem f23_0 : gm_ft 23 0 = some (.aload_n 0, 1) := by decide +kernel
theorem r23_0 {E : Nat → Value} {d : Nat} {st : List Value} {h : gm_H} {Q : gm_R → gm_H → Prop} {a1 a2 a3 a4 a5 : Value} {x : Nat} : gm_W E d 23 0 [.ref x, a1, a2, a3, a4, a5] st h Q ↔ gm_W E d 23 1 [.ref x, a1, a2, a3, a4, a5] (.ref x :: st) h Q := gw_loc m23 f23_0 rfl rfl
theorem r23_0n {E : Nat → Value} {d : Nat} {st : List Value} {h : gm_H} {Q : gm_R → gm_H → Prop} {a1 a2 a3 a4 a5 : Value}  : gm_W E d 23 0 [.null, a1, a2, a3, a4, a5] st h Q ↔ gm_W E d 23 1 [.null, a1, a2, a3, a4, a5] (.null :: st) h Q := gw_loc m23 f23_0 rfl rfl
theorem f23_1 : gm_ft 23 1 = some (.getfield 99, 3) := by decide +kernel
theorem r23_1 {E : Nat → Value} {d : Nat} {st : List Value} {h : gm_H} {Q : gm_R → gm_H → Prop} {lv : List Value} {a : Nat} (hk : gm_kd h a = 5) : gm_W E d 23 1 lv (.ref a :: st) h Q ↔ gm_W E d 23 4 lv (gm_fv h a 42 :: st) h Q := gw_rd m23 f23_1 rfl rfl rfl rfl (gs_get k5_99 hk (by decide))
theorem f23_4 : gm_ft 23 4 = some (.iload_n 1, 1) := by decide +kernel
theorem r23_4 {E : Nat → Value} {d : Nat} {st : List Value} {h : gm_H} {Q : gm_R → gm_H → Prop} {a0 a2 a3 a4 a5 : Value} {x : Int32} : gm_W E d 23 4 [a0, .int x, a2, a3, a4, a5] st h Q ↔ gm_W E d 23 5 [a0, .int x, a2, a3, a4, a5] (.int x :: st) h Q := gw_loc m23 f23_4 rfl rfl
theorem f23_5 : gm_ft 23 5 = some (.iaload, 1) := by decide +kernel
theorem r23_5 {E : Nat → Value} {d : Nat} {st : List Value} {h : gm_H} {Q : gm_R → gm_H → Prop} {lv : List Value} {a j : Nat} (hk : gm_kd h a % 100 = 0 ∧ 100 ≤ gm_kd h a ∧ gm_kd h a < 900) (hj : j < gm_ln h a) (hl : gm_ln h a < 2 ^ 31) : gm_W E d 23 5 lv (.int (nI j) :: .ref a :: st) h Q ↔ gm_W E d 23 6 lv (gm_fv h a j :: st) h Q := gw_rd m23 f23_5 rfl rfl rfl rfl (gs_ld (P := fun t => t == 0) hk.2 (by have := hk.1; simp [this] <;> omega) hj hl)
theorem f23_6 : gm_ft 23 6 = some (.bipush 8, 2) := by decide +kernel
theorem r23_6 {E : Nat → Value} {d : Nat} {st : List Value} {h : gm_H} {Q : gm_R → gm_H → Prop} {lv : List Value} : gm_W E d 23 6 lv st h Q ↔ gm_W E d 23 8 lv (.int (8 : Int32) :: st) h Q := gw_pure m23 f23_6 rfl
theorem f23_8 : gm_ft 23 8 = some (.if_icmp .gt 12, 3) := by decide +kernel
theorem r23_8 {E : Nat → Value} {d : Nat} {st : List Value} {h : gm_H} {Q : gm_R → gm_H → Prop} {lv : List Value} {x y : Int32} : gm_W E d 23 8 lv (.int y :: .int x :: st) h Q ↔ (if y < x then gm_W E d 23 20 lv st h Q else gm_W E d 23 11 lv st h Q) := (gw_br m23 f23_8 rfl rfl rfl rfl).trans gw_if
theorem f23_11 : gm_ft 23 11 = some (.aload_n 0, 1) := by decide +kernel
theorem r23_11 {E : Nat → Value} {d : Nat} {st : List Value} {h : gm_H} {Q : gm_R → gm_H → Prop} {a1 a2 a3 a4 a5 : Value} {x : Nat} : gm_W E d 23 11 [.ref x, a1, a2, a3, a4, a5] st h Q ↔ gm_W E d 23 12 [.ref x, a1, a2, a3, a4, a5] (.ref x :: st) h Q := gw_loc m23 f23_11 rfl rfl
theorem r23_11n {E : Nat → Value} {d : Nat} {st : List Value} {h : gm_H} {Q : gm_R → gm_H → Prop} {a1 a2 a3 a4 a5 : Value}  : gm_W E d 23 11 [.null, a1, a2, a3, a4, a5] st h Q ↔ gm_W E d 23 12 [.null, a1, a2, a3, a4, a5] (.null :: st) h Q := gw_loc m23 f23_11 rfl rfl
theorem f23_12 : gm_ft 23 12 = some (.getfield 166, 3) := by decide +kernel
theorem r23_12 {E : Nat → Value} {d : Nat} {st : List Value} {h : gm_H} {Q : gm_R → gm_H → Prop} {lv : List Value} {a : Nat} (hk : gm_kd h a = 5) : gm_W E d 23 12 lv (.ref a :: st) h Q ↔ gm_W E d 23 15 lv (gm_fv h a 28 :: st) h Q := gw_rd m23 f23_12 rfl rfl rfl rfl (gs_get k5_166 hk (by decide))
theorem f23_15 : gm_ft 23 15 = some (.bipush 60, 2) := by decide +kernel
theorem r23_15 {E : Nat → Value} {d : Nat} {st : List Value} {h : gm_H} {Q : gm_R → gm_H → Prop} {lv : List Value} : gm_W E d 23 15 lv st h Q ↔ gm_W E d 23 17 lv (.int (60 : Int32) :: st) h Q := gw_pure m23 f23_15 rfl
theorem f23_17 : gm_ft 23 17 = some (.if_icmp .le 10, 3) := by decide +kernel
theorem r23_17 {E : Nat → Value} {d : Nat} {st : List Value} {h : gm_H} {Q : gm_R → gm_H → Prop} {lv : List Value} {x y : Int32} : gm_W E d 23 17 lv (.int y :: .int x :: st) h Q ↔ (if x ≤ y then gm_W E d 23 27 lv st h Q else gm_W E d 23 20 lv st h Q) := (gw_br m23 f23_17 rfl rfl rfl rfl).trans gw_if
theorem f23_20 : gm_ft 23 20 = some (.aload_n 0, 1) := by decide +kernel
theorem r23_20 {E : Nat → Value} {d : Nat} {st : List Value} {h : gm_H} {Q : gm_R → gm_H → Prop} {a1 a2 a3 a4 a5 : Value} {x : Nat} : gm_W E d 23 20 [.ref x, a1, a2, a3, a4, a5] st h Q ↔ gm_W E d 23 21 [.ref x, a1, a2, a3, a4, a5] (.ref x :: st) h Q := gw_loc m23 f23_20 rfl rfl
theorem r23_20n {E : Nat → Value} {d : Nat} {st : List Value} {h : gm_H} {Q : gm_R → gm_H → Prop} {a1 a2 a3 a4 a5 : Value}  : gm_W E d 23 20 [.null, a1, a2, a3, a4, a5] st h Q ↔ gm_W E d 23 21 [.null, a1, a2, a3, a4, a5] (.null :: st) h Q := gw_loc m23 f23_20 rfl rfl
theorem f23_21 : gm_ft 23 21 = some (.bipush (-8), 2) := by decide +kernel
theorem r23_21 {E : Nat → Value} {d : Nat} {st : List Value} {h : gm_H} {Q : gm_R → gm_H → Prop} {lv : List Value} : gm_W E d 23 21 lv st h Q ↔ gm_W E d 23 23 lv (.int (-8 : Int32) :: st) h Q := gw_pure m23 f23_21 rfl
theorem f23_23 : gm_ft 23 23 = some (.invokevirtual 151, 3) := by decide +kernel
theorem c23_23 {E : Nat → Value} {d : Nat} {st : List Value} {h : gm_H} {Q : gm_R → gm_H → Prop} {lv : List Value} {b0 : Int32} {a : Nat} {Qc : gm_R → gm_H → Prop} (hs : (st.map fun v => v.category).sum ≤ 8) (hr : gm_kd h a = 5) (hd : 1 ≤ d) (hc : gm_Ca E (d - 1) 10 [.ref a, .int b0] h Qc) (kn : ∀ (v9 : Option Value) (h9 : gm_H), Qc (.inl v9) h9 → gm_W E d 23 26 lv (v9.toList ++ st) h9 Q) (kx : ∀ (x9 : Nat) (h9 : gm_H), Qc (.inr x9) h9 → Q (.inr x9) h9) : gm_W E d 23 23 lv (.int b0 :: .ref a :: st) h Q := gw_call (gn_call m23 f23_23 rfl rfl rfl rfl rfl rfl rfl (gs_virt (bs := [.int b0]) (w := 844) (L := 2) rfl rfl rfl rfl hs (by simp [gm_en1]) hr (by decide)) (by decide)) m23 rfl rfl hd hc kn kx
theorem f23_26 : gm_ft 23 26 = some (.return_, 1) := by decide +kernel
theorem r23_26 {E : Nat → Value} {d : Nat} {h : gm_H} {Q : gm_R → gm_H → Prop} {lv : List Value} : gm_W E d 23 26 lv [] h Q ↔ Q (.inl none) h := gw_ret m23 f23_26 rfl rfl rfl rfl rfl rfl rfl rfl rfl
theorem f23_27 : gm_ft 23 27 = some (.aload_n 0, 1) := by decide +kernel
theorem r23_27 {E : Nat → Value} {d : Nat} {st : List Value} {h : gm_H} {Q : gm_R → gm_H → Prop} {a1 a2 a3 a4 a5 : Value} {x : Nat} : gm_W E d 23 27 [.ref x, a1, a2, a3, a4, a5] st h Q ↔ gm_W E d 23 28 [.ref x, a1, a2, a3, a4, a5] (.ref x :: st) h Q := gw_loc m23 f23_27 rfl rfl
theorem r23_27n {E : Nat → Value} {d : Nat} {st : List Value} {h : gm_H} {Q : gm_R → gm_H → Prop} {a1 a2 a3 a4 a5 : Value}  : gm_W E d 23 27 [.null, a1, a2, a3, a4, a5] st h Q ↔ gm_W E d 23 28 [.null, a1, a2, a3, a4, a5] (.null :: st) h Q := gw_loc m23 f23_27 rfl rfl
theorem f23_28 : gm_ft 23 28 = some (.invokevirtual 155, 3) := by decide +kernel
theorem c23_28 {E : Nat → Value} {d : Nat} {st : List Value} {h : gm_H} {Q : gm_R → gm_H → Prop} {lv : List Value} {a : Nat} {Qc : gm_R → gm_H → Prop} (hs : (st.map fun v => v.category).sum ≤ 8) (hr : gm_kd h a = 5) (hd : 1 ≤ d) (hc : gm_Ca E (d - 1) 11 [.ref a] h Qc) (kn : ∀ (v9 : Option Value) (h9 : gm_H), Qc (.inl v9) h9 → gm_W E d 23 31 lv (v9.toList ++ st) h9 Q) (kx : ∀ (x9 : Nat) (h9 : gm_H), Qc (.inr x9) h9 → Q (.inr x9) h9) : gm_W E d 23 28 lv (.ref a :: st) h Q := gw_call (gn_call m23 f23_28 rfl rfl rfl rfl rfl rfl rfl (gs_virt (bs := []) (w := 848) (L := 1) rfl rfl rfl rfl hs (by simp [gm_en1]) hr (by decide)) (by decide)) m23 rfl rfl hd hc kn kx
theorem f23_31 : gm_ft 23 31 = some (.istore_n 2, 1) := by decide +kernel
theorem r23_31 {E : Nat → Value} {d : Nat} {st : List Value} {h : gm_H} {Q : gm_R → gm_H → Prop} {a0 a1 a2 a3 a4 a5 : Value} {x : Int32} : gm_W E d 23 31 [a0, a1, a2, a3, a4, a5] (.int x :: st) h Q ↔ gm_W E d 23 32 [a0, gm_k a1, .int x, a3, a4, a5] st h Q := gw_loc m23 f23_31 rfl rfl
theorem f23_32 : gm_ft 23 32 = some (.aload_n 0, 1) := by decide +kernel
theorem r23_32 {E : Nat → Value} {d : Nat} {st : List Value} {h : gm_H} {Q : gm_R → gm_H → Prop} {a1 a2 a3 a4 a5 : Value} {x : Nat} : gm_W E d 23 32 [.ref x, a1, a2, a3, a4, a5] st h Q ↔ gm_W E d 23 33 [.ref x, a1, a2, a3, a4, a5] (.ref x :: st) h Q := gw_loc m23 f23_32 rfl rfl
theorem r23_32n {E : Nat → Value} {d : Nat} {st : List Value} {h : gm_H} {Q : gm_R → gm_H → Prop} {a1 a2 a3 a4 a5 : Value}  : gm_W E d 23 32 [.null, a1, a2, a3, a4, a5] st h Q ↔ gm_W E d 23 33 [.null, a1, a2, a3, a4, a5] (.null :: st) h Q := gw_loc m23 f23_32 rfl rfl
theorem f23_33 : gm_ft 23 33 = some (.getfield 145, 3) := by decide +kernel
theorem r23_33 {E : Nat → Value} {d : Nat} {st : List Value} {h : gm_H} {Q : gm_R → gm_H → Prop} {lv : List Value} {a : Nat} (hk : gm_kd h a = 5) : gm_W E d 23 33 lv (.ref a :: st) h Q ↔ gm_W E d 23 36 lv (gm_fv h a 8 :: st) h Q := gw_rd m23 f23_33 rfl rfl rfl rfl (gs_get k5_145 hk (by decide))
theorem f23_36 : gm_ft 23 36 = some (.ifCond .eq 4, 3) := by decide +kernel
theorem r23_36 {E : Nat → Value} {d : Nat} {st : List Value} {h : gm_H} {Q : gm_R → gm_H → Prop} {lv : List Value} {x : Int32} : gm_W E d 23 36 lv (.int x :: st) h Q ↔ (if x = 0 then gm_W E d 23 40 lv st h Q else gm_W E d 23 39 lv st h Q) := (gw_br m23 f23_36 rfl rfl rfl rfl).trans gw_if
theorem f23_39 : gm_ft 23 39 = some (.return_, 1) := by decide +kernel
theorem r23_39 {E : Nat → Value} {d : Nat} {h : gm_H} {Q : gm_R → gm_H → Prop} {lv : List Value} : gm_W E d 23 39 lv [] h Q ↔ Q (.inl none) h := gw_ret m23 f23_39 rfl rfl rfl rfl rfl rfl rfl rfl rfl
theorem f23_40 : gm_ft 23 40 = some (.iload_n 2, 1) := by decide +kernel
theorem r23_40 {E : Nat → Value} {d : Nat} {st : List Value} {h : gm_H} {Q : gm_R → gm_H → Prop} {a0 a1 a3 a4 a5 : Value} {x : Int32} : gm_W E d 23 40 [a0, a1, .int x, a3, a4, a5] st h Q ↔ gm_W E d 23 41 [a0, a1, .int x, a3, a4, a5] (.int x :: st) h Q := gw_loc m23 f23_40 rfl rfl
theorem f23_41 : gm_ft 23 41 = some (.bipush 112, 2) := by decide +kernel
theorem r23_41 {E : Nat → Value} {d : Nat} {st : List Value} {h : gm_H} {Q : gm_R → gm_H → Prop} {lv : List Value} : gm_W E d 23 41 lv st h Q ↔ gm_W E d 23 43 lv (.int (112 : Int32) :: st) h Q := gw_pure m23 f23_41 rfl
theorem f23_43 : gm_ft 23 43 = some (.if_icmp .ne 12, 3) := by decide +kernel
theorem r23_43 {E : Nat → Value} {d : Nat} {st : List Value} {h : gm_H} {Q : gm_R → gm_H → Prop} {lv : List Value} {x y : Int32} : gm_W E d 23 43 lv (.int y :: .int x :: st) h Q ↔ (if x = y then gm_W E d 23 46 lv st h Q else gm_W E d 23 55 lv st h Q) := (gw_br m23 f23_43 rfl rfl rfl rfl).trans gw_ifn
theorem f23_46 : gm_ft 23 46 = some (.aload_n 0, 1) := by decide +kernel
theorem r23_46 {E : Nat → Value} {d : Nat} {st : List Value} {h : gm_H} {Q : gm_R → gm_H → Prop} {a1 a2 a3 a4 a5 : Value} {x : Nat} : gm_W E d 23 46 [.ref x, a1, a2, a3, a4, a5] st h Q ↔ gm_W E d 23 47 [.ref x, a1, a2, a3, a4, a5] (.ref x :: st) h Q := gw_loc m23 f23_46 rfl rfl
theorem r23_46n {E : Nat → Value} {d : Nat} {st : List Value} {h : gm_H} {Q : gm_R → gm_H → Prop} {a1 a2 a3 a4 a5 : Value}  : gm_W E d 23 46 [.null, a1, a2, a3, a4, a5] st h Q ↔ gm_W E d 23 47 [.null, a1, a2, a3, a4, a5] (.null :: st) h Q := gw_loc m23 f23_46 rfl rfl
theorem f23_47 : gm_ft 23 47 = some (.bipush (-2), 2) := by decide +kernel
theorem r23_47 {E : Nat → Value} {d : Nat} {st : List Value} {h : gm_H} {Q : gm_R → gm_H → Prop} {lv : List Value} : gm_W E d 23 47 lv st h Q ↔ gm_W E d 23 49 lv (.int (-2 : Int32) :: st) h Q := gw_pure m23 f23_47 rfl
theorem f23_49 : gm_ft 23 49 = some (.invokevirtual 182, 3) := by decide +kernel
theorem c23_49 {E : Nat → Value} {d : Nat} {st : List Value} {h : gm_H} {Q : gm_R → gm_H → Prop} {lv : List Value} {b0 : Int32} {a : Nat} {Qc : gm_R → gm_H → Prop} (hs : (st.map fun v => v.category).sum ≤ 8) (hr : gm_kd h a = 5) (hd : 1 ≤ d) (hc : gm_Ca E (d - 1) 16 [.ref a, .int b0] h Qc) (kn : ∀ (v9 : Option Value) (h9 : gm_H), Qc (.inl v9) h9 → gm_W E d 23 52 lv (v9.toList ++ st) h9 Q) (kx : ∀ (x9 : Nat) (h9 : gm_H), Qc (.inr x9) h9 → Q (.inr x9) h9) : gm_W E d 23 49 lv (.int b0 :: .ref a :: st) h Q := gw_call (gn_call m23 f23_49 rfl rfl rfl rfl rfl rfl rfl (gs_virt (bs := [.int b0]) (w := 872) (L := 2) rfl rfl rfl rfl hs (by simp [gm_en1]) hr (by decide)) (by decide)) m23 rfl rfl hd hc kn kx
theorem f23_52 : gm_ft 23 52 = some (.goto 258, 3) := by decide +kernel
theorem r23_52 {E : Nat → Value} {d : Nat} {st : List Value} {h : gm_H} {Q : gm_R → gm_H → Prop} {lv : List Value} : gm_W E d 23 52 lv st h Q ↔ gm_W E d 23 310 lv st h Q := gw_brT m23 f23_52 rfl rfl rfl rfl
theorem f23_55 : gm_ft 23 55 = some (.iload_n 2, 1) := by decide +kernel
theorem r23_55 {E : Nat → Value} {d : Nat} {st : List Value} {h : gm_H} {Q : gm_R → gm_H → Prop} {a0 a1 a3 a4 a5 : Value} {x : Int32} : gm_W E d 23 55 [a0, a1, .int x, a3, a4, a5] st h Q ↔ gm_W E d 23 56 [a0, a1, .int x, a3, a4, a5] (.int x :: st) h Q := gw_loc m23 f23_55 rfl rfl
theorem f23_56 : gm_ft 23 56 = some (.bipush 113, 2) := by decide +kernel
theorem r23_56 {E : Nat → Value} {d : Nat} {st : List Value} {h : gm_H} {Q : gm_R → gm_H → Prop} {lv : List Value} : gm_W E d 23 56 lv st h Q ↔ gm_W E d 23 58 lv (.int (113 : Int32) :: st) h Q := gw_pure m23 f23_56 rfl
theorem f23_58 : gm_ft 23 58 = some (.if_icmp .ne 12, 3) := by decide +kernel
theorem r23_58 {E : Nat → Value} {d : Nat} {st : List Value} {h : gm_H} {Q : gm_R → gm_H → Prop} {lv : List Value} {x y : Int32} : gm_W E d 23 58 lv (.int y :: .int x :: st) h Q ↔ (if x = y then gm_W E d 23 61 lv st h Q else gm_W E d 23 70 lv st h Q) := (gw_br m23 f23_58 rfl rfl rfl rfl).trans gw_ifn
theorem f23_61 : gm_ft 23 61 = some (.aload_n 0, 1) := by decide +kernel
theorem r23_61 {E : Nat → Value} {d : Nat} {st : List Value} {h : gm_H} {Q : gm_R → gm_H → Prop} {a1 a2 a3 a4 a5 : Value} {x : Nat} : gm_W E d 23 61 [.ref x, a1, a2, a3, a4, a5] st h Q ↔ gm_W E d 23 62 [.ref x, a1, a2, a3, a4, a5] (.ref x :: st) h Q := gw_loc m23 f23_61 rfl rfl
theorem r23_61n {E : Nat → Value} {d : Nat} {st : List Value} {h : gm_H} {Q : gm_R → gm_H → Prop} {a1 a2 a3 a4 a5 : Value}  : gm_W E d 23 61 [.null, a1, a2, a3, a4, a5] st h Q ↔ gm_W E d 23 62 [.null, a1, a2, a3, a4, a5] (.null :: st) h Q := gw_loc m23 f23_61 rfl rfl
theorem f23_62 : gm_ft 23 62 = some (.iload_n 1, 1) := by decide +kernel
theorem r23_62 {E : Nat → Value} {d : Nat} {st : List Value} {h : gm_H} {Q : gm_R → gm_H → Prop} {a0 a2 a3 a4 a5 : Value} {x : Int32} : gm_W E d 23 62 [a0, .int x, a2, a3, a4, a5] st h Q ↔ gm_W E d 23 63 [a0, .int x, a2, a3, a4, a5] (.int x :: st) h Q := gw_loc m23 f23_62 rfl rfl
theorem f23_63 : gm_ft 23 63 = some (.iconst 0, 1) := by decide +kernel
theorem r23_63 {E : Nat → Value} {d : Nat} {st : List Value} {h : gm_H} {Q : gm_R → gm_H → Prop} {lv : List Value} : gm_W E d 23 63 lv st h Q ↔ gm_W E d 23 64 lv (.int (0 : Int32) :: st) h Q := gw_pure m23 f23_63 rfl
theorem f23_64 : gm_ft 23 64 = some (.invokevirtual 185, 3) := by decide +kernel
theorem c23_64 {E : Nat → Value} {d : Nat} {st : List Value} {h : gm_H} {Q : gm_R → gm_H → Prop} {lv : List Value} {b0 : Int32} {b1 : Int32} {a : Nat} {Qc : gm_R → gm_H → Prop} (hs : (st.map fun v => v.category).sum ≤ 8) (hr : gm_kd h a = 5) (hd : 1 ≤ d) (hc : gm_Ca E (d - 1) 22 [.ref a, .int b0, .int b1] h Qc) (kn : ∀ (v9 : Option Value) (h9 : gm_H), Qc (.inl v9) h9 → gm_W E d 23 67 lv (v9.toList ++ st) h9 Q) (kx : ∀ (x9 : Nat) (h9 : gm_H), Qc (.inr x9) h9 → Q (.inr x9) h9) : gm_W E d 23 64 lv (.int b1 :: .int b0 :: .ref a :: st) h Q := gw_call (gn_call m23 f23_64 rfl rfl rfl rfl rfl rfl rfl (gs_virt (bs := [.int b1, .int b0]) (w := 876) (L := 5) rfl rfl rfl rfl hs (by simp [gm_en1]) hr (by decide)) (by decide)) m23 rfl rfl hd hc kn kx
theorem f23_67 : gm_ft 23 67 = some (.goto 243, 3) := by decide +kernel
theorem r23_67 {E : Nat → Value} {d : Nat} {st : List Value} {h : gm_H} {Q : gm_R → gm_H → Prop} {lv : List Value} : gm_W E d 23 67 lv st h Q ↔ gm_W E d 23 310 lv st h Q := gw_brT m23 f23_67 rfl rfl rfl rfl
theorem f23_70 : gm_ft 23 70 = some (.iload_n 2, 1) := by decide +kernel
theorem r23_70 {E : Nat → Value} {d : Nat} {st : List Value} {h : gm_H} {Q : gm_R → gm_H → Prop} {a0 a1 a3 a4 a5 : Value} {x : Int32} : gm_W E d 23 70 [a0, a1, .int x, a3, a4, a5] st h Q ↔ gm_W E d 23 71 [a0, a1, .int x, a3, a4, a5] (.int x :: st) h Q := gw_loc m23 f23_70 rfl rfl
theorem f23_71 : gm_ft 23 71 = some (.bipush 116, 2) := by decide +kernel
theorem r23_71 {E : Nat → Value} {d : Nat} {st : List Value} {h : gm_H} {Q : gm_R → gm_H → Prop} {lv : List Value} : gm_W E d 23 71 lv st h Q ↔ gm_W E d 23 73 lv (.int (116 : Int32) :: st) h Q := gw_pure m23 f23_71 rfl
theorem f23_73 : gm_ft 23 73 = some (.if_icmp .ne 65, 3) := by decide +kernel
theorem r23_73 {E : Nat → Value} {d : Nat} {st : List Value} {h : gm_H} {Q : gm_R → gm_H → Prop} {lv : List Value} {x y : Int32} : gm_W E d 23 73 lv (.int y :: .int x :: st) h Q ↔ (if x = y then gm_W E d 23 76 lv st h Q else gm_W E d 23 138 lv st h Q) := (gw_br m23 f23_73 rfl rfl rfl rfl).trans gw_ifn
theorem f23_76 : gm_ft 23 76 = some (.aload_n 0, 1) := by decide +kernel
theorem r23_76 {E : Nat → Value} {d : Nat} {st : List Value} {h : gm_H} {Q : gm_R → gm_H → Prop} {a1 a2 a3 a4 a5 : Value} {x : Nat} : gm_W E d 23 76 [.ref x, a1, a2, a3, a4, a5] st h Q ↔ gm_W E d 23 77 [.ref x, a1, a2, a3, a4, a5] (.ref x :: st) h Q := gw_loc m23 f23_76 rfl rfl
theorem r23_76n {E : Nat → Value} {d : Nat} {st : List Value} {h : gm_H} {Q : gm_R → gm_H → Prop} {a1 a2 a3 a4 a5 : Value}  : gm_W E d 23 76 [.null, a1, a2, a3, a4, a5] st h Q ↔ gm_W E d 23 77 [.null, a1, a2, a3, a4, a5] (.null :: st) h Q := gw_loc m23 f23_76 rfl rfl
theorem f23_77 : gm_ft 23 77 = some (.iconst 0, 1) := by decide +kernel
theorem r23_77 {E : Nat → Value} {d : Nat} {st : List Value} {h : gm_H} {Q : gm_R → gm_H → Prop} {lv : List Value} : gm_W E d 23 77 lv st h Q ↔ gm_W E d 23 78 lv (.int (0 : Int32) :: st) h Q := gw_pure m23 f23_77 rfl
theorem f23_78 : gm_ft 23 78 = some (.iconst 0, 1) := by decide +kernel
theorem r23_78 {E : Nat → Value} {d : Nat} {st : List Value} {h : gm_H} {Q : gm_R → gm_H → Prop} {lv : List Value} : gm_W E d 23 78 lv st h Q ↔ gm_W E d 23 79 lv (.int (0 : Int32) :: st) h Q := gw_pure m23 f23_78 rfl
theorem f23_79 : gm_ft 23 79 = some (.invokevirtual 189, 3) := by decide +kernel
theorem c23_79 {E : Nat → Value} {d : Nat} {st : List Value} {h : gm_H} {Q : gm_R → gm_H → Prop} {lv : List Value} {b0 : Int32} {b1 : Int32} {a : Nat} {Qc : gm_R → gm_H → Prop} (hs : (st.map fun v => v.category).sum ≤ 8) (hr : gm_kd h a = 5) (hd : 1 ≤ d) (hc : gm_Ca E (d - 1) 17 [.ref a, .int b0, .int b1] h Qc) (kn : ∀ (v9 : Option Value) (h9 : gm_H), Qc (.inl v9) h9 → gm_W E d 23 82 lv (v9.toList ++ st) h9 Q) (kx : ∀ (x9 : Nat) (h9 : gm_H), Qc (.inr x9) h9 → Q (.inr x9) h9) : gm_W E d 23 79 lv (.int b1 :: .int b0 :: .ref a :: st) h Q := gw_call (gn_call m23 f23_79 rfl rfl rfl rfl rfl rfl rfl (gs_virt (bs := [.int b1, .int b0]) (w := 885) (L := 3) rfl rfl rfl rfl hs (by simp [gm_en1]) hr (by decide)) (by decide)) m23 rfl rfl hd hc kn kx
theorem f23_82 : gm_ft 23 82 = some (.istore_n 3, 1) := by decide +kernel
theorem r23_82 {E : Nat → Value} {d : Nat} {st : List Value} {h : gm_H} {Q : gm_R → gm_H → Prop} {a0 a1 a2 a3 a4 a5 : Value} {x : Int32} : gm_W E d 23 82 [a0, a1, a2, a3, a4, a5] (.int x :: st) h Q ↔ gm_W E d 23 83 [a0, a1, gm_k a2, .int x, a4, a5] st h Q := gw_loc m23 f23_82 rfl rfl
theorem f23_83 : gm_ft 23 83 = some (.aload_n 0, 1) := by decide +kernel
theorem r23_83 {E : Nat → Value} {d : Nat} {st : List Value} {h : gm_H} {Q : gm_R → gm_H → Prop} {a1 a2 a3 a4 a5 : Value} {x : Nat} : gm_W E d 23 83 [.ref x, a1, a2, a3, a4, a5] st h Q ↔ gm_W E d 23 84 [.ref x, a1, a2, a3, a4, a5] (.ref x :: st) h Q := gw_loc m23 f23_83 rfl rfl
theorem r23_83n {E : Nat → Value} {d : Nat} {st : List Value} {h : gm_H} {Q : gm_R → gm_H → Prop} {a1 a2 a3 a4 a5 : Value}  : gm_W E d 23 83 [.null, a1, a2, a3, a4, a5] st h Q ↔ gm_W E d 23 84 [.null, a1, a2, a3, a4, a5] (.null :: st) h Q := gw_loc m23 f23_83 rfl rfl
theorem f23_84 : gm_ft 23 84 = some (.invokevirtual 193, 3) := by decide +kernel
theorem c23_84 {E : Nat → Value} {d : Nat} {st : List Value} {h : gm_H} {Q : gm_R → gm_H → Prop} {lv : List Value} {a : Nat} {Qc : gm_R → gm_H → Prop} (hs : (st.map fun v => v.category).sum ≤ 8) (hr : gm_kd h a = 5) (hd : 1 ≤ d) (hc : gm_Ca E (d - 1) 13 [.ref a] h Qc) (kn : ∀ (v9 : Option Value) (h9 : gm_H), Qc (.inl v9) h9 → gm_W E d 23 87 lv (v9.toList ++ st) h9 Q) (kx : ∀ (x9 : Nat) (h9 : gm_H), Qc (.inr x9) h9 → Q (.inr x9) h9) : gm_W E d 23 84 lv (.ref a :: st) h Q := gw_call (gn_call m23 f23_84 rfl rfl rfl rfl rfl rfl rfl (gs_virt (bs := []) (w := 889) (L := 4) rfl rfl rfl rfl hs (by simp [gm_en1]) hr (by decide)) (by decide)) m23 rfl rfl hd hc kn kx
theorem f23_87 : gm_ft 23 87 = some (.istore 4, 2) := by decide +kernel
theorem r23_87 {E : Nat → Value} {d : Nat} {st : List Value} {h : gm_H} {Q : gm_R → gm_H → Prop} {a0 a1 a2 a3 a4 a5 : Value} {x : Int32} : gm_W E d 23 87 [a0, a1, a2, a3, a4, a5] (.int x :: st) h Q ↔ gm_W E d 23 89 [a0, a1, a2, gm_k a3, .int x, a5] st h Q := gw_loc m23 f23_87 rfl rfl
theorem f23_89 : gm_ft 23 89 = some (.aload_n 0, 1) := by decide +kernel
theorem r23_89 {E : Nat → Value} {d : Nat} {st : List Value} {h : gm_H} {Q : gm_R → gm_H → Prop} {a1 a2 a3 a4 a5 : Value} {x : Nat} : gm_W E d 23 89 [.ref x, a1, a2, a3, a4, a5] st h Q ↔ gm_W E d 23 90 [.ref x, a1, a2, a3, a4, a5] (.ref x :: st) h Q := gw_loc m23 f23_89 rfl rfl
theorem r23_89n {E : Nat → Value} {d : Nat} {st : List Value} {h : gm_H} {Q : gm_R → gm_H → Prop} {a1 a2 a3 a4 a5 : Value}  : gm_W E d 23 89 [.null, a1, a2, a3, a4, a5] st h Q ↔ gm_W E d 23 90 [.null, a1, a2, a3, a4, a5] (.null :: st) h Q := gw_loc m23 f23_89 rfl rfl
theorem f23_90 : gm_ft 23 90 = some (.getfield 145, 3) := by decide +kernel
theorem r23_90 {E : Nat → Value} {d : Nat} {st : List Value} {h : gm_H} {Q : gm_R → gm_H → Prop} {lv : List Value} {a : Nat} (hk : gm_kd h a = 5) : gm_W E d 23 90 lv (.ref a :: st) h Q ↔ gm_W E d 23 93 lv (gm_fv h a 8 :: st) h Q := gw_rd m23 f23_90 rfl rfl rfl rfl (gs_get k5_145 hk (by decide))
theorem f23_93 : gm_ft 23 93 = some (.ifCond .eq 4, 3) := by decide +kernel
theorem r23_93 {E : Nat → Value} {d : Nat} {st : List Value} {h : gm_H} {Q : gm_R → gm_H → Prop} {lv : List Value} {x : Int32} : gm_W E d 23 93 lv (.int x :: st) h Q ↔ (if x = 0 then gm_W E d 23 97 lv st h Q else gm_W E d 23 96 lv st h Q) := (gw_br m23 f23_93 rfl rfl rfl rfl).trans gw_if
theorem f23_96 : gm_ft 23 96 = some (.return_, 1) := by decide +kernel
theorem r23_96 {E : Nat → Value} {d : Nat} {h : gm_H} {Q : gm_R → gm_H → Prop} {lv : List Value} : gm_W E d 23 96 lv [] h Q ↔ Q (.inl none) h := gw_ret m23 f23_96 rfl rfl rfl rfl rfl rfl rfl rfl rfl
theorem f23_97 : gm_ft 23 97 = some (.aload_n 0, 1) := by decide +kernel
theorem r23_97 {E : Nat → Value} {d : Nat} {st : List Value} {h : gm_H} {Q : gm_R → gm_H → Prop} {a1 a2 a3 a4 a5 : Value} {x : Nat} : gm_W E d 23 97 [.ref x, a1, a2, a3, a4, a5] st h Q ↔ gm_W E d 23 98 [.ref x, a1, a2, a3, a4, a5] (.ref x :: st) h Q := gw_loc m23 f23_97 rfl rfl
theorem r23_97n {E : Nat → Value} {d : Nat} {st : List Value} {h : gm_H} {Q : gm_R → gm_H → Prop} {a1 a2 a3 a4 a5 : Value}  : gm_W E d 23 97 [.null, a1, a2, a3, a4, a5] st h Q ↔ gm_W E d 23 98 [.null, a1, a2, a3, a4, a5] (.null :: st) h Q := gw_loc m23 f23_97 rfl rfl
theorem f23_98 : gm_ft 23 98 = some (.iconst 1, 1) := by decide +kernel
theorem r23_98 {E : Nat → Value} {d : Nat} {st : List Value} {h : gm_H} {Q : gm_R → gm_H → Prop} {lv : List Value} : gm_W E d 23 98 lv st h Q ↔ gm_W E d 23 99 lv (.int (1 : Int32) :: st) h Q := gw_pure m23 f23_98 rfl
theorem f23_99 : gm_ft 23 99 = some (.iconst (-1), 1) := by decide +kernel
theorem r23_99 {E : Nat → Value} {d : Nat} {st : List Value} {h : gm_H} {Q : gm_R → gm_H → Prop} {lv : List Value} : gm_W E d 23 99 lv st h Q ↔ gm_W E d 23 100 lv (.int (-1 : Int32) :: st) h Q := gw_pure m23 f23_99 rfl
theorem f23_100 : gm_ft 23 100 = some (.iload 4, 2) := by decide +kernel
theorem r23_100 {E : Nat → Value} {d : Nat} {st : List Value} {h : gm_H} {Q : gm_R → gm_H → Prop} {a0 a1 a2 a3 a5 : Value} {x : Int32} : gm_W E d 23 100 [a0, a1, a2, a3, .int x, a5] st h Q ↔ gm_W E d 23 102 [a0, a1, a2, a3, .int x, a5] (.int x :: st) h Q := gw_loc m23 f23_100 rfl rfl
theorem f23_102 : gm_ft 23 102 = some (.aload_n 0, 1) := by decide +kernel
theorem r23_102 {E : Nat → Value} {d : Nat} {st : List Value} {h : gm_H} {Q : gm_R → gm_H → Prop} {a1 a2 a3 a4 a5 : Value} {x : Nat} : gm_W E d 23 102 [.ref x, a1, a2, a3, a4, a5] st h Q ↔ gm_W E d 23 103 [.ref x, a1, a2, a3, a4, a5] (.ref x :: st) h Q := gw_loc m23 f23_102 rfl rfl
theorem r23_102n {E : Nat → Value} {d : Nat} {st : List Value} {h : gm_H} {Q : gm_R → gm_H → Prop} {a1 a2 a3 a4 a5 : Value}  : gm_W E d 23 102 [.null, a1, a2, a3, a4, a5] st h Q ↔ gm_W E d 23 103 [.null, a1, a2, a3, a4, a5] (.null :: st) h Q := gw_loc m23 f23_102 rfl rfl
theorem f23_103 : gm_ft 23 103 = some (.getfield 148, 3) := by decide +kernel
theorem r23_103 {E : Nat → Value} {d : Nat} {st : List Value} {h : gm_H} {Q : gm_R → gm_H → Prop} {lv : List Value} {a : Nat} (hk : gm_kd h a = 5) : gm_W E d 23 103 lv (.ref a :: st) h Q ↔ gm_W E d 23 106 lv (gm_fv h a 6 :: st) h Q := gw_rd m23 f23_103 rfl rfl rfl rfl (gs_get k5_148 hk (by decide))
theorem f23_106 : gm_ft 23 106 = some (.iload 4, 2) := by decide +kernel
theorem r23_106 {E : Nat → Value} {d : Nat} {st : List Value} {h : gm_H} {Q : gm_R → gm_H → Prop} {a0 a1 a2 a3 a5 : Value} {x : Int32} : gm_W E d 23 106 [a0, a1, a2, a3, .int x, a5] st h Q ↔ gm_W E d 23 108 [a0, a1, a2, a3, .int x, a5] (.int x :: st) h Q := gw_loc m23 f23_106 rfl rfl
theorem f23_108 : gm_ft 23 108 = some (.isub, 1) := by decide +kernel
theorem r23_108 {E : Nat → Value} {d : Nat} {st : List Value} {h : gm_H} {Q : gm_R → gm_H → Prop} {lv : List Value} {x y : Int32} : gm_W E d 23 108 lv (.int y :: .int x :: st) h Q ↔ gm_W E d 23 109 lv (.int (x - y) :: st) h Q := gw_pure m23 f23_108 rfl
theorem f23_109 : gm_ft 23 109 = some (.invokevirtual 196, 3) := by decide +kernel
theorem c23_109 {E : Nat → Value} {d : Nat} {st : List Value} {h : gm_H} {Q : gm_R → gm_H → Prop} {lv : List Value} {b0 : Int32} {b1 : Int32} {b2 : Int32} {b3 : Int32} {a : Nat} {Qc : gm_R → gm_H → Prop} (hs : (st.map fun v => v.category).sum ≤ 8) (hr : gm_kd h a = 5) (hd : 1 ≤ d) (hc : gm_Ca E (d - 1) 18 [.ref a, .int b0, .int b1, .int b2, .int b3] h Qc) (kn : ∀ (v9 : Option Value) (h9 : gm_H), Qc (.inl v9) h9 → gm_W E d 23 112 lv (v9.toList ++ st) h9 Q) (kx : ∀ (x9 : Nat) (h9 : gm_H), Qc (.inr x9) h9 → Q (.inr x9) h9) : gm_W E d 23 109 lv (.int b3 :: .int b2 :: .int b1 :: .int b0 :: .ref a :: st) h Q := gw_call (gn_call m23 f23_109 rfl rfl rfl rfl rfl rfl rfl (gs_virt (bs := [.int b3, .int b2, .int b1, .int b0]) (w := 893) (L := 5) rfl rfl rfl rfl hs (by simp [gm_en1]) hr (by decide)) (by decide)) m23 rfl rfl hd hc kn kx
theorem f23_112 : gm_ft 23 112 = some (.istore 5, 2) := by decide +kernel
theorem r23_112 {E : Nat → Value} {d : Nat} {st : List Value} {h : gm_H} {Q : gm_R → gm_H → Prop} {a0 a1 a2 a3 a4 a5 : Value} {x : Int32} : gm_W E d 23 112 [a0, a1, a2, a3, a4, a5] (.int x :: st) h Q ↔ gm_W E d 23 114 [a0, a1, a2, a3, gm_k a4, .int x] st h Q := gw_loc m23 f23_112 rfl rfl
theorem f23_114 : gm_ft 23 114 = some (.aload_n 0, 1) := by decide +kernel
theorem r23_114 {E : Nat → Value} {d : Nat} {st : List Value} {h : gm_H} {Q : gm_R → gm_H → Prop} {a1 a2 a3 a4 a5 : Value} {x : Nat} : gm_W E d 23 114 [.ref x, a1, a2, a3, a4, a5] st h Q ↔ gm_W E d 23 115 [.ref x, a1, a2, a3, a4, a5] (.ref x :: st) h Q := gw_loc m23 f23_114 rfl rfl
theorem r23_114n {E : Nat → Value} {d : Nat} {st : List Value} {h : gm_H} {Q : gm_R → gm_H → Prop} {a1 a2 a3 a4 a5 : Value}  : gm_W E d 23 114 [.null, a1, a2, a3, a4, a5] st h Q ↔ gm_W E d 23 115 [.null, a1, a2, a3, a4, a5] (.null :: st) h Q := gw_loc m23 f23_114 rfl rfl
theorem f23_115 : gm_ft 23 115 = some (.getfield 57, 3) := by decide +kernel
theorem r23_115 {E : Nat → Value} {d : Nat} {st : List Value} {h : gm_H} {Q : gm_R → gm_H → Prop} {lv : List Value} {a : Nat} (hk : gm_kd h a = 5) : gm_W E d 23 115 lv (.ref a :: st) h Q ↔ gm_W E d 23 118 lv (gm_fv h a 26 :: st) h Q := gw_rd m23 f23_115 rfl rfl rfl rfl (gs_get k5_57 hk (by decide))
theorem f23_118 : gm_ft 23 118 = some (.iload_n 3, 1) := by decide +kernel
theorem r23_118 {E : Nat → Value} {d : Nat} {st : List Value} {h : gm_H} {Q : gm_R → gm_H → Prop} {a0 a1 a2 a4 a5 : Value} {x : Int32} : gm_W E d 23 118 [a0, a1, a2, .int x, a4, a5] st h Q ↔ gm_W E d 23 119 [a0, a1, a2, .int x, a4, a5] (.int x :: st) h Q := gw_loc m23 f23_118 rfl rfl
theorem f23_119 : gm_ft 23 119 = some (.iconst 2, 1) := by decide +kernel
theorem r23_119 {E : Nat → Value} {d : Nat} {st : List Value} {h : gm_H} {Q : gm_R → gm_H → Prop} {lv : List Value} : gm_W E d 23 119 lv st h Q ↔ gm_W E d 23 120 lv (.int (2 : Int32) :: st) h Q := gw_pure m23 f23_119 rfl
theorem f23_120 : gm_ft 23 120 = some (.iastore, 1) := by decide +kernel
theorem r23_120 {E : Nat → Value} {d : Nat} {st : List Value} {h : gm_H} {Q : gm_R → gm_H → Prop} {lv : List Value} {a j : Nat} {x : Int32} (hk : gm_kd h a = 200) (hj : j < gm_ln h a) (hl : gm_ln h a < 2 ^ 31) : gm_W E d 23 120 lv (.int x :: .int (nI j) :: .ref a :: st) h Q ↔ gm_W E d 23 121 lv st (gm_sf h a j (.int x)) Q := gw_wr m23 f23_120 rfl rfl rfl rfl rfl (gs_st hk (by decide) hj hl)
theorem f23_121 : gm_ft 23 121 = some (.aload_n 0, 1) := by decide +kernel
theorem r23_121 {E : Nat → Value} {d : Nat} {st : List Value} {h : gm_H} {Q : gm_R → gm_H → Prop} {a1 a2 a3 a4 a5 : Value} {x : Nat} : gm_W E d 23 121 [.ref x, a1, a2, a3, a4, a5] st h Q ↔ gm_W E d 23 122 [.ref x, a1, a2, a3, a4, a5] (.ref x :: st) h Q := gw_loc m23 f23_121 rfl rfl
theorem r23_121n {E : Nat → Value} {d : Nat} {st : List Value} {h : gm_H} {Q : gm_R → gm_H → Prop} {a1 a2 a3 a4 a5 : Value}  : gm_W E d 23 121 [.null, a1, a2, a3, a4, a5] st h Q ↔ gm_W E d 23 122 [.null, a1, a2, a3, a4, a5] (.null :: st) h Q := gw_loc m23 f23_121 rfl rfl
theorem f23_122 : gm_ft 23 122 = some (.getfield 60, 3) := by decide +kernel
theorem r23_122 {E : Nat → Value} {d : Nat} {st : List Value} {h : gm_H} {Q : gm_R → gm_H → Prop} {lv : List Value} {a : Nat} (hk : gm_kd h a = 5) : gm_W E d 23 122 lv (.ref a :: st) h Q ↔ gm_W E d 23 125 lv (gm_fv h a 27 :: st) h Q := gw_rd m23 f23_122 rfl rfl rfl rfl (gs_get k5_60 hk (by decide))
theorem f23_125 : gm_ft 23 125 = some (.iload_n 3, 1) := by decide +kernel
theorem r23_125 {E : Nat → Value} {d : Nat} {st : List Value} {h : gm_H} {Q : gm_R → gm_H → Prop} {a0 a1 a2 a4 a5 : Value} {x : Int32} : gm_W E d 23 125 [a0, a1, a2, .int x, a4, a5] st h Q ↔ gm_W E d 23 126 [a0, a1, a2, .int x, a4, a5] (.int x :: st) h Q := gw_loc m23 f23_125 rfl rfl
theorem f23_126 : gm_ft 23 126 = some (.iload 5, 2) := by decide +kernel
theorem r23_126 {E : Nat → Value} {d : Nat} {st : List Value} {h : gm_H} {Q : gm_R → gm_H → Prop} {a0 a1 a2 a3 a4 : Value} {x : Int32} : gm_W E d 23 126 [a0, a1, a2, a3, a4, .int x] st h Q ↔ gm_W E d 23 128 [a0, a1, a2, a3, a4, .int x] (.int x :: st) h Q := gw_loc m23 f23_126 rfl rfl
theorem f23_128 : gm_ft 23 128 = some (.iastore, 1) := by decide +kernel
theorem r23_128 {E : Nat → Value} {d : Nat} {st : List Value} {h : gm_H} {Q : gm_R → gm_H → Prop} {lv : List Value} {a j : Nat} {x : Int32} (hk : gm_kd h a = 200) (hj : j < gm_ln h a) (hl : gm_ln h a < 2 ^ 31) : gm_W E d 23 128 lv (.int x :: .int (nI j) :: .ref a :: st) h Q ↔ gm_W E d 23 129 lv st (gm_sf h a j (.int x)) Q := gw_wr m23 f23_128 rfl rfl rfl rfl rfl (gs_st hk (by decide) hj hl)
theorem f23_129 : gm_ft 23 129 = some (.aload_n 0, 1) := by decide +kernel
theorem r23_129 {E : Nat → Value} {d : Nat} {st : List Value} {h : gm_H} {Q : gm_R → gm_H → Prop} {a1 a2 a3 a4 a5 : Value} {x : Nat} : gm_W E d 23 129 [.ref x, a1, a2, a3, a4, a5] st h Q ↔ gm_W E d 23 130 [.ref x, a1, a2, a3, a4, a5] (.ref x :: st) h Q := gw_loc m23 f23_129 rfl rfl
theorem r23_129n {E : Nat → Value} {d : Nat} {st : List Value} {h : gm_H} {Q : gm_R → gm_H → Prop} {a1 a2 a3 a4 a5 : Value}  : gm_W E d 23 129 [.null, a1, a2, a3, a4, a5] st h Q ↔ gm_W E d 23 130 [.null, a1, a2, a3, a4, a5] (.null :: st) h Q := gw_loc m23 f23_129 rfl rfl
theorem f23_130 : gm_ft 23 130 = some (.iload 5, 2) := by decide +kernel
theorem r23_130 {E : Nat → Value} {d : Nat} {st : List Value} {h : gm_H} {Q : gm_R → gm_H → Prop} {a0 a1 a2 a3 a4 : Value} {x : Int32} : gm_W E d 23 130 [a0, a1, a2, a3, a4, .int x] st h Q ↔ gm_W E d 23 132 [a0, a1, a2, a3, a4, .int x] (.int x :: st) h Q := gw_loc m23 f23_130 rfl rfl
theorem f23_132 : gm_ft 23 132 = some (.invokevirtual 182, 3) := by decide +kernel
theorem c23_132 {E : Nat → Value} {d : Nat} {st : List Value} {h : gm_H} {Q : gm_R → gm_H → Prop} {lv : List Value} {b0 : Int32} {a : Nat} {Qc : gm_R → gm_H → Prop} (hs : (st.map fun v => v.category).sum ≤ 8) (hr : gm_kd h a = 5) (hd : 1 ≤ d) (hc : gm_Ca E (d - 1) 16 [.ref a, .int b0] h Qc) (kn : ∀ (v9 : Option Value) (h9 : gm_H), Qc (.inl v9) h9 → gm_W E d 23 135 lv (v9.toList ++ st) h9 Q) (kx : ∀ (x9 : Nat) (h9 : gm_H), Qc (.inr x9) h9 → Q (.inr x9) h9) : gm_W E d 23 132 lv (.int b0 :: .ref a :: st) h Q := gw_call (gn_call m23 f23_132 rfl rfl rfl rfl rfl rfl rfl (gs_virt (bs := [.int b0]) (w := 872) (L := 2) rfl rfl rfl rfl hs (by simp [gm_en1]) hr (by decide)) (by decide)) m23 rfl rfl hd hc kn kx
theorem f23_135 : gm_ft 23 135 = some (.goto 175, 3) := by decide +kernel
theorem r23_135 {E : Nat → Value} {d : Nat} {st : List Value} {h : gm_H} {Q : gm_R → gm_H → Prop} {lv : List Value} : gm_W E d 23 135 lv st h Q ↔ gm_W E d 23 310 lv st h Q := gw_brT m23 f23_135 rfl rfl rfl rfl
theorem f23_138 : gm_ft 23 138 = some (.iload_n 2, 1) := by decide +kernel
theorem r23_138 {E : Nat → Value} {d : Nat} {st : List Value} {h : gm_H} {Q : gm_R → gm_H → Prop} {a0 a1 a3 a4 a5 : Value} {x : Int32} : gm_W E d 23 138 [a0, a1, .int x, a3, a4, a5] st h Q ↔ gm_W E d 23 139 [a0, a1, .int x, a3, a4, a5] (.int x :: st) h Q := gw_loc m23 f23_138 rfl rfl
theorem f23_139 : gm_ft 23 139 = some (.bipush 114, 2) := by decide +kernel
theorem r23_139 {E : Nat → Value} {d : Nat} {st : List Value} {h : gm_H} {Q : gm_R → gm_H → Prop} {lv : List Value} : gm_W E d 23 139 lv st h Q ↔ gm_W E d 23 141 lv (.int (114 : Int32) :: st) h Q := gw_pure m23 f23_139 rfl
theorem f23_141 : gm_ft 23 141 = some (.if_icmp .eq 21, 3) := by decide +kernel
theorem r23_141 {E : Nat → Value} {d : Nat} {st : List Value} {h : gm_H} {Q : gm_R → gm_H → Prop} {lv : List Value} {x y : Int32} : gm_W E d 23 141 lv (.int y :: .int x :: st) h Q ↔ (if x = y then gm_W E d 23 162 lv st h Q else gm_W E d 23 144 lv st h Q) := (gw_br m23 f23_141 rfl rfl rfl rfl).trans gw_if
theorem f23_144 : gm_ft 23 144 = some (.iload_n 2, 1) := by decide +kernel
theorem r23_144 {E : Nat → Value} {d : Nat} {st : List Value} {h : gm_H} {Q : gm_R → gm_H → Prop} {a0 a1 a3 a4 a5 : Value} {x : Int32} : gm_W E d 23 144 [a0, a1, .int x, a3, a4, a5] st h Q ↔ gm_W E d 23 145 [a0, a1, .int x, a3, a4, a5] (.int x :: st) h Q := gw_loc m23 f23_144 rfl rfl
theorem f23_145 : gm_ft 23 145 = some (.bipush 115, 2) := by decide +kernel
theorem r23_145 {E : Nat → Value} {d : Nat} {st : List Value} {h : gm_H} {Q : gm_R → gm_H → Prop} {lv : List Value} : gm_W E d 23 145 lv st h Q ↔ gm_W E d 23 147 lv (.int (115 : Int32) :: st) h Q := gw_pure m23 f23_145 rfl
theorem f23_147 : gm_ft 23 147 = some (.if_icmp .eq 15, 3) := by decide +kernel
theorem r23_147 {E : Nat → Value} {d : Nat} {st : List Value} {h : gm_H} {Q : gm_R → gm_H → Prop} {lv : List Value} {x y : Int32} : gm_W E d 23 147 lv (.int y :: .int x :: st) h Q ↔ (if x = y then gm_W E d 23 162 lv st h Q else gm_W E d 23 150 lv st h Q) := (gw_br m23 f23_147 rfl rfl rfl rfl).trans gw_if
theorem f23_150 : gm_ft 23 150 = some (.iload_n 2, 1) := by decide +kernel
theorem r23_150 {E : Nat → Value} {d : Nat} {st : List Value} {h : gm_H} {Q : gm_R → gm_H → Prop} {a0 a1 a3 a4 a5 : Value} {x : Int32} : gm_W E d 23 150 [a0, a1, .int x, a3, a4, a5] st h Q ↔ gm_W E d 23 151 [a0, a1, .int x, a3, a4, a5] (.int x :: st) h Q := gw_loc m23 f23_150 rfl rfl
theorem f23_151 : gm_ft 23 151 = some (.bipush 117, 2) := by decide +kernel
theorem r23_151 {E : Nat → Value} {d : Nat} {st : List Value} {h : gm_H} {Q : gm_R → gm_H → Prop} {lv : List Value} : gm_W E d 23 151 lv st h Q ↔ gm_W E d 23 153 lv (.int (117 : Int32) :: st) h Q := gw_pure m23 f23_151 rfl
theorem f23_153 : gm_ft 23 153 = some (.if_icmp .eq 9, 3) := by decide +kernel
theorem r23_153 {E : Nat → Value} {d : Nat} {st : List Value} {h : gm_H} {Q : gm_R → gm_H → Prop} {lv : List Value} {x y : Int32} : gm_W E d 23 153 lv (.int y :: .int x :: st) h Q ↔ (if x = y then gm_W E d 23 162 lv st h Q else gm_W E d 23 156 lv st h Q) := (gw_br m23 f23_153 rfl rfl rfl rfl).trans gw_if
theorem f23_156 : gm_ft 23 156 = some (.iload_n 2, 1) := by decide +kernel
theorem r23_156 {E : Nat → Value} {d : Nat} {st : List Value} {h : gm_H} {Q : gm_R → gm_H → Prop} {a0 a1 a3 a4 a5 : Value} {x : Int32} : gm_W E d 23 156 [a0, a1, .int x, a3, a4, a5] st h Q ↔ gm_W E d 23 157 [a0, a1, .int x, a3, a4, a5] (.int x :: st) h Q := gw_loc m23 f23_156 rfl rfl
theorem f23_157 : gm_ft 23 157 = some (.bipush 126, 2) := by decide +kernel
theorem r23_157 {E : Nat → Value} {d : Nat} {st : List Value} {h : gm_H} {Q : gm_R → gm_H → Prop} {lv : List Value} : gm_W E d 23 157 lv st h Q ↔ gm_W E d 23 159 lv (.int (126 : Int32) :: st) h Q := gw_pure m23 f23_157 rfl
theorem f23_159 : gm_ft 23 159 = some (.if_icmp .ne 73, 3) := by decide +kernel
theorem r23_159 {E : Nat → Value} {d : Nat} {st : List Value} {h : gm_H} {Q : gm_R → gm_H → Prop} {lv : List Value} {x y : Int32} : gm_W E d 23 159 lv (.int y :: .int x :: st) h Q ↔ (if x = y then gm_W E d 23 162 lv st h Q else gm_W E d 23 232 lv st h Q) := (gw_br m23 f23_159 rfl rfl rfl rfl).trans gw_ifn
theorem f23_162 : gm_ft 23 162 = some (.iload_n 2, 1) := by decide +kernel
theorem r23_162 {E : Nat → Value} {d : Nat} {st : List Value} {h : gm_H} {Q : gm_R → gm_H → Prop} {a0 a1 a3 a4 a5 : Value} {x : Int32} : gm_W E d 23 162 [a0, a1, .int x, a3, a4, a5] st h Q ↔ gm_W E d 23 163 [a0, a1, .int x, a3, a4, a5] (.int x :: st) h Q := gw_loc m23 f23_162 rfl rfl
theorem f23_163 : gm_ft 23 163 = some (.bipush 114, 2) := by decide +kernel
theorem r23_163 {E : Nat → Value} {d : Nat} {st : List Value} {h : gm_H} {Q : gm_R → gm_H → Prop} {lv : List Value} : gm_W E d 23 163 lv st h Q ↔ gm_W E d 23 165 lv (.int (114 : Int32) :: st) h Q := gw_pure m23 f23_163 rfl
theorem f23_165 : gm_ft 23 165 = some (.if_icmp .ne 13, 3) := by decide +kernel
theorem r23_165 {E : Nat → Value} {d : Nat} {st : List Value} {h : gm_H} {Q : gm_R → gm_H → Prop} {lv : List Value} {x y : Int32} : gm_W E d 23 165 lv (.int y :: .int x :: st) h Q ↔ (if x = y then gm_W E d 23 168 lv st h Q else gm_W E d 23 178 lv st h Q) := (gw_br m23 f23_165 rfl rfl rfl rfl).trans gw_ifn
theorem f23_168 : gm_ft 23 168 = some (.aload_n 0, 1) := by decide +kernel
theorem r23_168 {E : Nat → Value} {d : Nat} {st : List Value} {h : gm_H} {Q : gm_R → gm_H → Prop} {a1 a2 a3 a4 a5 : Value} {x : Nat} : gm_W E d 23 168 [.ref x, a1, a2, a3, a4, a5] st h Q ↔ gm_W E d 23 169 [.ref x, a1, a2, a3, a4, a5] (.ref x :: st) h Q := gw_loc m23 f23_168 rfl rfl
theorem r23_168n {E : Nat → Value} {d : Nat} {st : List Value} {h : gm_H} {Q : gm_R → gm_H → Prop} {a1 a2 a3 a4 a5 : Value}  : gm_W E d 23 168 [.null, a1, a2, a3, a4, a5] st h Q ↔ gm_W E d 23 169 [.null, a1, a2, a3, a4, a5] (.null :: st) h Q := gw_loc m23 f23_168 rfl rfl
theorem f23_169 : gm_ft 23 169 = some (.dup, 1) := by decide +kernel
theorem r23_169 {E : Nat → Value} {d : Nat} {st : List Value} {h : gm_H} {Q : gm_R → gm_H → Prop} {lv : List Value} {a : Nat} : gm_W E d 23 169 lv (.ref a :: st) h Q ↔ gm_W E d 23 170 lv (.ref a :: .ref a :: st) h Q := gw_pure m23 f23_169 rfl
theorem r23_169i {E : Nat → Value} {d : Nat} {st : List Value} {h : gm_H} {Q : gm_R → gm_H → Prop} {lv : List Value} {x : Int32} : gm_W E d 23 169 lv (.int x :: st) h Q ↔ gm_W E d 23 170 lv (.int x :: .int x :: st) h Q := gw_pure m23 f23_169 rfl
theorem f23_170 : gm_ft 23 170 = some (.getfield 148, 3) := by decide +kernel
theorem r23_170 {E : Nat → Value} {d : Nat} {st : List Value} {h : gm_H} {Q : gm_R → gm_H → Prop} {lv : List Value} {a : Nat} (hk : gm_kd h a = 5) : gm_W E d 23 170 lv (.ref a :: st) h Q ↔ gm_W E d 23 173 lv (gm_fv h a 6 :: st) h Q := gw_rd m23 f23_170 rfl rfl rfl rfl (gs_get k5_148 hk (by decide))
theorem f23_173 : gm_ft 23 173 = some (.iconst 1, 1) := by decide +kernel
theorem r23_173 {E : Nat → Value} {d : Nat} {st : List Value} {h : gm_H} {Q : gm_R → gm_H → Prop} {lv : List Value} : gm_W E d 23 173 lv st h Q ↔ gm_W E d 23 174 lv (.int (1 : Int32) :: st) h Q := gw_pure m23 f23_173 rfl
theorem f23_174 : gm_ft 23 174 = some (.isub, 1) := by decide +kernel
theorem r23_174 {E : Nat → Value} {d : Nat} {st : List Value} {h : gm_H} {Q : gm_R → gm_H → Prop} {lv : List Value} {x y : Int32} : gm_W E d 23 174 lv (.int y :: .int x :: st) h Q ↔ gm_W E d 23 175 lv (.int (x - y) :: st) h Q := gw_pure m23 f23_174 rfl
theorem f23_175 : gm_ft 23 175 = some (.putfield 148, 3) := by decide +kernel
theorem r23_175 {E : Nat → Value} {d : Nat} {st : List Value} {h : gm_H} {Q : gm_R → gm_H → Prop} {lv : List Value} {a : Nat} {x : Int32} (hk : gm_kd h a = 5) : gm_W E d 23 175 lv (.int x :: .ref a :: st) h Q ↔ gm_W E d 23 178 lv st (gm_sf h a 6 (.int x)) Q := gw_wr m23 f23_175 rfl rfl rfl rfl rfl (gs_put k5_148 hk (by decide) (by decide) ⟨rfl, rfl⟩ (by decide))
theorem f23_178 : gm_ft 23 178 = some (.aload_n 0, 1) := by decide +kernel
theorem r23_178 {E : Nat → Value} {d : Nat} {st : List Value} {h : gm_H} {Q : gm_R → gm_H → Prop} {a1 a2 a3 a4 a5 : Value} {x : Nat} : gm_W E d 23 178 [.ref x, a1, a2, a3, a4, a5] st h Q ↔ gm_W E d 23 179 [.ref x, a1, a2, a3, a4, a5] (.ref x :: st) h Q := gw_loc m23 f23_178 rfl rfl
theorem r23_178n {E : Nat → Value} {d : Nat} {st : List Value} {h : gm_H} {Q : gm_R → gm_H → Prop} {a1 a2 a3 a4 a5 : Value}  : gm_W E d 23 178 [.null, a1, a2, a3, a4, a5] st h Q ↔ gm_W E d 23 179 [.null, a1, a2, a3, a4, a5] (.null :: st) h Q := gw_loc m23 f23_178 rfl rfl
theorem f23_179 : gm_ft 23 179 = some (.getfield 96, 3) := by decide +kernel
theorem r23_179 {E : Nat → Value} {d : Nat} {st : List Value} {h : gm_H} {Q : gm_R → gm_H → Prop} {lv : List Value} {a : Nat} (hk : gm_kd h a = 5) : gm_W E d 23 179 lv (.ref a :: st) h Q ↔ gm_W E d 23 182 lv (gm_fv h a 41 :: st) h Q := gw_rd m23 f23_179 rfl rfl rfl rfl (gs_get k5_96 hk (by decide))
theorem f23_182 : gm_ft 23 182 = some (.iload_n 1, 1) := by decide +kernel
theorem r23_182 {E : Nat → Value} {d : Nat} {st : List Value} {h : gm_H} {Q : gm_R → gm_H → Prop} {a0 a2 a3 a4 a5 : Value} {x : Int32} : gm_W E d 23 182 [a0, .int x, a2, a3, a4, a5] st h Q ↔ gm_W E d 23 183 [a0, .int x, a2, a3, a4, a5] (.int x :: st) h Q := gw_loc m23 f23_182 rfl rfl
theorem f23_183 : gm_ft 23 183 = some (.iload_n 2, 1) := by decide +kernel
theorem r23_183 {E : Nat → Value} {d : Nat} {st : List Value} {h : gm_H} {Q : gm_R → gm_H → Prop} {a0 a1 a3 a4 a5 : Value} {x : Int32} : gm_W E d 23 183 [a0, a1, .int x, a3, a4, a5] st h Q ↔ gm_W E d 23 184 [a0, a1, .int x, a3, a4, a5] (.int x :: st) h Q := gw_loc m23 f23_183 rfl rfl
theorem f23_184 : gm_ft 23 184 = some (.bipush 114, 2) := by decide +kernel
theorem r23_184 {E : Nat → Value} {d : Nat} {st : List Value} {h : gm_H} {Q : gm_R → gm_H → Prop} {lv : List Value} : gm_W E d 23 184 lv st h Q ↔ gm_W E d 23 186 lv (.int (114 : Int32) :: st) h Q := gw_pure m23 f23_184 rfl
theorem f23_186 : gm_ft 23 186 = some (.if_icmp .ne 8, 3) := by decide +kernel
theorem r23_186 {E : Nat → Value} {d : Nat} {st : List Value} {h : gm_H} {Q : gm_R → gm_H → Prop} {lv : List Value} {x y : Int32} : gm_W E d 23 186 lv (.int y :: .int x :: st) h Q ↔ (if x = y then gm_W E d 23 189 lv st h Q else gm_W E d 23 194 lv st h Q) := (gw_br m23 f23_186 rfl rfl rfl rfl).trans gw_ifn
theorem f23_189 : gm_ft 23 189 = some (.bipush 9, 2) := by decide +kernel
theorem r23_189 {E : Nat → Value} {d : Nat} {st : List Value} {h : gm_H} {Q : gm_R → gm_H → Prop} {lv : List Value} : gm_W E d 23 189 lv st h Q ↔ gm_W E d 23 191 lv (.int (9 : Int32) :: st) h Q := gw_pure m23 f23_189 rfl
theorem f23_191 : gm_ft 23 191 = some (.goto 24, 3) := by decide +kernel
theorem r23_191 {E : Nat → Value} {d : Nat} {st : List Value} {h : gm_H} {Q : gm_R → gm_H → Prop} {lv : List Value} : gm_W E d 23 191 lv st h Q ↔ gm_W E d 23 215 lv st h Q := gw_brT m23 f23_191 rfl rfl rfl rfl
theorem f23_194 : gm_ft 23 194 = some (.iload_n 2, 1) := by decide +kernel
theorem r23_194 {E : Nat → Value} {d : Nat} {st : List Value} {h : gm_H} {Q : gm_R → gm_H → Prop} {a0 a1 a3 a4 a5 : Value} {x : Int32} : gm_W E d 23 194 [a0, a1, .int x, a3, a4, a5] st h Q ↔ gm_W E d 23 195 [a0, a1, .int x, a3, a4, a5] (.int x :: st) h Q := gw_loc m23 f23_194 rfl rfl
theorem f23_195 : gm_ft 23 195 = some (.bipush 115, 2) := by decide +kernel
theorem r23_195 {E : Nat → Value} {d : Nat} {st : List Value} {h : gm_H} {Q : gm_R → gm_H → Prop} {lv : List Value} : gm_W E d 23 195 lv st h Q ↔ gm_W E d 23 197 lv (.int (115 : Int32) :: st) h Q := gw_pure m23 f23_195 rfl
theorem f23_197 : gm_ft 23 197 = some (.if_icmp .ne 7, 3) := by decide +kernel
theorem r23_197 {E : Nat → Value} {d : Nat} {st : List Value} {h : gm_H} {Q : gm_R → gm_H → Prop} {lv : List Value} {x y : Int32} : gm_W E d 23 197 lv (.int y :: .int x :: st) h Q ↔ (if x = y then gm_W E d 23 200 lv st h Q else gm_W E d 23 204 lv st h Q) := (gw_br m23 f23_197 rfl rfl rfl rfl).trans gw_ifn
theorem f23_200 : gm_ft 23 200 = some (.iconst 1, 1) := by decide +kernel
theorem r23_200 {E : Nat → Value} {d : Nat} {st : List Value} {h : gm_H} {Q : gm_R → gm_H → Prop} {lv : List Value} : gm_W E d 23 200 lv st h Q ↔ gm_W E d 23 201 lv (.int (1 : Int32) :: st) h Q := gw_pure m23 f23_200 rfl
theorem f23_201 : gm_ft 23 201 = some (.goto 14, 3) := by decide +kernel
theorem r23_201 {E : Nat → Value} {d : Nat} {st : List Value} {h : gm_H} {Q : gm_R → gm_H → Prop} {lv : List Value} : gm_W E d 23 201 lv st h Q ↔ gm_W E d 23 215 lv st h Q := gw_brT m23 f23_201 rfl rfl rfl rfl
theorem f23_204 : gm_ft 23 204 = some (.iload_n 2, 1) := by decide +kernel
theorem r23_204 {E : Nat → Value} {d : Nat} {st : List Value} {h : gm_H} {Q : gm_R → gm_H → Prop} {a0 a1 a3 a4 a5 : Value} {x : Int32} : gm_W E d 23 204 [a0, a1, .int x, a3, a4, a5] st h Q ↔ gm_W E d 23 205 [a0, a1, .int x, a3, a4, a5] (.int x :: st) h Q := gw_loc m23 f23_204 rfl rfl
theorem f23_205 : gm_ft 23 205 = some (.bipush 117, 2) := by decide +kernel
theorem r23_205 {E : Nat → Value} {d : Nat} {st : List Value} {h : gm_H} {Q : gm_R → gm_H → Prop} {lv : List Value} : gm_W E d 23 205 lv st h Q ↔ gm_W E d 23 207 lv (.int (117 : Int32) :: st) h Q := gw_pure m23 f23_205 rfl
theorem f23_207 : gm_ft 23 207 = some (.if_icmp .ne 7, 3) := by decide +kernel
theorem r23_207 {E : Nat → Value} {d : Nat} {st : List Value} {h : gm_H} {Q : gm_R → gm_H → Prop} {lv : List Value} {x y : Int32} : gm_W E d 23 207 lv (.int y :: .int x :: st) h Q ↔ (if x = y then gm_W E d 23 210 lv st h Q else gm_W E d 23 214 lv st h Q) := (gw_br m23 f23_207 rfl rfl rfl rfl).trans gw_ifn
theorem f23_210 : gm_ft 23 210 = some (.iconst 3, 1) := by decide +kernel
theorem r23_210 {E : Nat → Value} {d : Nat} {st : List Value} {h : gm_H} {Q : gm_R → gm_H → Prop} {lv : List Value} : gm_W E d 23 210 lv st h Q ↔ gm_W E d 23 211 lv (.int (3 : Int32) :: st) h Q := gw_pure m23 f23_210 rfl
theorem f23_211 : gm_ft 23 211 = some (.goto 4, 3) := by decide +kernel
theorem r23_211 {E : Nat → Value} {d : Nat} {st : List Value} {h : gm_H} {Q : gm_R → gm_H → Prop} {lv : List Value} : gm_W E d 23 211 lv st h Q ↔ gm_W E d 23 215 lv st h Q := gw_brT m23 f23_211 rfl rfl rfl rfl
theorem f23_214 : gm_ft 23 214 = some (.iconst 5, 1) := by decide +kernel
theorem r23_214 {E : Nat → Value} {d : Nat} {st : List Value} {h : gm_H} {Q : gm_R → gm_H → Prop} {lv : List Value} : gm_W E d 23 214 lv st h Q ↔ gm_W E d 23 215 lv (.int (5 : Int32) :: st) h Q := gw_pure m23 f23_214 rfl
theorem f23_215 : gm_ft 23 215 = some (.iastore, 1) := by decide +kernel
theorem r23_215 {E : Nat → Value} {d : Nat} {st : List Value} {h : gm_H} {Q : gm_R → gm_H → Prop} {lv : List Value} {a j : Nat} {x : Int32} (hk : gm_kd h a = 200) (hj : j < gm_ln h a) (hl : gm_ln h a < 2 ^ 31) : gm_W E d 23 215 lv (.int x :: .int (nI j) :: .ref a :: st) h Q ↔ gm_W E d 23 216 lv st (gm_sf h a j (.int x)) Q := gw_wr m23 f23_215 rfl rfl rfl rfl rfl (gs_st hk (by decide) hj hl)
theorem f23_216 : gm_ft 23 216 = some (.aload_n 0, 1) := by decide +kernel
theorem r23_216 {E : Nat → Value} {d : Nat} {st : List Value} {h : gm_H} {Q : gm_R → gm_H → Prop} {a1 a2 a3 a4 a5 : Value} {x : Nat} : gm_W E d 23 216 [.ref x, a1, a2, a3, a4, a5] st h Q ↔ gm_W E d 23 217 [.ref x, a1, a2, a3, a4, a5] (.ref x :: st) h Q := gw_loc m23 f23_216 rfl rfl
theorem r23_216n {E : Nat → Value} {d : Nat} {st : List Value} {h : gm_H} {Q : gm_R → gm_H → Prop} {a1 a2 a3 a4 a5 : Value}  : gm_W E d 23 216 [.null, a1, a2, a3, a4, a5] st h Q ↔ gm_W E d 23 217 [.null, a1, a2, a3, a4, a5] (.null :: st) h Q := gw_loc m23 f23_216 rfl rfl
theorem f23_217 : gm_ft 23 217 = some (.iconst 2, 1) := by decide +kernel
theorem r23_217 {E : Nat → Value} {d : Nat} {st : List Value} {h : gm_H} {Q : gm_R → gm_H → Prop} {lv : List Value} : gm_W E d 23 217 lv st h Q ↔ gm_W E d 23 218 lv (.int (2 : Int32) :: st) h Q := gw_pure m23 f23_217 rfl
theorem f23_218 : gm_ft 23 218 = some (.aload_n 0, 1) := by decide +kernel
theorem r23_218 {E : Nat → Value} {d : Nat} {st : List Value} {h : gm_H} {Q : gm_R → gm_H → Prop} {a1 a2 a3 a4 a5 : Value} {x : Nat} : gm_W E d 23 218 [.ref x, a1, a2, a3, a4, a5] st h Q ↔ gm_W E d 23 219 [.ref x, a1, a2, a3, a4, a5] (.ref x :: st) h Q := gw_loc m23 f23_218 rfl rfl
theorem r23_218n {E : Nat → Value} {d : Nat} {st : List Value} {h : gm_H} {Q : gm_R → gm_H → Prop} {a1 a2 a3 a4 a5 : Value}  : gm_W E d 23 218 [.null, a1, a2, a3, a4, a5] st h Q ↔ gm_W E d 23 219 [.null, a1, a2, a3, a4, a5] (.null :: st) h Q := gw_loc m23 f23_218 rfl rfl
theorem f23_219 : gm_ft 23 219 = some (.getfield 99, 3) := by decide +kernel
theorem r23_219 {E : Nat → Value} {d : Nat} {st : List Value} {h : gm_H} {Q : gm_R → gm_H → Prop} {lv : List Value} {a : Nat} (hk : gm_kd h a = 5) : gm_W E d 23 219 lv (.ref a :: st) h Q ↔ gm_W E d 23 222 lv (gm_fv h a 42 :: st) h Q := gw_rd m23 f23_219 rfl rfl rfl rfl (gs_get k5_99 hk (by decide))
theorem f23_222 : gm_ft 23 222 = some (.iload_n 1, 1) := by decide +kernel
theorem r23_222 {E : Nat → Value} {d : Nat} {st : List Value} {h : gm_H} {Q : gm_R → gm_H → Prop} {a0 a2 a3 a4 a5 : Value} {x : Int32} : gm_W E d 23 222 [a0, .int x, a2, a3, a4, a5] st h Q ↔ gm_W E d 23 223 [a0, .int x, a2, a3, a4, a5] (.int x :: st) h Q := gw_loc m23 f23_222 rfl rfl
theorem f23_223 : gm_ft 23 223 = some (.iaload, 1) := by decide +kernel
theorem r23_223 {E : Nat → Value} {d : Nat} {st : List Value} {h : gm_H} {Q : gm_R → gm_H → Prop} {lv : List Value} {a j : Nat} (hk : gm_kd h a % 100 = 0 ∧ 100 ≤ gm_kd h a ∧ gm_kd h a < 900) (hj : j < gm_ln h a) (hl : gm_ln h a < 2 ^ 31) : gm_W E d 23 223 lv (.int (nI j) :: .ref a :: st) h Q ↔ gm_W E d 23 224 lv (gm_fv h a j :: st) h Q := gw_rd m23 f23_223 rfl rfl rfl rfl (gs_ld (P := fun t => t == 0) hk.2 (by have := hk.1; simp [this] <;> omega) hj hl)
theorem f23_224 : gm_ft 23 224 = some (.iconst 1, 1) := by decide +kernel
theorem r23_224 {E : Nat → Value} {d : Nat} {st : List Value} {h : gm_H} {Q : gm_R → gm_H → Prop} {lv : List Value} : gm_W E d 23 224 lv st h Q ↔ gm_W E d 23 225 lv (.int (1 : Int32) :: st) h Q := gw_pure m23 f23_224 rfl
theorem f23_225 : gm_ft 23 225 = some (.iconst 0, 1) := by decide +kernel
theorem r23_225 {E : Nat → Value} {d : Nat} {st : List Value} {h : gm_H} {Q : gm_R → gm_H → Prop} {lv : List Value} : gm_W E d 23 225 lv st h Q ↔ gm_W E d 23 226 lv (.int (0 : Int32) :: st) h Q := gw_pure m23 f23_225 rfl
theorem f23_226 : gm_ft 23 226 = some (.invokevirtual 200, 3) := by decide +kernel
theorem c23_226 {E : Nat → Value} {d : Nat} {st : List Value} {h : gm_H} {Q : gm_R → gm_H → Prop} {lv : List Value} {b0 : Int32} {b1 : Int32} {b2 : Int32} {b3 : Int32} {a : Nat} {Qc : gm_R → gm_H → Prop} (hs : (st.map fun v => v.category).sum ≤ 8) (hr : gm_kd h a = 5) (hd : 1 ≤ d) (hc : gm_Ca E (d - 1) 15 [.ref a, .int b0, .int b1, .int b2, .int b3] h Qc) (kn : ∀ (v9 : Option Value) (h9 : gm_H), Qc (.inl v9) h9 → gm_W E d 23 229 lv (v9.toList ++ st) h9 Q) (kx : ∀ (x9 : Nat) (h9 : gm_H), Qc (.inr x9) h9 → Q (.inr x9) h9) : gm_W E d 23 226 lv (.int b3 :: .int b2 :: .int b1 :: .int b0 :: .ref a :: st) h Q := gw_call (gn_call m23 f23_226 rfl rfl rfl rfl rfl rfl rfl (gs_virt (bs := [.int b3, .int b2, .int b1, .int b0]) (w := 856) (L := 5) rfl rfl rfl rfl hs (by simp [gm_en1]) hr (by decide)) (by decide)) m23 rfl rfl hd hc kn kx
theorem f23_229 : gm_ft 23 229 = some (.goto 81, 3) := by decide +kernel
theorem r23_229 {E : Nat → Value} {d : Nat} {st : List Value} {h : gm_H} {Q : gm_R → gm_H → Prop} {lv : List Value} : gm_W E d 23 229 lv st h Q ↔ gm_W E d 23 310 lv st h Q := gw_brT m23 f23_229 rfl rfl rfl rfl
theorem f23_232 : gm_ft 23 232 = some (.iload_n 2, 1) := by decide +kernel
theorem r23_232 {E : Nat → Value} {d : Nat} {st : List Value} {h : gm_H} {Q : gm_R → gm_H → Prop} {a0 a1 a3 a4 a5 : Value} {x : Int32} : gm_W E d 23 232 [a0, a1, .int x, a3, a4, a5] st h Q ↔ gm_W E d 23 233 [a0, a1, .int x, a3, a4, a5] (.int x :: st) h Q := gw_loc m23 f23_232 rfl rfl
theorem f23_233 : gm_ft 23 233 = some (.bipush 121, 2) := by decide +kernel
theorem r23_233 {E : Nat → Value} {d : Nat} {st : List Value} {h : gm_H} {Q : gm_R → gm_H → Prop} {lv : List Value} : gm_W E d 23 233 lv st h Q ↔ gm_W E d 23 235 lv (.int (121 : Int32) :: st) h Q := gw_pure m23 f23_233 rfl
theorem f23_235 : gm_ft 23 235 = some (.if_icmp .ne 21, 3) := by decide +kernel
theorem r23_235 {E : Nat → Value} {d : Nat} {st : List Value} {h : gm_H} {Q : gm_R → gm_H → Prop} {lv : List Value} {x y : Int32} : gm_W E d 23 235 lv (.int y :: .int x :: st) h Q ↔ (if x = y then gm_W E d 23 238 lv st h Q else gm_W E d 23 256 lv st h Q) := (gw_br m23 f23_235 rfl rfl rfl rfl).trans gw_ifn
theorem f23_238 : gm_ft 23 238 = some (.aload_n 0, 1) := by decide +kernel
theorem r23_238 {E : Nat → Value} {d : Nat} {st : List Value} {h : gm_H} {Q : gm_R → gm_H → Prop} {a1 a2 a3 a4 a5 : Value} {x : Nat} : gm_W E d 23 238 [.ref x, a1, a2, a3, a4, a5] st h Q ↔ gm_W E d 23 239 [.ref x, a1, a2, a3, a4, a5] (.ref x :: st) h Q := gw_loc m23 f23_238 rfl rfl
theorem r23_238n {E : Nat → Value} {d : Nat} {st : List Value} {h : gm_H} {Q : gm_R → gm_H → Prop} {a1 a2 a3 a4 a5 : Value}  : gm_W E d 23 238 [.null, a1, a2, a3, a4, a5] st h Q ↔ gm_W E d 23 239 [.null, a1, a2, a3, a4, a5] (.null :: st) h Q := gw_loc m23 f23_238 rfl rfl
theorem f23_239 : gm_ft 23 239 = some (.getfield 99, 3) := by decide +kernel
theorem r23_239 {E : Nat → Value} {d : Nat} {st : List Value} {h : gm_H} {Q : gm_R → gm_H → Prop} {lv : List Value} {a : Nat} (hk : gm_kd h a = 5) : gm_W E d 23 239 lv (.ref a :: st) h Q ↔ gm_W E d 23 242 lv (gm_fv h a 42 :: st) h Q := gw_rd m23 f23_239 rfl rfl rfl rfl (gs_get k5_99 hk (by decide))
theorem f23_242 : gm_ft 23 242 = some (.iload_n 1, 1) := by decide +kernel
theorem r23_242 {E : Nat → Value} {d : Nat} {st : List Value} {h : gm_H} {Q : gm_R → gm_H → Prop} {a0 a2 a3 a4 a5 : Value} {x : Int32} : gm_W E d 23 242 [a0, .int x, a2, a3, a4, a5] st h Q ↔ gm_W E d 23 243 [a0, .int x, a2, a3, a4, a5] (.int x :: st) h Q := gw_loc m23 f23_242 rfl rfl
theorem f23_243 : gm_ft 23 243 = some (.iaload, 1) := by decide +kernel
theorem r23_243 {E : Nat → Value} {d : Nat} {st : List Value} {h : gm_H} {Q : gm_R → gm_H → Prop} {lv : List Value} {a j : Nat} (hk : gm_kd h a % 100 = 0 ∧ 100 ≤ gm_kd h a ∧ gm_kd h a < 900) (hj : j < gm_ln h a) (hl : gm_ln h a < 2 ^ 31) : gm_W E d 23 243 lv (.int (nI j) :: .ref a :: st) h Q ↔ gm_W E d 23 244 lv (gm_fv h a j :: st) h Q := gw_rd m23 f23_243 rfl rfl rfl rfl (gs_ld (P := fun t => t == 0) hk.2 (by have := hk.1; simp [this] <;> omega) hj hl)
theorem f23_244 : gm_ft 23 244 = some (.iconst 1, 1) := by decide +kernel
theorem r23_244 {E : Nat → Value} {d : Nat} {st : List Value} {h : gm_H} {Q : gm_R → gm_H → Prop} {lv : List Value} : gm_W E d 23 244 lv st h Q ↔ gm_W E d 23 245 lv (.int (1 : Int32) :: st) h Q := gw_pure m23 f23_244 rfl
theorem f23_245 : gm_ft 23 245 = some (.if_icmp .ne 11, 3) := by decide +kernel
theorem r23_245 {E : Nat → Value} {d : Nat} {st : List Value} {h : gm_H} {Q : gm_R → gm_H → Prop} {lv : List Value} {x y : Int32} : gm_W E d 23 245 lv (.int y :: .int x :: st) h Q ↔ (if x = y then gm_W E d 23 248 lv st h Q else gm_W E d 23 256 lv st h Q) := (gw_br m23 f23_245 rfl rfl rfl rfl).trans gw_ifn
theorem f23_248 : gm_ft 23 248 = some (.aload_n 0, 1) := by decide +kernel
theorem r23_248 {E : Nat → Value} {d : Nat} {st : List Value} {h : gm_H} {Q : gm_R → gm_H → Prop} {a1 a2 a3 a4 a5 : Value} {x : Nat} : gm_W E d 23 248 [.ref x, a1, a2, a3, a4, a5] st h Q ↔ gm_W E d 23 249 [.ref x, a1, a2, a3, a4, a5] (.ref x :: st) h Q := gw_loc m23 f23_248 rfl rfl
theorem r23_248n {E : Nat → Value} {d : Nat} {st : List Value} {h : gm_H} {Q : gm_R → gm_H → Prop} {a1 a2 a3 a4 a5 : Value}  : gm_W E d 23 248 [.null, a1, a2, a3, a4, a5] st h Q ↔ gm_W E d 23 249 [.null, a1, a2, a3, a4, a5] (.null :: st) h Q := gw_loc m23 f23_248 rfl rfl
theorem f23_249 : gm_ft 23 249 = some (.iconst 0, 1) := by decide +kernel
theorem r23_249 {E : Nat → Value} {d : Nat} {st : List Value} {h : gm_H} {Q : gm_R → gm_H → Prop} {lv : List Value} : gm_W E d 23 249 lv st h Q ↔ gm_W E d 23 250 lv (.int (0 : Int32) :: st) h Q := gw_pure m23 f23_249 rfl
theorem f23_250 : gm_ft 23 250 = some (.putfield 166, 3) := by decide +kernel
theorem r23_250 {E : Nat → Value} {d : Nat} {st : List Value} {h : gm_H} {Q : gm_R → gm_H → Prop} {lv : List Value} {a : Nat} {x : Int32} (hk : gm_kd h a = 5) : gm_W E d 23 250 lv (.int x :: .ref a :: st) h Q ↔ gm_W E d 23 253 lv st (gm_sf h a 28 (.int x)) Q := gw_wr m23 f23_250 rfl rfl rfl rfl rfl (gs_put k5_166 hk (by decide) (by decide) ⟨rfl, rfl⟩ (by decide))
theorem f23_253 : gm_ft 23 253 = some (.goto 57, 3) := by decide +kernel
theorem r23_253 {E : Nat → Value} {d : Nat} {st : List Value} {h : gm_H} {Q : gm_R → gm_H → Prop} {lv : List Value} : gm_W E d 23 253 lv st h Q ↔ gm_W E d 23 310 lv st h Q := gw_brT m23 f23_253 rfl rfl rfl rfl
theorem f23_256 : gm_ft 23 256 = some (.iload_n 2, 1) := by decide +kernel
theorem r23_256 {E : Nat → Value} {d : Nat} {st : List Value} {h : gm_H} {Q : gm_R → gm_H → Prop} {a0 a1 a3 a4 a5 : Value} {x : Int32} : gm_W E d 23 256 [a0, a1, .int x, a3, a4, a5] st h Q ↔ gm_W E d 23 257 [a0, a1, .int x, a3, a4, a5] (.int x :: st) h Q := gw_loc m23 f23_256 rfl rfl
theorem f23_257 : gm_ft 23 257 = some (.bipush 123, 2) := by decide +kernel
theorem r23_257 {E : Nat → Value} {d : Nat} {st : List Value} {h : gm_H} {Q : gm_R → gm_H → Prop} {lv : List Value} : gm_W E d 23 257 lv st h Q ↔ gm_W E d 23 259 lv (.int (123 : Int32) :: st) h Q := gw_pure m23 f23_257 rfl
theorem f23_259 : gm_ft 23 259 = some (.if_icmp .ne 12, 3) := by decide +kernel
theorem r23_259 {E : Nat → Value} {d : Nat} {st : List Value} {h : gm_H} {Q : gm_R → gm_H → Prop} {lv : List Value} {x y : Int32} : gm_W E d 23 259 lv (.int y :: .int x :: st) h Q ↔ (if x = y then gm_W E d 23 262 lv st h Q else gm_W E d 23 271 lv st h Q) := (gw_br m23 f23_259 rfl rfl rfl rfl).trans gw_ifn
theorem f23_262 : gm_ft 23 262 = some (.aload_n 0, 1) := by decide +kernel
theorem r23_262 {E : Nat → Value} {d : Nat} {st : List Value} {h : gm_H} {Q : gm_R → gm_H → Prop} {a1 a2 a3 a4 a5 : Value} {x : Nat} : gm_W E d 23 262 [.ref x, a1, a2, a3, a4, a5] st h Q ↔ gm_W E d 23 263 [.ref x, a1, a2, a3, a4, a5] (.ref x :: st) h Q := gw_loc m23 f23_262 rfl rfl
theorem r23_262n {E : Nat → Value} {d : Nat} {st : List Value} {h : gm_H} {Q : gm_R → gm_H → Prop} {a1 a2 a3 a4 a5 : Value}  : gm_W E d 23 262 [.null, a1, a2, a3, a4, a5] st h Q ↔ gm_W E d 23 263 [.null, a1, a2, a3, a4, a5] (.null :: st) h Q := gw_loc m23 f23_262 rfl rfl
theorem f23_263 : gm_ft 23 263 = some (.bipush (-10), 2) := by decide +kernel
theorem r23_263 {E : Nat → Value} {d : Nat} {st : List Value} {h : gm_H} {Q : gm_R → gm_H → Prop} {lv : List Value} : gm_W E d 23 263 lv st h Q ↔ gm_W E d 23 265 lv (.int (-10 : Int32) :: st) h Q := gw_pure m23 f23_263 rfl
theorem f23_265 : gm_ft 23 265 = some (.invokevirtual 151, 3) := by decide +kernel
theorem c23_265 {E : Nat → Value} {d : Nat} {st : List Value} {h : gm_H} {Q : gm_R → gm_H → Prop} {lv : List Value} {b0 : Int32} {a : Nat} {Qc : gm_R → gm_H → Prop} (hs : (st.map fun v => v.category).sum ≤ 8) (hr : gm_kd h a = 5) (hd : 1 ≤ d) (hc : gm_Ca E (d - 1) 10 [.ref a, .int b0] h Qc) (kn : ∀ (v9 : Option Value) (h9 : gm_H), Qc (.inl v9) h9 → gm_W E d 23 268 lv (v9.toList ++ st) h9 Q) (kx : ∀ (x9 : Nat) (h9 : gm_H), Qc (.inr x9) h9 → Q (.inr x9) h9) : gm_W E d 23 265 lv (.int b0 :: .ref a :: st) h Q := gw_call (gn_call m23 f23_265 rfl rfl rfl rfl rfl rfl rfl (gs_virt (bs := [.int b0]) (w := 844) (L := 2) rfl rfl rfl rfl hs (by simp [gm_en1]) hr (by decide)) (by decide)) m23 rfl rfl hd hc kn kx
theorem f23_268 : gm_ft 23 268 = some (.goto 42, 3) := by decide +kernel
theorem r23_268 {E : Nat → Value} {d : Nat} {st : List Value} {h : gm_H} {Q : gm_R → gm_H → Prop} {lv : List Value} : gm_W E d 23 268 lv st h Q ↔ gm_W E d 23 310 lv st h Q := gw_brT m23 f23_268 rfl rfl rfl rfl
theorem f23_271 : gm_ft 23 271 = some (.aload_n 0, 1) := by decide +kernel
theorem r23_271 {E : Nat → Value} {d : Nat} {st : List Value} {h : gm_H} {Q : gm_R → gm_H → Prop} {a1 a2 a3 a4 a5 : Value} {x : Nat} : gm_W E d 23 271 [.ref x, a1, a2, a3, a4, a5] st h Q ↔ gm_W E d 23 272 [.ref x, a1, a2, a3, a4, a5] (.ref x :: st) h Q := gw_loc m23 f23_271 rfl rfl
theorem r23_271n {E : Nat → Value} {d : Nat} {st : List Value} {h : gm_H} {Q : gm_R → gm_H → Prop} {a1 a2 a3 a4 a5 : Value}  : gm_W E d 23 271 [.null, a1, a2, a3, a4, a5] st h Q ↔ gm_W E d 23 272 [.null, a1, a2, a3, a4, a5] (.null :: st) h Q := gw_loc m23 f23_271 rfl rfl
theorem f23_272 : gm_ft 23 272 = some (.aload_n 0, 1) := by decide +kernel
theorem r23_272 {E : Nat → Value} {d : Nat} {st : List Value} {h : gm_H} {Q : gm_R → gm_H → Prop} {a1 a2 a3 a4 a5 : Value} {x : Nat} : gm_W E d 23 272 [.ref x, a1, a2, a3, a4, a5] st h Q ↔ gm_W E d 23 273 [.ref x, a1, a2, a3, a4, a5] (.ref x :: st) h Q := gw_loc m23 f23_272 rfl rfl
theorem r23_272n {E : Nat → Value} {d : Nat} {st : List Value} {h : gm_H} {Q : gm_R → gm_H → Prop} {a1 a2 a3 a4 a5 : Value}  : gm_W E d 23 272 [.null, a1, a2, a3, a4, a5] st h Q ↔ gm_W E d 23 273 [.null, a1, a2, a3, a4, a5] (.null :: st) h Q := gw_loc m23 f23_272 rfl rfl
theorem f23_273 : gm_ft 23 273 = some (.getfield 99, 3) := by decide +kernel
theorem r23_273 {E : Nat → Value} {d : Nat} {st : List Value} {h : gm_H} {Q : gm_R → gm_H → Prop} {lv : List Value} {a : Nat} (hk : gm_kd h a = 5) : gm_W E d 23 273 lv (.ref a :: st) h Q ↔ gm_W E d 23 276 lv (gm_fv h a 42 :: st) h Q := gw_rd m23 f23_273 rfl rfl rfl rfl (gs_get k5_99 hk (by decide))
theorem f23_276 : gm_ft 23 276 = some (.iload_n 1, 1) := by decide +kernel
theorem r23_276 {E : Nat → Value} {d : Nat} {st : List Value} {h : gm_H} {Q : gm_R → gm_H → Prop} {a0 a2 a3 a4 a5 : Value} {x : Int32} : gm_W E d 23 276 [a0, .int x, a2, a3, a4, a5] st h Q ↔ gm_W E d 23 277 [a0, .int x, a2, a3, a4, a5] (.int x :: st) h Q := gw_loc m23 f23_276 rfl rfl
theorem f23_277 : gm_ft 23 277 = some (.iaload, 1) := by decide +kernel
theorem r23_277 {E : Nat → Value} {d : Nat} {st : List Value} {h : gm_H} {Q : gm_R → gm_H → Prop} {lv : List Value} {a j : Nat} (hk : gm_kd h a % 100 = 0 ∧ 100 ≤ gm_kd h a ∧ gm_kd h a < 900) (hj : j < gm_ln h a) (hl : gm_ln h a < 2 ^ 31) : gm_W E d 23 277 lv (.int (nI j) :: .ref a :: st) h Q ↔ gm_W E d 23 278 lv (gm_fv h a j :: st) h Q := gw_rd m23 f23_277 rfl rfl rfl rfl (gs_ld (P := fun t => t == 0) hk.2 (by have := hk.1; simp [this] <;> omega) hj hl)
theorem f23_278 : gm_ft 23 278 = some (.iconst 1, 1) := by decide +kernel
theorem r23_278 {E : Nat → Value} {d : Nat} {st : List Value} {h : gm_H} {Q : gm_R → gm_H → Prop} {lv : List Value} : gm_W E d 23 278 lv st h Q ↔ gm_W E d 23 279 lv (.int (1 : Int32) :: st) h Q := gw_pure m23 f23_278 rfl
theorem f23_279 : gm_ft 23 279 = some (.if_icmp .ne 26, 3) := by decide +kernel
theorem r23_279 {E : Nat → Value} {d : Nat} {st : List Value} {h : gm_H} {Q : gm_R → gm_H → Prop} {lv : List Value} {x y : Int32} : gm_W E d 23 279 lv (.int y :: .int x :: st) h Q ↔ (if x = y then gm_W E d 23 282 lv st h Q else gm_W E d 23 305 lv st h Q) := (gw_br m23 f23_279 rfl rfl rfl rfl).trans gw_ifn
theorem f23_282 : gm_ft 23 282 = some (.iload_n 2, 1) := by decide +kernel
theorem r23_282 {E : Nat → Value} {d : Nat} {st : List Value} {h : gm_H} {Q : gm_R → gm_H → Prop} {a0 a1 a3 a4 a5 : Value} {x : Int32} : gm_W E d 23 282 [a0, a1, .int x, a3, a4, a5] st h Q ↔ gm_W E d 23 283 [a0, a1, .int x, a3, a4, a5] (.int x :: st) h Q := gw_loc m23 f23_282 rfl rfl
theorem f23_283 : gm_ft 23 283 = some (.bipush 119, 2) := by decide +kernel
theorem r23_283 {E : Nat → Value} {d : Nat} {st : List Value} {h : gm_H} {Q : gm_R → gm_H → Prop} {lv : List Value} : gm_W E d 23 283 lv st h Q ↔ gm_W E d 23 285 lv (.int (119 : Int32) :: st) h Q := gw_pure m23 f23_283 rfl
theorem f23_285 : gm_ft 23 285 = some (.if_icmp .eq 15, 3) := by decide +kernel
theorem r23_285 {E : Nat → Value} {d : Nat} {st : List Value} {h : gm_H} {Q : gm_R → gm_H → Prop} {lv : List Value} {x y : Int32} : gm_W E d 23 285 lv (.int y :: .int x :: st) h Q ↔ (if x = y then gm_W E d 23 300 lv st h Q else gm_W E d 23 288 lv st h Q) := (gw_br m23 f23_285 rfl rfl rfl rfl).trans gw_if
theorem f23_288 : gm_ft 23 288 = some (.iload_n 2, 1) := by decide +kernel
theorem r23_288 {E : Nat → Value} {d : Nat} {st : List Value} {h : gm_H} {Q : gm_R → gm_H → Prop} {a0 a1 a3 a4 a5 : Value} {x : Int32} : gm_W E d 23 288 [a0, a1, .int x, a3, a4, a5] st h Q ↔ gm_W E d 23 289 [a0, a1, .int x, a3, a4, a5] (.int x :: st) h Q := gw_loc m23 f23_288 rfl rfl
theorem f23_289 : gm_ft 23 289 = some (.bipush 120, 2) := by decide +kernel
theorem r23_289 {E : Nat → Value} {d : Nat} {st : List Value} {h : gm_H} {Q : gm_R → gm_H → Prop} {lv : List Value} : gm_W E d 23 289 lv st h Q ↔ gm_W E d 23 291 lv (.int (120 : Int32) :: st) h Q := gw_pure m23 f23_289 rfl
theorem f23_291 : gm_ft 23 291 = some (.if_icmp .eq 9, 3) := by decide +kernel
theorem r23_291 {E : Nat → Value} {d : Nat} {st : List Value} {h : gm_H} {Q : gm_R → gm_H → Prop} {lv : List Value} {x y : Int32} : gm_W E d 23 291 lv (.int y :: .int x :: st) h Q ↔ (if x = y then gm_W E d 23 300 lv st h Q else gm_W E d 23 294 lv st h Q) := (gw_br m23 f23_291 rfl rfl rfl rfl).trans gw_if
theorem f23_294 : gm_ft 23 294 = some (.iload_n 2, 1) := by decide +kernel
theorem r23_294 {E : Nat → Value} {d : Nat} {st : List Value} {h : gm_H} {Q : gm_R → gm_H → Prop} {a0 a1 a3 a4 a5 : Value} {x : Int32} : gm_W E d 23 294 [a0, a1, .int x, a3, a4, a5] st h Q ↔ gm_W E d 23 295 [a0, a1, .int x, a3, a4, a5] (.int x :: st) h Q := gw_loc m23 f23_294 rfl rfl
theorem f23_295 : gm_ft 23 295 = some (.bipush 122, 2) := by decide +kernel
theorem r23_295 {E : Nat → Value} {d : Nat} {st : List Value} {h : gm_H} {Q : gm_R → gm_H → Prop} {lv : List Value} : gm_W E d 23 295 lv st h Q ↔ gm_W E d 23 297 lv (.int (122 : Int32) :: st) h Q := gw_pure m23 f23_295 rfl
theorem f23_297 : gm_ft 23 297 = some (.if_icmp .ne 8, 3) := by decide +kernel
theorem r23_297 {E : Nat → Value} {d : Nat} {st : List Value} {h : gm_H} {Q : gm_R → gm_H → Prop} {lv : List Value} {x y : Int32} : gm_W E d 23 297 lv (.int y :: .int x :: st) h Q ↔ (if x = y then gm_W E d 23 300 lv st h Q else gm_W E d 23 305 lv st h Q) := (gw_br m23 f23_297 rfl rfl rfl rfl).trans gw_ifn
theorem f23_300 : gm_ft 23 300 = some (.bipush (-7), 2) := by decide +kernel
theorem r23_300 {E : Nat → Value} {d : Nat} {st : List Value} {h : gm_H} {Q : gm_R → gm_H → Prop} {lv : List Value} : gm_W E d 23 300 lv st h Q ↔ gm_W E d 23 302 lv (.int (-7 : Int32) :: st) h Q := gw_pure m23 f23_300 rfl
theorem f23_302 : gm_ft 23 302 = some (.goto 5, 3) := by decide +kernel
theorem r23_302 {E : Nat → Value} {d : Nat} {st : List Value} {h : gm_H} {Q : gm_R → gm_H → Prop} {lv : List Value} : gm_W E d 23 302 lv st h Q ↔ gm_W E d 23 307 lv st h Q := gw_brT m23 f23_302 rfl rfl rfl rfl
theorem f23_305 : gm_ft 23 305 = some (.bipush (-4), 2) := by decide +kernel
theorem r23_305 {E : Nat → Value} {d : Nat} {st : List Value} {h : gm_H} {Q : gm_R → gm_H → Prop} {lv : List Value} : gm_W E d 23 305 lv st h Q ↔ gm_W E d 23 307 lv (.int (-4 : Int32) :: st) h Q := gw_pure m23 f23_305 rfl
theorem f23_307 : gm_ft 23 307 = some (.invokevirtual 151, 3) := by decide +kernel
theorem c23_307 {E : Nat → Value} {d : Nat} {st : List Value} {h : gm_H} {Q : gm_R → gm_H → Prop} {lv : List Value} {b0 : Int32} {a : Nat} {Qc : gm_R → gm_H → Prop} (hs : (st.map fun v => v.category).sum ≤ 8) (hr : gm_kd h a = 5) (hd : 1 ≤ d) (hc : gm_Ca E (d - 1) 10 [.ref a, .int b0] h Qc) (kn : ∀ (v9 : Option Value) (h9 : gm_H), Qc (.inl v9) h9 → gm_W E d 23 310 lv (v9.toList ++ st) h9 Q) (kx : ∀ (x9 : Nat) (h9 : gm_H), Qc (.inr x9) h9 → Q (.inr x9) h9) : gm_W E d 23 307 lv (.int b0 :: .ref a :: st) h Q := gw_call (gn_call m23 f23_307 rfl rfl rfl rfl rfl rfl rfl (gs_virt (bs := [.int b0]) (w := 844) (L := 2) rfl rfl rfl rfl hs (by simp [gm_en1]) hr (by decide)) (by decide)) m23 rfl rfl hd hc kn kx
theorem f23_310 : gm_ft 23 310 = some (.return_, 1) := by decide +kernel
theorem r23_310 {E : Nat → Value} {d : Nat} {h : gm_H} {Q : gm_R → gm_H → Prop} {lv : List Value} : gm_W E d 23 310 lv [] h Q ↔ Q (.inl none) h := gw_ret m23 f23_310 rfl rfl rfl rfl rfl rfl rfl rfl rfl
/-! GraphReaderModel.newInstance(I)V -/
theorem m24 : gm_mt[24]? = some (⟨"GraphReaderModel", "newInstance", "(I)V"⟩, prog_7_method_23_code, 9, none, [], 5, 2) := rfl
theorem f24_0 : gm_ft 24 0 = some (.aload_n 0, 1) := by decide +kernel
theorem r24_0 {E : Nat → Value} {d : Nat} {st : List Value} {h : gm_H} {Q : gm_R → gm_H → Prop} {a1 a2 a3 a4 a5 a6 a7 a8 : Value} {x : Nat} : gm_W E d 24 0 [.ref x, a1, a2, a3, a4, a5, a6, a7, a8] st h Q ↔ gm_W E d 24 1 [.ref x, a1, a2, a3, a4, a5, a6, a7, a8] (.ref x :: st) h Q := gw_loc m24 f24_0 rfl rfl
theorem r24_0n {E : Nat → Value} {d : Nat} {st : List Value} {h : gm_H} {Q : gm_R → gm_H → Prop} {a1 a2 a3 a4 a5 a6 a7 a8 : Value}  : gm_W E d 24 0 [.null, a1, a2, a3, a4, a5, a6, a7, a8] st h Q ↔ gm_W E d 24 1 [.null, a1, a2, a3, a4, a5, a6, a7, a8] (.null :: st) h Q := gw_loc m24 f24_0 rfl rfl
theorem f24_1 : gm_ft 24 1 = some (.getfield 178, 3) := by decide +kernel
theorem r24_1 {E : Nat → Value} {d : Nat} {st : List Value} {h : gm_H} {Q : gm_R → gm_H → Prop} {lv : List Value} {a : Nat} (hk : gm_kd h a = 5) : gm_W E d 24 1 lv (.ref a :: st) h Q ↔ gm_W E d 24 4 lv (gm_fv h a 9 :: st) h Q := gw_rd m24 f24_1 rfl rfl rfl rfl (gs_get k5_178 hk (by decide))
theorem f24_4 : gm_ft 24 4 = some (.istore_n 2, 1) := by decide +kernel
theorem r24_4 {E : Nat → Value} {d : Nat} {st : List Value} {h : gm_H} {Q : gm_R → gm_H → Prop} {a0 a1 a2 a3 a4 a5 a6 a7 a8 : Value} {x : Int32} : gm_W E d 24 4 [a0, a1, a2, a3, a4, a5, a6, a7, a8] (.int x :: st) h Q ↔ gm_W E d 24 5 [a0, gm_k a1, .int x, a3, a4, a5, a6, a7, a8] st h Q := gw_loc m24 f24_4 rfl rfl
theorem f24_5 : gm_ft 24 5 = some (.iload_n 2, 1) := by decide +kernel
theorem r24_5 {E : Nat → Value} {d : Nat} {st : List Value} {h : gm_H} {Q : gm_R → gm_H → Prop} {a0 a1 a3 a4 a5 a6 a7 a8 : Value} {x : Int32} : gm_W E d 24 5 [a0, a1, .int x, a3, a4, a5, a6, a7, a8] st h Q ↔ gm_W E d 24 6 [a0, a1, .int x, a3, a4, a5, a6, a7, a8] (.int x :: st) h Q := gw_loc m24 f24_5 rfl rfl
theorem f24_6 : gm_ft 24 6 = some (.bipush (-2), 2) := by decide +kernel
theorem r24_6 {E : Nat → Value} {d : Nat} {st : List Value} {h : gm_H} {Q : gm_R → gm_H → Prop} {lv : List Value} : gm_W E d 24 6 lv st h Q ↔ gm_W E d 24 8 lv (.int (-2 : Int32) :: st) h Q := gw_pure m24 f24_6 rfl
theorem f24_8 : gm_ft 24 8 = some (.if_icmp .ne 9, 3) := by decide +kernel
theorem r24_8 {E : Nat → Value} {d : Nat} {st : List Value} {h : gm_H} {Q : gm_R → gm_H → Prop} {lv : List Value} {x y : Int32} : gm_W E d 24 8 lv (.int y :: .int x :: st) h Q ↔ (if x = y then gm_W E d 24 11 lv st h Q else gm_W E d 24 17 lv st h Q) := (gw_br m24 f24_8 rfl rfl rfl rfl).trans gw_ifn
theorem f24_11 : gm_ft 24 11 = some (.aload_n 0, 1) := by decide +kernel
theorem r24_11 {E : Nat → Value} {d : Nat} {st : List Value} {h : gm_H} {Q : gm_R → gm_H → Prop} {a1 a2 a3 a4 a5 a6 a7 a8 : Value} {x : Nat} : gm_W E d 24 11 [.ref x, a1, a2, a3, a4, a5, a6, a7, a8] st h Q ↔ gm_W E d 24 12 [.ref x, a1, a2, a3, a4, a5, a6, a7, a8] (.ref x :: st) h Q := gw_loc m24 f24_11 rfl rfl
theorem r24_11n {E : Nat → Value} {d : Nat} {st : List Value} {h : gm_H} {Q : gm_R → gm_H → Prop} {a1 a2 a3 a4 a5 a6 a7 a8 : Value}  : gm_W E d 24 11 [.null, a1, a2, a3, a4, a5, a6, a7, a8] st h Q ↔ gm_W E d 24 12 [.null, a1, a2, a3, a4, a5, a6, a7, a8] (.null :: st) h Q := gw_loc m24 f24_11 rfl rfl
theorem f24_12 : gm_ft 24 12 = some (.bipush (-4), 2) := by decide +kernel
theorem r24_12 {E : Nat → Value} {d : Nat} {st : List Value} {h : gm_H} {Q : gm_R → gm_H → Prop} {lv : List Value} : gm_W E d 24 12 lv st h Q ↔ gm_W E d 24 14 lv (.int (-4 : Int32) :: st) h Q := gw_pure m24 f24_12 rfl
theorem f24_14 : gm_ft 24 14 = some (.invokevirtual 151, 3) := by decide +kernel
theorem c24_14 {E : Nat → Value} {d : Nat} {st : List Value} {h : gm_H} {Q : gm_R → gm_H → Prop} {lv : List Value} {b0 : Int32} {a : Nat} {Qc : gm_R → gm_H → Prop} (hs : (st.map fun v => v.category).sum ≤ 8) (hr : gm_kd h a = 5) (hd : 1 ≤ d) (hc : gm_Ca E (d - 1) 10 [.ref a, .int b0] h Qc) (kn : ∀ (v9 : Option Value) (h9 : gm_H), Qc (.inl v9) h9 → gm_W E d 24 17 lv (v9.toList ++ st) h9 Q) (kx : ∀ (x9 : Nat) (h9 : gm_H), Qc (.inr x9) h9 → Q (.inr x9) h9) : gm_W E d 24 14 lv (.int b0 :: .ref a :: st) h Q := gw_call (gn_call m24 f24_14 rfl rfl rfl rfl rfl rfl rfl (gs_virt (bs := [.int b0]) (w := 844) (L := 2) rfl rfl rfl rfl hs (by simp [gm_en1]) hr (by decide)) (by decide)) m24 rfl rfl hd hc kn kx
theorem f24_17 : gm_ft 24 17 = some (.aload_n 0, 1) := by decide +kernel
theorem r24_17 {E : Nat → Value} {d : Nat} {st : List Value} {h : gm_H} {Q : gm_R → gm_H → Prop} {a1 a2 a3 a4 a5 a6 a7 a8 : Value} {x : Nat} : gm_W E d 24 17 [.ref x, a1, a2, a3, a4, a5, a6, a7, a8] st h Q ↔ gm_W E d 24 18 [.ref x, a1, a2, a3, a4, a5, a6, a7, a8] (.ref x :: st) h Q := gw_loc m24 f24_17 rfl rfl
theorem r24_17n {E : Nat → Value} {d : Nat} {st : List Value} {h : gm_H} {Q : gm_R → gm_H → Prop} {a1 a2 a3 a4 a5 a6 a7 a8 : Value}  : gm_W E d 24 17 [.null, a1, a2, a3, a4, a5, a6, a7, a8] st h Q ↔ gm_W E d 24 18 [.null, a1, a2, a3, a4, a5, a6, a7, a8] (.null :: st) h Q := gw_loc m24 f24_17 rfl rfl
theorem f24_18 : gm_ft 24 18 = some (.getfield 145, 3) := by decide +kernel
theorem r24_18 {E : Nat → Value} {d : Nat} {st : List Value} {h : gm_H} {Q : gm_R → gm_H → Prop} {lv : List Value} {a : Nat} (hk : gm_kd h a = 5) : gm_W E d 24 18 lv (.ref a :: st) h Q ↔ gm_W E d 24 21 lv (gm_fv h a 8 :: st) h Q := gw_rd m24 f24_18 rfl rfl rfl rfl (gs_get k5_145 hk (by decide))
theorem f24_21 : gm_ft 24 21 = some (.ifCond .ne 18, 3) := by decide +kernel
theorem r24_21 {E : Nat → Value} {d : Nat} {st : List Value} {h : gm_H} {Q : gm_R → gm_H → Prop} {lv : List Value} {x : Int32} : gm_W E d 24 21 lv (.int x :: st) h Q ↔ (if x = 0 then gm_W E d 24 24 lv st h Q else gm_W E d 24 39 lv st h Q) := (gw_br m24 f24_21 rfl rfl rfl rfl).trans gw_ifn
theorem f24_24 : gm_ft 24 24 = some (.aload_n 0, 1) := by decide +kernel
theorem r24_24 {E : Nat → Value} {d : Nat} {st : List Value} {h : gm_H} {Q : gm_R → gm_H → Prop} {a1 a2 a3 a4 a5 a6 a7 a8 : Value} {x : Nat} : gm_W E d 24 24 [.ref x, a1, a2, a3, a4, a5, a6, a7, a8] st h Q ↔ gm_W E d 24 25 [.ref x, a1, a2, a3, a4, a5, a6, a7, a8] (.ref x :: st) h Q := gw_loc m24 f24_24 rfl rfl
theorem r24_24n {E : Nat → Value} {d : Nat} {st : List Value} {h : gm_H} {Q : gm_R → gm_H → Prop} {a1 a2 a3 a4 a5 a6 a7 a8 : Value}  : gm_W E d 24 24 [.null, a1, a2, a3, a4, a5, a6, a7, a8] st h Q ↔ gm_W E d 24 25 [.null, a1, a2, a3, a4, a5, a6, a7, a8] (.null :: st) h Q := gw_loc m24 f24_24 rfl rfl
theorem f24_25 : gm_ft 24 25 = some (.aload_n 0, 1) := by decide +kernel
theorem r24_25 {E : Nat → Value} {d : Nat} {st : List Value} {h : gm_H} {Q : gm_R → gm_H → Prop} {a1 a2 a3 a4 a5 a6 a7 a8 : Value} {x : Nat} : gm_W E d 24 25 [.ref x, a1, a2, a3, a4, a5, a6, a7, a8] st h Q ↔ gm_W E d 24 26 [.ref x, a1, a2, a3, a4, a5, a6, a7, a8] (.ref x :: st) h Q := gw_loc m24 f24_25 rfl rfl
theorem r24_25n {E : Nat → Value} {d : Nat} {st : List Value} {h : gm_H} {Q : gm_R → gm_H → Prop} {a1 a2 a3 a4 a5 a6 a7 a8 : Value}  : gm_W E d 24 25 [.null, a1, a2, a3, a4, a5, a6, a7, a8] st h Q ↔ gm_W E d 24 26 [.null, a1, a2, a3, a4, a5, a6, a7, a8] (.null :: st) h Q := gw_loc m24 f24_25 rfl rfl
theorem f24_26 : gm_ft 24 26 = some (.getfield 99, 3) := by decide +kernel
theorem r24_26 {E : Nat → Value} {d : Nat} {st : List Value} {h : gm_H} {Q : gm_R → gm_H → Prop} {lv : List Value} {a : Nat} (hk : gm_kd h a = 5) : gm_W E d 24 26 lv (.ref a :: st) h Q ↔ gm_W E d 24 29 lv (gm_fv h a 42 :: st) h Q := gw_rd m24 f24_26 rfl rfl rfl rfl (gs_get k5_99 hk (by decide))
theorem f24_29 : gm_ft 24 29 = some (.iload_n 1, 1) := by decide +kernel
theorem r24_29 {E : Nat → Value} {d : Nat} {st : List Value} {h : gm_H} {Q : gm_R → gm_H → Prop} {a0 a2 a3 a4 a5 a6 a7 a8 : Value} {x : Int32} : gm_W E d 24 29 [a0, .int x, a2, a3, a4, a5, a6, a7, a8] st h Q ↔ gm_W E d 24 30 [a0, .int x, a2, a3, a4, a5, a6, a7, a8] (.int x :: st) h Q := gw_loc m24 f24_29 rfl rfl
theorem f24_30 : gm_ft 24 30 = some (.iaload, 1) := by decide +kernel
theorem r24_30 {E : Nat → Value} {d : Nat} {st : List Value} {h : gm_H} {Q : gm_R → gm_H → Prop} {lv : List Value} {a j : Nat} (hk : gm_kd h a % 100 = 0 ∧ 100 ≤ gm_kd h a ∧ gm_kd h a < 900) (hj : j < gm_ln h a) (hl : gm_ln h a < 2 ^ 31) : gm_W E d 24 30 lv (.int (nI j) :: .ref a :: st) h Q ↔ gm_W E d 24 31 lv (gm_fv h a j :: st) h Q := gw_rd m24 f24_30 rfl rfl rfl rfl (gs_ld (P := fun t => t == 0) hk.2 (by have := hk.1; simp [this] <;> omega) hj hl)
theorem f24_31 : gm_ft 24 31 = some (.iconst 0, 1) := by decide +kernel
theorem r24_31 {E : Nat → Value} {d : Nat} {st : List Value} {h : gm_H} {Q : gm_R → gm_H → Prop} {lv : List Value} : gm_W E d 24 31 lv st h Q ↔ gm_W E d 24 32 lv (.int (0 : Int32) :: st) h Q := gw_pure m24 f24_31 rfl
theorem f24_32 : gm_ft 24 32 = some (.iload_n 2, 1) := by decide +kernel
theorem r24_32 {E : Nat → Value} {d : Nat} {st : List Value} {h : gm_H} {Q : gm_R → gm_H → Prop} {a0 a1 a3 a4 a5 a6 a7 a8 : Value} {x : Int32} : gm_W E d 24 32 [a0, a1, .int x, a3, a4, a5, a6, a7, a8] st h Q ↔ gm_W E d 24 33 [a0, a1, .int x, a3, a4, a5, a6, a7, a8] (.int x :: st) h Q := gw_loc m24 f24_32 rfl rfl
theorem f24_33 : gm_ft 24 33 = some (.invokevirtual 204, 3) := by decide +kernel
theorem c24_33 {E : Nat → Value} {d : Nat} {st : List Value} {h : gm_H} {Q : gm_R → gm_H → Prop} {lv : List Value} {b0 : Int32} {b1 : Int32} {b2 : Int32} {a : Nat} {Qc : gm_R → gm_H → Prop} (hs : (st.map fun v => v.category).sum ≤ 8) (hr : gm_kd h a = 5) (hd : 1 ≤ d) (hc : gm_Ca E (d - 1) 19 [.ref a, .int b0, .int b1, .int b2] h Qc) (kn : ∀ (v9 : Option Value) (h9 : gm_H), Qc (.inl v9) h9 → gm_W E d 24 36 lv (v9.toList ++ st) h9 Q) (kx : ∀ (x9 : Nat) (h9 : gm_H), Qc (.inr x9) h9 → Q (.inr x9) h9) : gm_W E d 24 33 lv (.int b2 :: .int b1 :: .int b0 :: .ref a :: st) h Q := gw_call (gn_call m24 f24_33 rfl rfl rfl rfl rfl rfl rfl (gs_virt (bs := [.int b2, .int b1, .int b0]) (w := 901) (L := 5) rfl rfl rfl rfl hs (by simp [gm_en1]) hr (by decide)) (by decide)) m24 rfl rfl hd hc kn kx
theorem f24_36 : gm_ft 24 36 = some (.ifCond .ne 4, 3) := by decide +kernel
theorem r24_36 {E : Nat → Value} {d : Nat} {st : List Value} {h : gm_H} {Q : gm_R → gm_H → Prop} {lv : List Value} {x : Int32} : gm_W E d 24 36 lv (.int x :: st) h Q ↔ (if x = 0 then gm_W E d 24 39 lv st h Q else gm_W E d 24 40 lv st h Q) := (gw_br m24 f24_36 rfl rfl rfl rfl).trans gw_ifn
theorem f24_39 : gm_ft 24 39 = some (.return_, 1) := by decide +kernel
theorem r24_39 {E : Nat → Value} {d : Nat} {h : gm_H} {Q : gm_R → gm_H → Prop} {lv : List Value} : gm_W E d 24 39 lv [] h Q ↔ Q (.inl none) h := gw_ret m24 f24_39 rfl rfl rfl rfl rfl rfl rfl rfl rfl
theorem f24_40 : gm_ft 24 40 = some (.aload_n 0, 1) := by decide +kernel
theorem r24_40 {E : Nat → Value} {d : Nat} {st : List Value} {h : gm_H} {Q : gm_R → gm_H → Prop} {a1 a2 a3 a4 a5 a6 a7 a8 : Value} {x : Nat} : gm_W E d 24 40 [.ref x, a1, a2, a3, a4, a5, a6, a7, a8] st h Q ↔ gm_W E d 24 41 [.ref x, a1, a2, a3, a4, a5, a6, a7, a8] (.ref x :: st) h Q := gw_loc m24 f24_40 rfl rfl
theorem r24_40n {E : Nat → Value} {d : Nat} {st : List Value} {h : gm_H} {Q : gm_R → gm_H → Prop} {a1 a2 a3 a4 a5 a6 a7 a8 : Value}  : gm_W E d 24 40 [.null, a1, a2, a3, a4, a5, a6, a7, a8] st h Q ↔ gm_W E d 24 41 [.null, a1, a2, a3, a4, a5, a6, a7, a8] (.null :: st) h Q := gw_loc m24 f24_40 rfl rfl
theorem f24_41 : gm_ft 24 41 = some (.getfield 69, 3) := by decide +kernel
theorem r24_41 {E : Nat → Value} {d : Nat} {st : List Value} {h : gm_H} {Q : gm_R → gm_H → Prop} {lv : List Value} {a : Nat} (hk : gm_kd h a = 5) : gm_W E d 24 41 lv (.ref a :: st) h Q ↔ gm_W E d 24 44 lv (gm_fv h a 31 :: st) h Q := gw_rd m24 f24_41 rfl rfl rfl rfl (gs_get k5_69 hk (by decide))
theorem f24_44 : gm_ft 24 44 = some (.iload_n 2, 1) := by decide +kernel
theorem r24_44 {E : Nat → Value} {d : Nat} {st : List Value} {h : gm_H} {Q : gm_R → gm_H → Prop} {a0 a1 a3 a4 a5 a6 a7 a8 : Value} {x : Int32} : gm_W E d 24 44 [a0, a1, .int x, a3, a4, a5, a6, a7, a8] st h Q ↔ gm_W E d 24 45 [a0, a1, .int x, a3, a4, a5, a6, a7, a8] (.int x :: st) h Q := gw_loc m24 f24_44 rfl rfl
theorem f24_45 : gm_ft 24 45 = some (.iaload, 1) := by decide +kernel
theorem r24_45 {E : Nat → Value} {d : Nat} {st : List Value} {h : gm_H} {Q : gm_R → gm_H → Prop} {lv : List Value} {a j : Nat} (hk : gm_kd h a % 100 = 0 ∧ 100 ≤ gm_kd h a ∧ gm_kd h a < 900) (hj : j < gm_ln h a) (hl : gm_ln h a < 2 ^ 31) : gm_W E d 24 45 lv (.int (nI j) :: .ref a :: st) h Q ↔ gm_W E d 24 46 lv (gm_fv h a j :: st) h Q := gw_rd m24 f24_45 rfl rfl rfl rfl (gs_ld (P := fun t => t == 0) hk.2 (by have := hk.1; simp [this] <;> omega) hj hl)
theorem f24_46 : gm_ft 24 46 = some (.istore_n 3, 1) := by decide +kernel
theorem r24_46 {E : Nat → Value} {d : Nat} {st : List Value} {h : gm_H} {Q : gm_R → gm_H → Prop} {a0 a1 a2 a3 a4 a5 a6 a7 a8 : Value} {x : Int32} : gm_W E d 24 46 [a0, a1, a2, a3, a4, a5, a6, a7, a8] (.int x :: st) h Q ↔ gm_W E d 24 47 [a0, a1, gm_k a2, .int x, a4, a5, a6, a7, a8] st h Q := gw_loc m24 f24_46 rfl rfl
theorem f24_47 : gm_ft 24 47 = some (.aload_n 0, 1) := by decide +kernel
theorem r24_47 {E : Nat → Value} {d : Nat} {st : List Value} {h : gm_H} {Q : gm_R → gm_H → Prop} {a1 a2 a3 a4 a5 a6 a7 a8 : Value} {x : Nat} : gm_W E d 24 47 [.ref x, a1, a2, a3, a4, a5, a6, a7, a8] st h Q ↔ gm_W E d 24 48 [.ref x, a1, a2, a3, a4, a5, a6, a7, a8] (.ref x :: st) h Q := gw_loc m24 f24_47 rfl rfl
theorem r24_47n {E : Nat → Value} {d : Nat} {st : List Value} {h : gm_H} {Q : gm_R → gm_H → Prop} {a1 a2 a3 a4 a5 a6 a7 a8 : Value}  : gm_W E d 24 47 [.null, a1, a2, a3, a4, a5, a6, a7, a8] st h Q ↔ gm_W E d 24 48 [.null, a1, a2, a3, a4, a5, a6, a7, a8] (.null :: st) h Q := gw_loc m24 f24_47 rfl rfl
theorem f24_48 : gm_ft 24 48 = some (.getfield 75, 3) := by decide +kernel
theorem r24_48 {E : Nat → Value} {d : Nat} {st : List Value} {h : gm_H} {Q : gm_R → gm_H → Prop} {lv : List Value} {a : Nat} (hk : gm_kd h a = 5) : gm_W E d 24 48 lv (.ref a :: st) h Q ↔ gm_W E d 24 51 lv (gm_fv h a 33 :: st) h Q := gw_rd m24 f24_48 rfl rfl rfl rfl (gs_get k5_75 hk (by decide))
theorem f24_51 : gm_ft 24 51 = some (.iload_n 2, 1) := by decide +kernel
theorem r24_51 {E : Nat → Value} {d : Nat} {st : List Value} {h : gm_H} {Q : gm_R → gm_H → Prop} {a0 a1 a3 a4 a5 a6 a7 a8 : Value} {x : Int32} : gm_W E d 24 51 [a0, a1, .int x, a3, a4, a5, a6, a7, a8] st h Q ↔ gm_W E d 24 52 [a0, a1, .int x, a3, a4, a5, a6, a7, a8] (.int x :: st) h Q := gw_loc m24 f24_51 rfl rfl
theorem f24_52 : gm_ft 24 52 = some (.iaload, 1) := by decide +kernel
theorem r24_52 {E : Nat → Value} {d : Nat} {st : List Value} {h : gm_H} {Q : gm_R → gm_H → Prop} {lv : List Value} {a j : Nat} (hk : gm_kd h a % 100 = 0 ∧ 100 ≤ gm_kd h a ∧ gm_kd h a < 900) (hj : j < gm_ln h a) (hl : gm_ln h a < 2 ^ 31) : gm_W E d 24 52 lv (.int (nI j) :: .ref a :: st) h Q ↔ gm_W E d 24 53 lv (gm_fv h a j :: st) h Q := gw_rd m24 f24_52 rfl rfl rfl rfl (gs_ld (P := fun t => t == 0) hk.2 (by have := hk.1; simp [this] <;> omega) hj hl)
theorem f24_53 : gm_ft 24 53 = some (.bipush 16, 2) := by decide +kernel
theorem r24_53 {E : Nat → Value} {d : Nat} {st : List Value} {h : gm_H} {Q : gm_R → gm_H → Prop} {lv : List Value} : gm_W E d 24 53 lv st h Q ↔ gm_W E d 24 55 lv (.int (16 : Int32) :: st) h Q := gw_pure m24 f24_53 rfl
theorem f24_55 : gm_ft 24 55 = some (.iand, 1) := by decide +kernel
theorem r24_55 {E : Nat → Value} {d : Nat} {st : List Value} {h : gm_H} {Q : gm_R → gm_H → Prop} {lv : List Value} {x y : Int32} : gm_W E d 24 55 lv (.int y :: .int x :: st) h Q ↔ gm_W E d 24 56 lv (.int (x &&& y) :: st) h Q := gw_pure m24 f24_55 rfl
theorem f24_56 : gm_ft 24 56 = some (.ifCond .eq 12, 3) := by decide +kernel
theorem r24_56 {E : Nat → Value} {d : Nat} {st : List Value} {h : gm_H} {Q : gm_R → gm_H → Prop} {lv : List Value} {x : Int32} : gm_W E d 24 56 lv (.int x :: st) h Q ↔ (if x = 0 then gm_W E d 24 68 lv st h Q else gm_W E d 24 59 lv st h Q) := (gw_br m24 f24_56 rfl rfl rfl rfl).trans gw_if
theorem f24_59 : gm_ft 24 59 = some (.aload_n 0, 1) := by decide +kernel
theorem r24_59 {E : Nat → Value} {d : Nat} {st : List Value} {h : gm_H} {Q : gm_R → gm_H → Prop} {a1 a2 a3 a4 a5 a6 a7 a8 : Value} {x : Nat} : gm_W E d 24 59 [.ref x, a1, a2, a3, a4, a5, a6, a7, a8] st h Q ↔ gm_W E d 24 60 [.ref x, a1, a2, a3, a4, a5, a6, a7, a8] (.ref x :: st) h Q := gw_loc m24 f24_59 rfl rfl
theorem r24_59n {E : Nat → Value} {d : Nat} {st : List Value} {h : gm_H} {Q : gm_R → gm_H → Prop} {a1 a2 a3 a4 a5 a6 a7 a8 : Value}  : gm_W E d 24 59 [.null, a1, a2, a3, a4, a5, a6, a7, a8] st h Q ↔ gm_W E d 24 60 [.null, a1, a2, a3, a4, a5, a6, a7, a8] (.null :: st) h Q := gw_loc m24 f24_59 rfl rfl
theorem f24_60 : gm_ft 24 60 = some (.bipush (-5), 2) := by decide +kernel
theorem r24_60 {E : Nat → Value} {d : Nat} {st : List Value} {h : gm_H} {Q : gm_R → gm_H → Prop} {lv : List Value} : gm_W E d 24 60 lv st h Q ↔ gm_W E d 24 62 lv (.int (-5 : Int32) :: st) h Q := gw_pure m24 f24_60 rfl
theorem f24_62 : gm_ft 24 62 = some (.invokevirtual 151, 3) := by decide +kernel
theorem c24_62 {E : Nat → Value} {d : Nat} {st : List Value} {h : gm_H} {Q : gm_R → gm_H → Prop} {lv : List Value} {b0 : Int32} {a : Nat} {Qc : gm_R → gm_H → Prop} (hs : (st.map fun v => v.category).sum ≤ 8) (hr : gm_kd h a = 5) (hd : 1 ≤ d) (hc : gm_Ca E (d - 1) 10 [.ref a, .int b0] h Qc) (kn : ∀ (v9 : Option Value) (h9 : gm_H), Qc (.inl v9) h9 → gm_W E d 24 65 lv (v9.toList ++ st) h9 Q) (kx : ∀ (x9 : Nat) (h9 : gm_H), Qc (.inr x9) h9 → Q (.inr x9) h9) : gm_W E d 24 62 lv (.int b0 :: .ref a :: st) h Q := gw_call (gn_call m24 f24_62 rfl rfl rfl rfl rfl rfl rfl (gs_virt (bs := [.int b0]) (w := 844) (L := 2) rfl rfl rfl rfl hs (by simp [gm_en1]) hr (by decide)) (by decide)) m24 rfl rfl hd hc kn kx
theorem f24_65 : gm_ft 24 65 = some (.goto 41, 3) := by decide +kernel
theorem r24_65 {E : Nat → Value} {d : Nat} {st : List Value} {h : gm_H} {Q : gm_R → gm_H → Prop} {lv : List Value} : gm_W E d 24 65 lv st h Q ↔ gm_W E d 24 106 lv st h Q := gw_brT m24 f24_65 rfl rfl rfl rfl
theorem f24_68 : gm_ft 24 68 = some (.iload_n 3, 1) := by decide +kernel
theorem r24_68 {E : Nat → Value} {d : Nat} {st : List Value} {h : gm_H} {Q : gm_R → gm_H → Prop} {a0 a1 a2 a4 a5 a6 a7 a8 : Value} {x : Int32} : gm_W E d 24 68 [a0, a1, a2, .int x, a4, a5, a6, a7, a8] st h Q ↔ gm_W E d 24 69 [a0, a1, a2, .int x, a4, a5, a6, a7, a8] (.int x :: st) h Q := gw_loc m24 f24_68 rfl rfl
theorem f24_69 : gm_ft 24 69 = some (.ifCond .ge 12, 3) := by decide +kernel
theorem r24_69 {E : Nat → Value} {d : Nat} {st : List Value} {h : gm_H} {Q : gm_R → gm_H → Prop} {lv : List Value} {x : Int32} : gm_W E d 24 69 lv (.int x :: st) h Q ↔ (if 0 ≤ x then gm_W E d 24 81 lv st h Q else gm_W E d 24 72 lv st h Q) := (gw_br m24 f24_69 rfl rfl rfl rfl).trans gw_if
theorem f24_72 : gm_ft 24 72 = some (.aload_n 0, 1) := by decide +kernel
theorem r24_72 {E : Nat → Value} {d : Nat} {st : List Value} {h : gm_H} {Q : gm_R → gm_H → Prop} {a1 a2 a3 a4 a5 a6 a7 a8 : Value} {x : Nat} : gm_W E d 24 72 [.ref x, a1, a2, a3, a4, a5, a6, a7, a8] st h Q ↔ gm_W E d 24 73 [.ref x, a1, a2, a3, a4, a5, a6, a7, a8] (.ref x :: st) h Q := gw_loc m24 f24_72 rfl rfl
theorem r24_72n {E : Nat → Value} {d : Nat} {st : List Value} {h : gm_H} {Q : gm_R → gm_H → Prop} {a1 a2 a3 a4 a5 a6 a7 a8 : Value}  : gm_W E d 24 72 [.null, a1, a2, a3, a4, a5, a6, a7, a8] st h Q ↔ gm_W E d 24 73 [.null, a1, a2, a3, a4, a5, a6, a7, a8] (.null :: st) h Q := gw_loc m24 f24_72 rfl rfl
theorem f24_73 : gm_ft 24 73 = some (.bipush (-9), 2) := by decide +kernel
theorem r24_73 {E : Nat → Value} {d : Nat} {st : List Value} {h : gm_H} {Q : gm_R → gm_H → Prop} {lv : List Value} : gm_W E d 24 73 lv st h Q ↔ gm_W E d 24 75 lv (.int (-9 : Int32) :: st) h Q := gw_pure m24 f24_73 rfl
theorem f24_75 : gm_ft 24 75 = some (.invokevirtual 151, 3) := by decide +kernel
theorem c24_75 {E : Nat → Value} {d : Nat} {st : List Value} {h : gm_H} {Q : gm_R → gm_H → Prop} {lv : List Value} {b0 : Int32} {a : Nat} {Qc : gm_R → gm_H → Prop} (hs : (st.map fun v => v.category).sum ≤ 8) (hr : gm_kd h a = 5) (hd : 1 ≤ d) (hc : gm_Ca E (d - 1) 10 [.ref a, .int b0] h Qc) (kn : ∀ (v9 : Option Value) (h9 : gm_H), Qc (.inl v9) h9 → gm_W E d 24 78 lv (v9.toList ++ st) h9 Q) (kx : ∀ (x9 : Nat) (h9 : gm_H), Qc (.inr x9) h9 → Q (.inr x9) h9) : gm_W E d 24 75 lv (.int b0 :: .ref a :: st) h Q := gw_call (gn_call m24 f24_75 rfl rfl rfl rfl rfl rfl rfl (gs_virt (bs := [.int b0]) (w := 844) (L := 2) rfl rfl rfl rfl hs (by simp [gm_en1]) hr (by decide)) (by decide)) m24 rfl rfl hd hc kn kx
theorem f24_78 : gm_ft 24 78 = some (.goto 28, 3) := by decide +kernel
theorem r24_78 {E : Nat → Value} {d : Nat} {st : List Value} {h : gm_H} {Q : gm_R → gm_H → Prop} {lv : List Value} : gm_W E d 24 78 lv st h Q ↔ gm_W E d 24 106 lv st h Q := gw_brT m24 f24_78 rfl rfl rfl rfl
theorem f24_81 : gm_ft 24 81 = some (.aload_n 0, 1) := by decide +kernel
theorem r24_81 {E : Nat → Value} {d : Nat} {st : List Value} {h : gm_H} {Q : gm_R → gm_H → Prop} {a1 a2 a3 a4 a5 a6 a7 a8 : Value} {x : Nat} : gm_W E d 24 81 [.ref x, a1, a2, a3, a4, a5, a6, a7, a8] st h Q ↔ gm_W E d 24 82 [.ref x, a1, a2, a3, a4, a5, a6, a7, a8] (.ref x :: st) h Q := gw_loc m24 f24_81 rfl rfl
theorem r24_81n {E : Nat → Value} {d : Nat} {st : List Value} {h : gm_H} {Q : gm_R → gm_H → Prop} {a1 a2 a3 a4 a5 a6 a7 a8 : Value}  : gm_W E d 24 81 [.null, a1, a2, a3, a4, a5, a6, a7, a8] st h Q ↔ gm_W E d 24 82 [.null, a1, a2, a3, a4, a5, a6, a7, a8] (.null :: st) h Q := gw_loc m24 f24_81 rfl rfl
theorem f24_82 : gm_ft 24 82 = some (.getfield 13, 3) := by decide +kernel
theorem r24_82 {E : Nat → Value} {d : Nat} {st : List Value} {h : gm_H} {Q : gm_R → gm_H → Prop} {lv : List Value} {a : Nat} (hk : gm_kd h a = 5) : gm_W E d 24 82 lv (.ref a :: st) h Q ↔ gm_W E d 24 85 lv (gm_fv h a 10 :: st) h Q := gw_rd m24 f24_82 rfl rfl rfl rfl (gs_get k5_13 hk (by decide))
theorem f24_85 : gm_ft 24 85 = some (.iload_n 3, 1) := by decide +kernel
theorem r24_85 {E : Nat → Value} {d : Nat} {st : List Value} {h : gm_H} {Q : gm_R → gm_H → Prop} {a0 a1 a2 a4 a5 a6 a7 a8 : Value} {x : Int32} : gm_W E d 24 85 [a0, a1, a2, .int x, a4, a5, a6, a7, a8] st h Q ↔ gm_W E d 24 86 [a0, a1, a2, .int x, a4, a5, a6, a7, a8] (.int x :: st) h Q := gw_loc m24 f24_85 rfl rfl
theorem f24_86 : gm_ft 24 86 = some (.iaload, 1) := by decide +kernel
theorem r24_86 {E : Nat → Value} {d : Nat} {st : List Value} {h : gm_H} {Q : gm_R → gm_H → Prop} {lv : List Value} {a j : Nat} (hk : gm_kd h a % 100 = 0 ∧ 100 ≤ gm_kd h a ∧ gm_kd h a < 900) (hj : j < gm_ln h a) (hl : gm_ln h a < 2 ^ 31) : gm_W E d 24 86 lv (.int (nI j) :: .ref a :: st) h Q ↔ gm_W E d 24 87 lv (gm_fv h a j :: st) h Q := gw_rd m24 f24_86 rfl rfl rfl rfl (gs_ld (P := fun t => t == 0) hk.2 (by have := hk.1; simp [this] <;> omega) hj hl)
theorem f24_87 : gm_ft 24 87 = some (.ifCond .eq 13, 3) := by decide +kernel
theorem r24_87 {E : Nat → Value} {d : Nat} {st : List Value} {h : gm_H} {Q : gm_R → gm_H → Prop} {lv : List Value} {x : Int32} : gm_W E d 24 87 lv (.int x :: st) h Q ↔ (if x = 0 then gm_W E d 24 100 lv st h Q else gm_W E d 24 90 lv st h Q) := (gw_br m24 f24_87 rfl rfl rfl rfl).trans gw_if
theorem f24_90 : gm_ft 24 90 = some (.aload_n 0, 1) := by decide +kernel
theorem r24_90 {E : Nat → Value} {d : Nat} {st : List Value} {h : gm_H} {Q : gm_R → gm_H → Prop} {a1 a2 a3 a4 a5 a6 a7 a8 : Value} {x : Nat} : gm_W E d 24 90 [.ref x, a1, a2, a3, a4, a5, a6, a7, a8] st h Q ↔ gm_W E d 24 91 [.ref x, a1, a2, a3, a4, a5, a6, a7, a8] (.ref x :: st) h Q := gw_loc m24 f24_90 rfl rfl
theorem r24_90n {E : Nat → Value} {d : Nat} {st : List Value} {h : gm_H} {Q : gm_R → gm_H → Prop} {a1 a2 a3 a4 a5 a6 a7 a8 : Value}  : gm_W E d 24 90 [.null, a1, a2, a3, a4, a5, a6, a7, a8] st h Q ↔ gm_W E d 24 91 [.null, a1, a2, a3, a4, a5, a6, a7, a8] (.null :: st) h Q := gw_loc m24 f24_90 rfl rfl
theorem f24_91 : gm_ft 24 91 = some (.getfield 13, 3) := by decide +kernel
theorem r24_91 {E : Nat → Value} {d : Nat} {st : List Value} {h : gm_H} {Q : gm_R → gm_H → Prop} {lv : List Value} {a : Nat} (hk : gm_kd h a = 5) : gm_W E d 24 91 lv (.ref a :: st) h Q ↔ gm_W E d 24 94 lv (gm_fv h a 10 :: st) h Q := gw_rd m24 f24_91 rfl rfl rfl rfl (gs_get k5_13 hk (by decide))
theorem f24_94 : gm_ft 24 94 = some (.iload_n 3, 1) := by decide +kernel
theorem r24_94 {E : Nat → Value} {d : Nat} {st : List Value} {h : gm_H} {Q : gm_R → gm_H → Prop} {a0 a1 a2 a4 a5 a6 a7 a8 : Value} {x : Int32} : gm_W E d 24 94 [a0, a1, a2, .int x, a4, a5, a6, a7, a8] st h Q ↔ gm_W E d 24 95 [a0, a1, a2, .int x, a4, a5, a6, a7, a8] (.int x :: st) h Q := gw_loc m24 f24_94 rfl rfl
theorem f24_95 : gm_ft 24 95 = some (.iaload, 1) := by decide +kernel
theorem r24_95 {E : Nat → Value} {d : Nat} {st : List Value} {h : gm_H} {Q : gm_R → gm_H → Prop} {lv : List Value} {a j : Nat} (hk : gm_kd h a % 100 = 0 ∧ 100 ≤ gm_kd h a ∧ gm_kd h a < 900) (hj : j < gm_ln h a) (hl : gm_ln h a < 2 ^ 31) : gm_W E d 24 95 lv (.int (nI j) :: .ref a :: st) h Q ↔ gm_W E d 24 96 lv (gm_fv h a j :: st) h Q := gw_rd m24 f24_95 rfl rfl rfl rfl (gs_ld (P := fun t => t == 0) hk.2 (by have := hk.1; simp [this] <;> omega) hj hl)
theorem f24_96 : gm_ft 24 96 = some (.iconst 3, 1) := by decide +kernel
theorem r24_96 {E : Nat → Value} {d : Nat} {st : List Value} {h : gm_H} {Q : gm_R → gm_H → Prop} {lv : List Value} : gm_W E d 24 96 lv st h Q ↔ gm_W E d 24 97 lv (.int (3 : Int32) :: st) h Q := gw_pure m24 f24_96 rfl
theorem f24_97 : gm_ft 24 97 = some (.if_icmp .ne 9, 3) := by decide +kernel
theorem r24_97 {E : Nat → Value} {d : Nat} {st : List Value} {h : gm_H} {Q : gm_R → gm_H → Prop} {lv : List Value} {x y : Int32} : gm_W E d 24 97 lv (.int y :: .int x :: st) h Q ↔ (if x = y then gm_W E d 24 100 lv st h Q else gm_W E d 24 106 lv st h Q) := (gw_br m24 f24_97 rfl rfl rfl rfl).trans gw_ifn
theorem f24_100 : gm_ft 24 100 = some (.aload_n 0, 1) := by decide +kernel
theorem r24_100 {E : Nat → Value} {d : Nat} {st : List Value} {h : gm_H} {Q : gm_R → gm_H → Prop} {a1 a2 a3 a4 a5 a6 a7 a8 : Value} {x : Nat} : gm_W E d 24 100 [.ref x, a1, a2, a3, a4, a5, a6, a7, a8] st h Q ↔ gm_W E d 24 101 [.ref x, a1, a2, a3, a4, a5, a6, a7, a8] (.ref x :: st) h Q := gw_loc m24 f24_100 rfl rfl
theorem r24_100n {E : Nat → Value} {d : Nat} {st : List Value} {h : gm_H} {Q : gm_R → gm_H → Prop} {a1 a2 a3 a4 a5 a6 a7 a8 : Value}  : gm_W E d 24 100 [.null, a1, a2, a3, a4, a5, a6, a7, a8] st h Q ↔ gm_W E d 24 101 [.null, a1, a2, a3, a4, a5, a6, a7, a8] (.null :: st) h Q := gw_loc m24 f24_100 rfl rfl
theorem f24_101 : gm_ft 24 101 = some (.bipush (-5), 2) := by decide +kernel
theorem r24_101 {E : Nat → Value} {d : Nat} {st : List Value} {h : gm_H} {Q : gm_R → gm_H → Prop} {lv : List Value} : gm_W E d 24 101 lv st h Q ↔ gm_W E d 24 103 lv (.int (-5 : Int32) :: st) h Q := gw_pure m24 f24_101 rfl
theorem f24_103 : gm_ft 24 103 = some (.invokevirtual 151, 3) := by decide +kernel
theorem c24_103 {E : Nat → Value} {d : Nat} {st : List Value} {h : gm_H} {Q : gm_R → gm_H → Prop} {lv : List Value} {b0 : Int32} {a : Nat} {Qc : gm_R → gm_H → Prop} (hs : (st.map fun v => v.category).sum ≤ 8) (hr : gm_kd h a = 5) (hd : 1 ≤ d) (hc : gm_Ca E (d - 1) 10 [.ref a, .int b0] h Qc) (kn : ∀ (v9 : Option Value) (h9 : gm_H), Qc (.inl v9) h9 → gm_W E d 24 106 lv (v9.toList ++ st) h9 Q) (kx : ∀ (x9 : Nat) (h9 : gm_H), Qc (.inr x9) h9 → Q (.inr x9) h9) : gm_W E d 24 103 lv (.int b0 :: .ref a :: st) h Q := gw_call (gn_call m24 f24_103 rfl rfl rfl rfl rfl rfl rfl (gs_virt (bs := [.int b0]) (w := 844) (L := 2) rfl rfl rfl rfl hs (by simp [gm_en1]) hr (by decide)) (by decide)) m24 rfl rfl hd hc kn kx
theorem f24_106 : gm_ft 24 106 = some (.aload_n 0, 1) := by decide +kernel
theorem r24_106 {E : Nat → Value} {d : Nat} {st : List Value} {h : gm_H} {Q : gm_R → gm_H → Prop} {a1 a2 a3 a4 a5 a6 a7 a8 : Value} {x : Nat} : gm_W E d 24 106 [.ref x, a1, a2, a3, a4, a5, a6, a7, a8] st h Q ↔ gm_W E d 24 107 [.ref x, a1, a2, a3, a4, a5, a6, a7, a8] (.ref x :: st) h Q := gw_loc m24 f24_106 rfl rfl
theorem r24_106n {E : Nat → Value} {d : Nat} {st : List Value} {h : gm_H} {Q : gm_R → gm_H → Prop} {a1 a2 a3 a4 a5 a6 a7 a8 : Value}  : gm_W E d 24 106 [.null, a1, a2, a3, a4, a5, a6, a7, a8] st h Q ↔ gm_W E d 24 107 [.null, a1, a2, a3, a4, a5, a6, a7, a8] (.null :: st) h Q := gw_loc m24 f24_106 rfl rfl
theorem f24_107 : gm_ft 24 107 = some (.getfield 145, 3) := by decide +kernel
theorem r24_107 {E : Nat → Value} {d : Nat} {st : List Value} {h : gm_H} {Q : gm_R → gm_H → Prop} {lv : List Value} {a : Nat} (hk : gm_kd h a = 5) : gm_W E d 24 107 lv (.ref a :: st) h Q ↔ gm_W E d 24 110 lv (gm_fv h a 8 :: st) h Q := gw_rd m24 f24_107 rfl rfl rfl rfl (gs_get k5_145 hk (by decide))
theorem f24_110 : gm_ft 24 110 = some (.ifCond .eq 4, 3) := by decide +kernel
theorem r24_110 {E : Nat → Value} {d : Nat} {st : List Value} {h : gm_H} {Q : gm_R → gm_H → Prop} {lv : List Value} {x : Int32} : gm_W E d 24 110 lv (.int x :: st) h Q ↔ (if x = 0 then gm_W E d 24 114 lv st h Q else gm_W E d 24 113 lv st h Q) := (gw_br m24 f24_110 rfl rfl rfl rfl).trans gw_if
theorem f24_113 : gm_ft 24 113 = some (.return_, 1) := by decide +kernel
theorem r24_113 {E : Nat → Value} {d : Nat} {h : gm_H} {Q : gm_R → gm_H → Prop} {lv : List Value} : gm_W E d 24 113 lv [] h Q ↔ Q (.inl none) h := gw_ret m24 f24_113 rfl rfl rfl rfl rfl rfl rfl rfl rfl
theorem f24_114 : gm_ft 24 114 = some (.aload_n 0, 1) := by decide +kernel
theorem r24_114 {E : Nat → Value} {d : Nat} {st : List Value} {h : gm_H} {Q : gm_R → gm_H → Prop} {a1 a2 a3 a4 a5 a6 a7 a8 : Value} {x : Nat} : gm_W E d 24 114 [.ref x, a1, a2, a3, a4, a5, a6, a7, a8] st h Q ↔ gm_W E d 24 115 [.ref x, a1, a2, a3, a4, a5, a6, a7, a8] (.ref x :: st) h Q := gw_loc m24 f24_114 rfl rfl
theorem r24_114n {E : Nat → Value} {d : Nat} {st : List Value} {h : gm_H} {Q : gm_R → gm_H → Prop} {a1 a2 a3 a4 a5 a6 a7 a8 : Value}  : gm_W E d 24 114 [.null, a1, a2, a3, a4, a5, a6, a7, a8] st h Q ↔ gm_W E d 24 115 [.null, a1, a2, a3, a4, a5, a6, a7, a8] (.null :: st) h Q := gw_loc m24 f24_114 rfl rfl
theorem f24_115 : gm_ft 24 115 = some (.iload_n 3, 1) := by decide +kernel
theorem r24_115 {E : Nat → Value} {d : Nat} {st : List Value} {h : gm_H} {Q : gm_R → gm_H → Prop} {a0 a1 a2 a4 a5 a6 a7 a8 : Value} {x : Int32} : gm_W E d 24 115 [a0, a1, a2, .int x, a4, a5, a6, a7, a8] st h Q ↔ gm_W E d 24 116 [a0, a1, a2, .int x, a4, a5, a6, a7, a8] (.int x :: st) h Q := gw_loc m24 f24_115 rfl rfl
theorem f24_116 : gm_ft 24 116 = some (.invokevirtual 208, 3) := by decide +kernel
theorem c24_116 {E : Nat → Value} {d : Nat} {st : List Value} {h : gm_H} {Q : gm_R → gm_H → Prop} {lv : List Value} {b0 : Int32} {a : Nat} {Qc : gm_R → gm_H → Prop} (hs : (st.map fun v => v.category).sum ≤ 8) (hr : gm_kd h a = 5) (hd : 1 ≤ d) (hc : gm_Ca E (d - 1) 20 [.ref a, .int b0] h Qc) (kn : ∀ (v9 : Option Value) (h9 : gm_H), Qc (.inl v9) h9 → gm_W E d 24 119 lv (v9.toList ++ st) h9 Q) (kx : ∀ (x9 : Nat) (h9 : gm_H), Qc (.inr x9) h9 → Q (.inr x9) h9) : gm_W E d 24 116 lv (.int b0 :: .ref a :: st) h Q := gw_call (gn_call m24 f24_116 rfl rfl rfl rfl rfl rfl rfl (gs_virt (bs := [.int b0]) (w := 905) (L := 4) rfl rfl rfl rfl hs (by simp [gm_en1]) hr (by decide)) (by decide)) m24 rfl rfl hd hc kn kx
theorem f24_119 : gm_ft 24 119 = some (.aload_n 0, 1) := by decide +kernel
theorem r24_119 {E : Nat → Value} {d : Nat} {st : List Value} {h : gm_H} {Q : gm_R → gm_H → Prop} {a1 a2 a3 a4 a5 a6 a7 a8 : Value} {x : Nat} : gm_W E d 24 119 [.ref x, a1, a2, a3, a4, a5, a6, a7, a8] st h Q ↔ gm_W E d 24 120 [.ref x, a1, a2, a3, a4, a5, a6, a7, a8] (.ref x :: st) h Q := gw_loc m24 f24_119 rfl rfl
theorem r24_119n {E : Nat → Value} {d : Nat} {st : List Value} {h : gm_H} {Q : gm_R → gm_H → Prop} {a1 a2 a3 a4 a5 a6 a7 a8 : Value}  : gm_W E d 24 119 [.null, a1, a2, a3, a4, a5, a6, a7, a8] st h Q ↔ gm_W E d 24 120 [.null, a1, a2, a3, a4, a5, a6, a7, a8] (.null :: st) h Q := gw_loc m24 f24_119 rfl rfl
theorem f24_120 : gm_ft 24 120 = some (.getfield 23, 3) := by decide +kernel
theorem r24_120 {E : Nat → Value} {d : Nat} {st : List Value} {h : gm_H} {Q : gm_R → gm_H → Prop} {lv : List Value} {a : Nat} (hk : gm_kd h a = 5) : gm_W E d 24 120 lv (.ref a :: st) h Q ↔ gm_W E d 24 123 lv (gm_fv h a 13 :: st) h Q := gw_rd m24 f24_120 rfl rfl rfl rfl (gs_get k5_23 hk (by decide))
theorem f24_123 : gm_ft 24 123 = some (.iload_n 3, 1) := by decide +kernel
theorem r24_123 {E : Nat → Value} {d : Nat} {st : List Value} {h : gm_H} {Q : gm_R → gm_H → Prop} {a0 a1 a2 a4 a5 a6 a7 a8 : Value} {x : Int32} : gm_W E d 24 123 [a0, a1, a2, .int x, a4, a5, a6, a7, a8] st h Q ↔ gm_W E d 24 124 [a0, a1, a2, .int x, a4, a5, a6, a7, a8] (.int x :: st) h Q := gw_loc m24 f24_123 rfl rfl
theorem f24_124 : gm_ft 24 124 = some (.iaload, 1) := by decide +kernel
theorem r24_124 {E : Nat → Value} {d : Nat} {st : List Value} {h : gm_H} {Q : gm_R → gm_H → Prop} {lv : List Value} {a j : Nat} (hk : gm_kd h a % 100 = 0 ∧ 100 ≤ gm_kd h a ∧ gm_kd h a < 900) (hj : j < gm_ln h a) (hl : gm_ln h a < 2 ^ 31) : gm_W E d 24 124 lv (.int (nI j) :: .ref a :: st) h Q ↔ gm_W E d 24 125 lv (gm_fv h a j :: st) h Q := gw_rd m24 f24_124 rfl rfl rfl rfl (gs_ld (P := fun t => t == 0) hk.2 (by have := hk.1; simp [this] <;> omega) hj hl)
theorem f24_125 : gm_ft 24 125 = some (.iadd, 1) := by decide +kernel
theorem r24_125 {E : Nat → Value} {d : Nat} {st : List Value} {h : gm_H} {Q : gm_R → gm_H → Prop} {lv : List Value} {x y : Int32} : gm_W E d 24 125 lv (.int y :: .int x :: st) h Q ↔ gm_W E d 24 126 lv (.int (x + y) :: st) h Q := gw_pure m24 f24_125 rfl
theorem f24_126 : gm_ft 24 126 = some (.istore 4, 2) := by decide +kernel
theorem r24_126 {E : Nat → Value} {d : Nat} {st : List Value} {h : gm_H} {Q : gm_R → gm_H → Prop} {a0 a1 a2 a3 a4 a5 a6 a7 a8 : Value} {x : Int32} : gm_W E d 24 126 [a0, a1, a2, a3, a4, a5, a6, a7, a8] (.int x :: st) h Q ↔ gm_W E d 24 128 [a0, a1, a2, gm_k a3, .int x, a5, a6, a7, a8] st h Q := gw_loc m24 f24_126 rfl rfl
theorem f24_128 : gm_ft 24 128 = some (.aload_n 0, 1) := by decide +kernel
theorem r24_128 {E : Nat → Value} {d : Nat} {st : List Value} {h : gm_H} {Q : gm_R → gm_H → Prop} {a1 a2 a3 a4 a5 a6 a7 a8 : Value} {x : Nat} : gm_W E d 24 128 [.ref x, a1, a2, a3, a4, a5, a6, a7, a8] st h Q ↔ gm_W E d 24 129 [.ref x, a1, a2, a3, a4, a5, a6, a7, a8] (.ref x :: st) h Q := gw_loc m24 f24_128 rfl rfl
theorem r24_128n {E : Nat → Value} {d : Nat} {st : List Value} {h : gm_H} {Q : gm_R → gm_H → Prop} {a1 a2 a3 a4 a5 a6 a7 a8 : Value}  : gm_W E d 24 128 [.null, a1, a2, a3, a4, a5, a6, a7, a8] st h Q ↔ gm_W E d 24 129 [.null, a1, a2, a3, a4, a5, a6, a7, a8] (.null :: st) h Q := gw_loc m24 f24_128 rfl rfl
theorem f24_129 : gm_ft 24 129 = some (.iconst 0, 1) := by decide +kernel
theorem r24_129 {E : Nat → Value} {d : Nat} {st : List Value} {h : gm_H} {Q : gm_R → gm_H → Prop} {lv : List Value} : gm_W E d 24 129 lv st h Q ↔ gm_W E d 24 130 lv (.int (0 : Int32) :: st) h Q := gw_pure m24 f24_129 rfl
theorem f24_130 : gm_ft 24 130 = some (.iload_n 3, 1) := by decide +kernel
theorem r24_130 {E : Nat → Value} {d : Nat} {st : List Value} {h : gm_H} {Q : gm_R → gm_H → Prop} {a0 a1 a2 a4 a5 a6 a7 a8 : Value} {x : Int32} : gm_W E d 24 130 [a0, a1, a2, .int x, a4, a5, a6, a7, a8] st h Q ↔ gm_W E d 24 131 [a0, a1, a2, .int x, a4, a5, a6, a7, a8] (.int x :: st) h Q := gw_loc m24 f24_130 rfl rfl
theorem f24_131 : gm_ft 24 131 = some (.iload 4, 2) := by decide +kernel
theorem r24_131 {E : Nat → Value} {d : Nat} {st : List Value} {h : gm_H} {Q : gm_R → gm_H → Prop} {a0 a1 a2 a3 a5 a6 a7 a8 : Value} {x : Int32} : gm_W E d 24 131 [a0, a1, a2, a3, .int x, a5, a6, a7, a8] st h Q ↔ gm_W E d 24 133 [a0, a1, a2, a3, .int x, a5, a6, a7, a8] (.int x :: st) h Q := gw_loc m24 f24_131 rfl rfl
theorem f24_133 : gm_ft 24 133 = some (.aload_n 0, 1) := by decide +kernel
theorem r24_133 {E : Nat → Value} {d : Nat} {st : List Value} {h : gm_H} {Q : gm_R → gm_H → Prop} {a1 a2 a3 a4 a5 a6 a7 a8 : Value} {x : Nat} : gm_W E d 24 133 [.ref x, a1, a2, a3, a4, a5, a6, a7, a8] st h Q ↔ gm_W E d 24 134 [.ref x, a1, a2, a3, a4, a5, a6, a7, a8] (.ref x :: st) h Q := gw_loc m24 f24_133 rfl rfl
theorem r24_133n {E : Nat → Value} {d : Nat} {st : List Value} {h : gm_H} {Q : gm_R → gm_H → Prop} {a1 a2 a3 a4 a5 a6 a7 a8 : Value}  : gm_W E d 24 133 [.null, a1, a2, a3, a4, a5, a6, a7, a8] st h Q ↔ gm_W E d 24 134 [.null, a1, a2, a3, a4, a5, a6, a7, a8] (.null :: st) h Q := gw_loc m24 f24_133 rfl rfl
theorem f24_134 : gm_ft 24 134 = some (.getfield 163, 3) := by decide +kernel
theorem r24_134 {E : Nat → Value} {d : Nat} {st : List Value} {h : gm_H} {Q : gm_R → gm_H → Prop} {lv : List Value} {a : Nat} (hk : gm_kd h a = 5) : gm_W E d 24 134 lv (.ref a :: st) h Q ↔ gm_W E d 24 137 lv (gm_fv h a 25 :: st) h Q := gw_rd m24 f24_134 rfl rfl rfl rfl (gs_get k5_163 hk (by decide))
theorem f24_137 : gm_ft 24 137 = some (.invokevirtual 196, 3) := by decide +kernel
theorem c24_137 {E : Nat → Value} {d : Nat} {st : List Value} {h : gm_H} {Q : gm_R → gm_H → Prop} {lv : List Value} {b0 : Int32} {b1 : Int32} {b2 : Int32} {b3 : Int32} {a : Nat} {Qc : gm_R → gm_H → Prop} (hs : (st.map fun v => v.category).sum ≤ 8) (hr : gm_kd h a = 5) (hd : 1 ≤ d) (hc : gm_Ca E (d - 1) 18 [.ref a, .int b0, .int b1, .int b2, .int b3] h Qc) (kn : ∀ (v9 : Option Value) (h9 : gm_H), Qc (.inl v9) h9 → gm_W E d 24 140 lv (v9.toList ++ st) h9 Q) (kx : ∀ (x9 : Nat) (h9 : gm_H), Qc (.inr x9) h9 → Q (.inr x9) h9) : gm_W E d 24 137 lv (.int b3 :: .int b2 :: .int b1 :: .int b0 :: .ref a :: st) h Q := gw_call (gn_call m24 f24_137 rfl rfl rfl rfl rfl rfl rfl (gs_virt (bs := [.int b3, .int b2, .int b1, .int b0]) (w := 893) (L := 5) rfl rfl rfl rfl hs (by simp [gm_en1]) hr (by decide)) (by decide)) m24 rfl rfl hd hc kn kx
theorem f24_140 : gm_ft 24 140 = some (.istore 5, 2) := by decide +kernel
theorem r24_140 {E : Nat → Value} {d : Nat} {st : List Value} {h : gm_H} {Q : gm_R → gm_H → Prop} {a0 a1 a2 a3 a4 a5 a6 a7 a8 : Value} {x : Int32} : gm_W E d 24 140 [a0, a1, a2, a3, a4, a5, a6, a7, a8] (.int x :: st) h Q ↔ gm_W E d 24 142 [a0, a1, a2, a3, gm_k a4, .int x, a6, a7, a8] st h Q := gw_loc m24 f24_140 rfl rfl
theorem f24_142 : gm_ft 24 142 = some (.iload_n 3, 1) := by decide +kernel
theorem r24_142 {E : Nat → Value} {d : Nat} {st : List Value} {h : gm_H} {Q : gm_R → gm_H → Prop} {a0 a1 a2 a4 a5 a6 a7 a8 : Value} {x : Int32} : gm_W E d 24 142 [a0, a1, a2, .int x, a4, a5, a6, a7, a8] st h Q ↔ gm_W E d 24 143 [a0, a1, a2, .int x, a4, a5, a6, a7, a8] (.int x :: st) h Q := gw_loc m24 f24_142 rfl rfl
theorem f24_143 : gm_ft 24 143 = some (.istore 6, 2) := by decide +kernel
theorem r24_143 {E : Nat → Value} {d : Nat} {st : List Value} {h : gm_H} {Q : gm_R → gm_H → Prop} {a0 a1 a2 a3 a4 a5 a6 a7 a8 : Value} {x : Int32} : gm_W E d 24 143 [a0, a1, a2, a3, a4, a5, a6, a7, a8] (.int x :: st) h Q ↔ gm_W E d 24 145 [a0, a1, a2, a3, a4, gm_k a5, .int x, a7, a8] st h Q := gw_loc m24 f24_143 rfl rfl
theorem f24_145 : gm_ft 24 145 = some (.iload 6, 2) := by decide +kernel
theorem r24_145 {E : Nat → Value} {d : Nat} {st : List Value} {h : gm_H} {Q : gm_R → gm_H → Prop} {a0 a1 a2 a3 a4 a5 a7 a8 : Value} {x : Int32} : gm_W E d 24 145 [a0, a1, a2, a3, a4, a5, .int x, a7, a8] st h Q ↔ gm_W E d 24 147 [a0, a1, a2, a3, a4, a5, .int x, a7, a8] (.int x :: st) h Q := gw_loc m24 f24_145 rfl rfl
theorem f24_147 : gm_ft 24 147 = some (.ifCond .lt 108, 3) := by decide +kernel
theorem r24_147 {E : Nat → Value} {d : Nat} {st : List Value} {h : gm_H} {Q : gm_R → gm_H → Prop} {lv : List Value} {x : Int32} : gm_W E d 24 147 lv (.int x :: st) h Q ↔ (if x < 0 then gm_W E d 24 255 lv st h Q else gm_W E d 24 150 lv st h Q) := (gw_br m24 f24_147 rfl rfl rfl rfl).trans gw_if
theorem f24_150 : gm_ft 24 150 = some (.iconst 0, 1) := by decide +kernel
theorem r24_150 {E : Nat → Value} {d : Nat} {st : List Value} {h : gm_H} {Q : gm_R → gm_H → Prop} {lv : List Value} : gm_W E d 24 150 lv st h Q ↔ gm_W E d 24 151 lv (.int (0 : Int32) :: st) h Q := gw_pure m24 f24_150 rfl
theorem f24_151 : gm_ft 24 151 = some (.istore 7, 2) := by decide +kernel
theorem r24_151 {E : Nat → Value} {d : Nat} {st : List Value} {h : gm_H} {Q : gm_R → gm_H → Prop} {a0 a1 a2 a3 a4 a5 a6 a7 a8 : Value} {x : Int32} : gm_W E d 24 151 [a0, a1, a2, a3, a4, a5, a6, a7, a8] (.int x :: st) h Q ↔ gm_W E d 24 153 [a0, a1, a2, a3, a4, a5, gm_k a6, .int x, a8] st h Q := gw_loc m24 f24_151 rfl rfl
theorem f24_153 : gm_ft 24 153 = some (.iload 7, 2) := by decide +kernel
theorem r24_153 {E : Nat → Value} {d : Nat} {st : List Value} {h : gm_H} {Q : gm_R → gm_H → Prop} {a0 a1 a2 a3 a4 a5 a6 a8 : Value} {x : Int32} : gm_W E d 24 153 [a0, a1, a2, a3, a4, a5, a6, .int x, a8] st h Q ↔ gm_W E d 24 155 [a0, a1, a2, a3, a4, a5, a6, .int x, a8] (.int x :: st) h Q := gw_loc m24 f24_153 rfl rfl
theorem f24_155 : gm_ft 24 155 = some (.aload_n 0, 1) := by decide +kernel
theorem r24_155 {E : Nat → Value} {d : Nat} {st : List Value} {h : gm_H} {Q : gm_R → gm_H → Prop} {a1 a2 a3 a4 a5 a6 a7 a8 : Value} {x : Nat} : gm_W E d 24 155 [.ref x, a1, a2, a3, a4, a5, a6, a7, a8] st h Q ↔ gm_W E d 24 156 [.ref x, a1, a2, a3, a4, a5, a6, a7, a8] (.ref x :: st) h Q := gw_loc m24 f24_155 rfl rfl
theorem r24_155n {E : Nat → Value} {d : Nat} {st : List Value} {h : gm_H} {Q : gm_R → gm_H → Prop} {a1 a2 a3 a4 a5 a6 a7 a8 : Value}  : gm_W E d 24 155 [.null, a1, a2, a3, a4, a5, a6, a7, a8] st h Q ↔ gm_W E d 24 156 [.null, a1, a2, a3, a4, a5, a6, a7, a8] (.null :: st) h Q := gw_loc m24 f24_155 rfl rfl
theorem f24_156 : gm_ft 24 156 = some (.getfield 23, 3) := by decide +kernel
theorem r24_156 {E : Nat → Value} {d : Nat} {st : List Value} {h : gm_H} {Q : gm_R → gm_H → Prop} {lv : List Value} {a : Nat} (hk : gm_kd h a = 5) : gm_W E d 24 156 lv (.ref a :: st) h Q ↔ gm_W E d 24 159 lv (gm_fv h a 13 :: st) h Q := gw_rd m24 f24_156 rfl rfl rfl rfl (gs_get k5_23 hk (by decide))
theorem f24_159 : gm_ft 24 159 = some (.iload 6, 2) := by decide +kernel
theorem r24_159 {E : Nat → Value} {d : Nat} {st : List Value} {h : gm_H} {Q : gm_R → gm_H → Prop} {a0 a1 a2 a3 a4 a5 a7 a8 : Value} {x : Int32} : gm_W E d 24 159 [a0, a1, a2, a3, a4, a5, .int x, a7, a8] st h Q ↔ gm_W E d 24 161 [a0, a1, a2, a3, a4, a5, .int x, a7, a8] (.int x :: st) h Q := gw_loc m24 f24_159 rfl rfl
theorem f24_161 : gm_ft 24 161 = some (.iaload, 1) := by decide +kernel
theorem r24_161 {E : Nat → Value} {d : Nat} {st : List Value} {h : gm_H} {Q : gm_R → gm_H → Prop} {lv : List Value} {a j : Nat} (hk : gm_kd h a % 100 = 0 ∧ 100 ≤ gm_kd h a ∧ gm_kd h a < 900) (hj : j < gm_ln h a) (hl : gm_ln h a < 2 ^ 31) : gm_W E d 24 161 lv (.int (nI j) :: .ref a :: st) h Q ↔ gm_W E d 24 162 lv (gm_fv h a j :: st) h Q := gw_rd m24 f24_161 rfl rfl rfl rfl (gs_ld (P := fun t => t == 0) hk.2 (by have := hk.1; simp [this] <;> omega) hj hl)
theorem f24_162 : gm_ft 24 162 = some (.if_icmp .ge 81, 3) := by decide +kernel
theorem r24_162 {E : Nat → Value} {d : Nat} {st : List Value} {h : gm_H} {Q : gm_R → gm_H → Prop} {lv : List Value} {x y : Int32} : gm_W E d 24 162 lv (.int y :: .int x :: st) h Q ↔ (if y ≤ x then gm_W E d 24 243 lv st h Q else gm_W E d 24 165 lv st h Q) := (gw_br m24 f24_162 rfl rfl rfl rfl).trans gw_if
theorem f24_165 : gm_ft 24 165 = some (.aload_n 0, 1) := by decide +kernel
theorem r24_165 {E : Nat → Value} {d : Nat} {st : List Value} {h : gm_H} {Q : gm_R → gm_H → Prop} {a1 a2 a3 a4 a5 a6 a7 a8 : Value} {x : Nat} : gm_W E d 24 165 [.ref x, a1, a2, a3, a4, a5, a6, a7, a8] st h Q ↔ gm_W E d 24 166 [.ref x, a1, a2, a3, a4, a5, a6, a7, a8] (.ref x :: st) h Q := gw_loc m24 f24_165 rfl rfl
theorem r24_165n {E : Nat → Value} {d : Nat} {st : List Value} {h : gm_H} {Q : gm_R → gm_H → Prop} {a1 a2 a3 a4 a5 a6 a7 a8 : Value}  : gm_W E d 24 165 [.null, a1, a2, a3, a4, a5, a6, a7, a8] st h Q ↔ gm_W E d 24 166 [.null, a1, a2, a3, a4, a5, a6, a7, a8] (.null :: st) h Q := gw_loc m24 f24_165 rfl rfl
theorem f24_166 : gm_ft 24 166 = some (.getfield 29, 3) := by decide +kernel
theorem r24_166 {E : Nat → Value} {d : Nat} {st : List Value} {h : gm_H} {Q : gm_R → gm_H → Prop} {lv : List Value} {a : Nat} (hk : gm_kd h a = 5) : gm_W E d 24 166 lv (.ref a :: st) h Q ↔ gm_W E d 24 169 lv (gm_fv h a 15 :: st) h Q := gw_rd m24 f24_166 rfl rfl rfl rfl (gs_get k5_29 hk (by decide))
theorem f24_169 : gm_ft 24 169 = some (.iconst 4, 1) := by decide +kernel
theorem r24_169 {E : Nat → Value} {d : Nat} {st : List Value} {h : gm_H} {Q : gm_R → gm_H → Prop} {lv : List Value} : gm_W E d 24 169 lv st h Q ↔ gm_W E d 24 170 lv (.int (4 : Int32) :: st) h Q := gw_pure m24 f24_169 rfl
theorem f24_170 : gm_ft 24 170 = some (.iload 6, 2) := by decide +kernel
theorem r24_170 {E : Nat → Value} {d : Nat} {st : List Value} {h : gm_H} {Q : gm_R → gm_H → Prop} {a0 a1 a2 a3 a4 a5 a7 a8 : Value} {x : Int32} : gm_W E d 24 170 [a0, a1, a2, a3, a4, a5, .int x, a7, a8] st h Q ↔ gm_W E d 24 172 [a0, a1, a2, a3, a4, a5, .int x, a7, a8] (.int x :: st) h Q := gw_loc m24 f24_170 rfl rfl
theorem f24_172 : gm_ft 24 172 = some (.imul, 1) := by decide +kernel
theorem r24_172 {E : Nat → Value} {d : Nat} {st : List Value} {h : gm_H} {Q : gm_R → gm_H → Prop} {lv : List Value} {x y : Int32} : gm_W E d 24 172 lv (.int y :: .int x :: st) h Q ↔ gm_W E d 24 173 lv (.int (x * y) :: st) h Q := gw_pure m24 f24_172 rfl
theorem f24_173 : gm_ft 24 173 = some (.iload 7, 2) := by decide +kernel
theorem r24_173 {E : Nat → Value} {d : Nat} {st : List Value} {h : gm_H} {Q : gm_R → gm_H → Prop} {a0 a1 a2 a3 a4 a5 a6 a8 : Value} {x : Int32} : gm_W E d 24 173 [a0, a1, a2, a3, a4, a5, a6, .int x, a8] st h Q ↔ gm_W E d 24 175 [a0, a1, a2, a3, a4, a5, a6, .int x, a8] (.int x :: st) h Q := gw_loc m24 f24_173 rfl rfl
theorem f24_175 : gm_ft 24 175 = some (.iadd, 1) := by decide +kernel
theorem r24_175 {E : Nat → Value} {d : Nat} {st : List Value} {h : gm_H} {Q : gm_R → gm_H → Prop} {lv : List Value} {x y : Int32} : gm_W E d 24 175 lv (.int y :: .int x :: st) h Q ↔ gm_W E d 24 176 lv (.int (x + y) :: st) h Q := gw_pure m24 f24_175 rfl
theorem f24_176 : gm_ft 24 176 = some (.iaload, 1) := by decide +kernel
theorem r24_176 {E : Nat → Value} {d : Nat} {st : List Value} {h : gm_H} {Q : gm_R → gm_H → Prop} {lv : List Value} {a j : Nat} (hk : gm_kd h a % 100 = 0 ∧ 100 ≤ gm_kd h a ∧ gm_kd h a < 900) (hj : j < gm_ln h a) (hl : gm_ln h a < 2 ^ 31) : gm_W E d 24 176 lv (.int (nI j) :: .ref a :: st) h Q ↔ gm_W E d 24 177 lv (gm_fv h a j :: st) h Q := gw_rd m24 f24_176 rfl rfl rfl rfl (gs_ld (P := fun t => t == 0) hk.2 (by have := hk.1; simp [this] <;> omega) hj hl)
theorem f24_177 : gm_ft 24 177 = some (.istore 8, 2) := by decide +kernel
theorem r24_177 {E : Nat → Value} {d : Nat} {st : List Value} {h : gm_H} {Q : gm_R → gm_H → Prop} {a0 a1 a2 a3 a4 a5 a6 a7 a8 : Value} {x : Int32} : gm_W E d 24 177 [a0, a1, a2, a3, a4, a5, a6, a7, a8] (.int x :: st) h Q ↔ gm_W E d 24 179 [a0, a1, a2, a3, a4, a5, a6, gm_k a7, .int x] st h Q := gw_loc m24 f24_177 rfl rfl
theorem f24_179 : gm_ft 24 179 = some (.aload_n 0, 1) := by decide +kernel
theorem r24_179 {E : Nat → Value} {d : Nat} {st : List Value} {h : gm_H} {Q : gm_R → gm_H → Prop} {a1 a2 a3 a4 a5 a6 a7 a8 : Value} {x : Nat} : gm_W E d 24 179 [.ref x, a1, a2, a3, a4, a5, a6, a7, a8] st h Q ↔ gm_W E d 24 180 [.ref x, a1, a2, a3, a4, a5, a6, a7, a8] (.ref x :: st) h Q := gw_loc m24 f24_179 rfl rfl
theorem r24_179n {E : Nat → Value} {d : Nat} {st : List Value} {h : gm_H} {Q : gm_R → gm_H → Prop} {a1 a2 a3 a4 a5 a6 a7 a8 : Value}  : gm_W E d 24 179 [.null, a1, a2, a3, a4, a5, a6, a7, a8] st h Q ↔ gm_W E d 24 180 [.null, a1, a2, a3, a4, a5, a6, a7, a8] (.null :: st) h Q := gw_loc m24 f24_179 rfl rfl
theorem f24_180 : gm_ft 24 180 = some (.getfield 54, 3) := by decide +kernel
theorem r24_180 {E : Nat → Value} {d : Nat} {st : List Value} {h : gm_H} {Q : gm_R → gm_H → Prop} {lv : List Value} {a : Nat} (hk : gm_kd h a = 5) : gm_W E d 24 180 lv (.ref a :: st) h Q ↔ gm_W E d 24 183 lv (gm_fv h a 24 :: st) h Q := gw_rd m24 f24_180 rfl rfl rfl rfl (gs_get k5_54 hk (by decide))
theorem f24_183 : gm_ft 24 183 = some (.aload_n 0, 1) := by decide +kernel
theorem r24_183 {E : Nat → Value} {d : Nat} {st : List Value} {h : gm_H} {Q : gm_R → gm_H → Prop} {a1 a2 a3 a4 a5 a6 a7 a8 : Value} {x : Nat} : gm_W E d 24 183 [.ref x, a1, a2, a3, a4, a5, a6, a7, a8] st h Q ↔ gm_W E d 24 184 [.ref x, a1, a2, a3, a4, a5, a6, a7, a8] (.ref x :: st) h Q := gw_loc m24 f24_183 rfl rfl
theorem r24_183n {E : Nat → Value} {d : Nat} {st : List Value} {h : gm_H} {Q : gm_R → gm_H → Prop} {a1 a2 a3 a4 a5 a6 a7 a8 : Value}  : gm_W E d 24 183 [.null, a1, a2, a3, a4, a5, a6, a7, a8] st h Q ↔ gm_W E d 24 184 [.null, a1, a2, a3, a4, a5, a6, a7, a8] (.null :: st) h Q := gw_loc m24 f24_183 rfl rfl
theorem f24_184 : gm_ft 24 184 = some (.getfield 163, 3) := by decide +kernel
theorem r24_184 {E : Nat → Value} {d : Nat} {st : List Value} {h : gm_H} {Q : gm_R → gm_H → Prop} {lv : List Value} {a : Nat} (hk : gm_kd h a = 5) : gm_W E d 24 184 lv (.ref a :: st) h Q ↔ gm_W E d 24 187 lv (gm_fv h a 25 :: st) h Q := gw_rd m24 f24_184 rfl rfl rfl rfl (gs_get k5_163 hk (by decide))
theorem f24_187 : gm_ft 24 187 = some (.aload_n 0, 1) := by decide +kernel
theorem r24_187 {E : Nat → Value} {d : Nat} {st : List Value} {h : gm_H} {Q : gm_R → gm_H → Prop} {a1 a2 a3 a4 a5 a6 a7 a8 : Value} {x : Nat} : gm_W E d 24 187 [.ref x, a1, a2, a3, a4, a5, a6, a7, a8] st h Q ↔ gm_W E d 24 188 [.ref x, a1, a2, a3, a4, a5, a6, a7, a8] (.ref x :: st) h Q := gw_loc m24 f24_187 rfl rfl
theorem r24_187n {E : Nat → Value} {d : Nat} {st : List Value} {h : gm_H} {Q : gm_R → gm_H → Prop} {a1 a2 a3 a4 a5 a6 a7 a8 : Value}  : gm_W E d 24 187 [.null, a1, a2, a3, a4, a5, a6, a7, a8] st h Q ↔ gm_W E d 24 188 [.null, a1, a2, a3, a4, a5, a6, a7, a8] (.null :: st) h Q := gw_loc m24 f24_187 rfl rfl
theorem f24_188 : gm_ft 24 188 = some (.iload 6, 2) := by decide +kernel
theorem r24_188 {E : Nat → Value} {d : Nat} {st : List Value} {h : gm_H} {Q : gm_R → gm_H → Prop} {a0 a1 a2 a3 a4 a5 a7 a8 : Value} {x : Int32} : gm_W E d 24 188 [a0, a1, a2, a3, a4, a5, .int x, a7, a8] st h Q ↔ gm_W E d 24 190 [a0, a1, a2, a3, a4, a5, .int x, a7, a8] (.int x :: st) h Q := gw_loc m24 f24_188 rfl rfl
theorem f24_190 : gm_ft 24 190 = some (.invokevirtual 208, 3) := by decide +kernel
theorem c24_190 {E : Nat → Value} {d : Nat} {st : List Value} {h : gm_H} {Q : gm_R → gm_H → Prop} {lv : List Value} {b0 : Int32} {a : Nat} {Qc : gm_R → gm_H → Prop} (hs : (st.map fun v => v.category).sum ≤ 8) (hr : gm_kd h a = 5) (hd : 1 ≤ d) (hc : gm_Ca E (d - 1) 20 [.ref a, .int b0] h Qc) (kn : ∀ (v9 : Option Value) (h9 : gm_H), Qc (.inl v9) h9 → gm_W E d 24 193 lv (v9.toList ++ st) h9 Q) (kx : ∀ (x9 : Nat) (h9 : gm_H), Qc (.inr x9) h9 → Q (.inr x9) h9) : gm_W E d 24 190 lv (.int b0 :: .ref a :: st) h Q := gw_call (gn_call m24 f24_190 rfl rfl rfl rfl rfl rfl rfl (gs_virt (bs := [.int b0]) (w := 905) (L := 4) rfl rfl rfl rfl hs (by simp [gm_en1]) hr (by decide)) (by decide)) m24 rfl rfl hd hc kn kx
theorem f24_193 : gm_ft 24 193 = some (.iadd, 1) := by decide +kernel
theorem r24_193 {E : Nat → Value} {d : Nat} {st : List Value} {h : gm_H} {Q : gm_R → gm_H → Prop} {lv : List Value} {x y : Int32} : gm_W E d 24 193 lv (.int y :: .int x :: st) h Q ↔ gm_W E d 24 194 lv (.int (x + y) :: st) h Q := gw_pure m24 f24_193 rfl
theorem f24_194 : gm_ft 24 194 = some (.iload 7, 2) := by decide +kernel
theorem r24_194 {E : Nat → Value} {d : Nat} {st : List Value} {h : gm_H} {Q : gm_R → gm_H → Prop} {a0 a1 a2 a3 a4 a5 a6 a8 : Value} {x : Int32} : gm_W E d 24 194 [a0, a1, a2, a3, a4, a5, a6, .int x, a8] st h Q ↔ gm_W E d 24 196 [a0, a1, a2, a3, a4, a5, a6, .int x, a8] (.int x :: st) h Q := gw_loc m24 f24_194 rfl rfl
theorem f24_196 : gm_ft 24 196 = some (.iadd, 1) := by decide +kernel
theorem r24_196 {E : Nat → Value} {d : Nat} {st : List Value} {h : gm_H} {Q : gm_R → gm_H → Prop} {lv : List Value} {x y : Int32} : gm_W E d 24 196 lv (.int y :: .int x :: st) h Q ↔ gm_W E d 24 197 lv (.int (x + y) :: st) h Q := gw_pure m24 f24_196 rfl
theorem f24_197 : gm_ft 24 197 = some (.iload 8, 2) := by decide +kernel
theorem r24_197 {E : Nat → Value} {d : Nat} {st : List Value} {h : gm_H} {Q : gm_R → gm_H → Prop} {a0 a1 a2 a3 a4 a5 a6 a7 : Value} {x : Int32} : gm_W E d 24 197 [a0, a1, a2, a3, a4, a5, a6, a7, .int x] st h Q ↔ gm_W E d 24 199 [a0, a1, a2, a3, a4, a5, a6, a7, .int x] (.int x :: st) h Q := gw_loc m24 f24_197 rfl rfl
theorem f24_199 : gm_ft 24 199 = some (.iconst 5, 1) := by decide +kernel
theorem r24_199 {E : Nat → Value} {d : Nat} {st : List Value} {h : gm_H} {Q : gm_R → gm_H → Prop} {lv : List Value} : gm_W E d 24 199 lv st h Q ↔ gm_W E d 24 200 lv (.int (5 : Int32) :: st) h Q := gw_pure m24 f24_199 rfl
theorem f24_200 : gm_ft 24 200 = some (.if_icmp .le 9, 3) := by decide +kernel
theorem r24_200 {E : Nat → Value} {d : Nat} {st : List Value} {h : gm_H} {Q : gm_R → gm_H → Prop} {lv : List Value} {x y : Int32} : gm_W E d 24 200 lv (.int y :: .int x :: st) h Q ↔ (if x ≤ y then gm_W E d 24 209 lv st h Q else gm_W E d 24 203 lv st h Q) := (gw_br m24 f24_200 rfl rfl rfl rfl).trans gw_if
theorem f24_203 : gm_ft 24 203 = some (.ldc2_w 212, 3) := by decide +kernel
theorem r24_203 {E : Nat → Value} {d : Nat} {st : List Value} {h : gm_H} {Q : gm_R → gm_H → Prop} {lv : List Value} : gm_W E d 24 203 lv st h Q ↔ gm_W E d 24 206 lv (.long (-2 : Int64) :: st) h Q := gw_rd m24 f24_203 rfl rfl rfl rfl rfl
theorem f24_206 : gm_ft 24 206 = some (.goto 30, 3) := by decide +kernel
theorem r24_206 {E : Nat → Value} {d : Nat} {st : List Value} {h : gm_H} {Q : gm_R → gm_H → Prop} {lv : List Value} : gm_W E d 24 206 lv st h Q ↔ gm_W E d 24 236 lv st h Q := gw_brT m24 f24_206 rfl rfl rfl rfl
theorem f24_209 : gm_ft 24 209 = some (.aload_n 0, 1) := by decide +kernel
theorem r24_209 {E : Nat → Value} {d : Nat} {st : List Value} {h : gm_H} {Q : gm_R → gm_H → Prop} {a1 a2 a3 a4 a5 a6 a7 a8 : Value} {x : Nat} : gm_W E d 24 209 [.ref x, a1, a2, a3, a4, a5, a6, a7, a8] st h Q ↔ gm_W E d 24 210 [.ref x, a1, a2, a3, a4, a5, a6, a7, a8] (.ref x :: st) h Q := gw_loc m24 f24_209 rfl rfl
theorem r24_209n {E : Nat → Value} {d : Nat} {st : List Value} {h : gm_H} {Q : gm_R → gm_H → Prop} {a1 a2 a3 a4 a5 a6 a7 a8 : Value}  : gm_W E d 24 209 [.null, a1, a2, a3, a4, a5, a6, a7, a8] st h Q ↔ gm_W E d 24 210 [.null, a1, a2, a3, a4, a5, a6, a7, a8] (.null :: st) h Q := gw_loc m24 f24_209 rfl rfl
theorem f24_210 : gm_ft 24 210 = some (.getfield 13, 3) := by decide +kernel
theorem r24_210 {E : Nat → Value} {d : Nat} {st : List Value} {h : gm_H} {Q : gm_R → gm_H → Prop} {lv : List Value} {a : Nat} (hk : gm_kd h a = 5) : gm_W E d 24 210 lv (.ref a :: st) h Q ↔ gm_W E d 24 213 lv (gm_fv h a 10 :: st) h Q := gw_rd m24 f24_210 rfl rfl rfl rfl (gs_get k5_13 hk (by decide))
theorem f24_213 : gm_ft 24 213 = some (.iload 6, 2) := by decide +kernel
theorem r24_213 {E : Nat → Value} {d : Nat} {st : List Value} {h : gm_H} {Q : gm_R → gm_H → Prop} {a0 a1 a2 a3 a4 a5 a7 a8 : Value} {x : Int32} : gm_W E d 24 213 [a0, a1, a2, a3, a4, a5, .int x, a7, a8] st h Q ↔ gm_W E d 24 215 [a0, a1, a2, a3, a4, a5, .int x, a7, a8] (.int x :: st) h Q := gw_loc m24 f24_213 rfl rfl
theorem f24_215 : gm_ft 24 215 = some (.iaload, 1) := by decide +kernel
theorem r24_215 {E : Nat → Value} {d : Nat} {st : List Value} {h : gm_H} {Q : gm_R → gm_H → Prop} {lv : List Value} {a j : Nat} (hk : gm_kd h a % 100 = 0 ∧ 100 ≤ gm_kd h a ∧ gm_kd h a < 900) (hj : j < gm_ln h a) (hl : gm_ln h a < 2 ^ 31) : gm_W E d 24 215 lv (.int (nI j) :: .ref a :: st) h Q ↔ gm_W E d 24 216 lv (gm_fv h a j :: st) h Q := gw_rd m24 f24_215 rfl rfl rfl rfl (gs_ld (P := fun t => t == 0) hk.2 (by have := hk.1; simp [this] <;> omega) hj hl)
theorem f24_216 : gm_ft 24 216 = some (.ifCond .eq 7, 3) := by decide +kernel
theorem r24_216 {E : Nat → Value} {d : Nat} {st : List Value} {h : gm_H} {Q : gm_R → gm_H → Prop} {lv : List Value} {x : Int32} : gm_W E d 24 216 lv (.int x :: st) h Q ↔ (if x = 0 then gm_W E d 24 223 lv st h Q else gm_W E d 24 219 lv st h Q) := (gw_br m24 f24_216 rfl rfl rfl rfl).trans gw_if
theorem f24_219 : gm_ft 24 219 = some (.lconst 0, 1) := by decide +kernel
theorem r24_219 {E : Nat → Value} {d : Nat} {st : List Value} {h : gm_H} {Q : gm_R → gm_H → Prop} {lv : List Value} : gm_W E d 24 219 lv st h Q ↔ gm_W E d 24 220 lv (.long 0 :: st) h Q := gw_pure m24 f24_219 rfl
theorem f24_220 : gm_ft 24 220 = some (.goto 16, 3) := by decide +kernel
theorem r24_220 {E : Nat → Value} {d : Nat} {st : List Value} {h : gm_H} {Q : gm_R → gm_H → Prop} {lv : List Value} : gm_W E d 24 220 lv st h Q ↔ gm_W E d 24 236 lv st h Q := gw_brT m24 f24_220 rfl rfl rfl rfl
theorem f24_223 : gm_ft 24 223 = some (.iload 8, 2) := by decide +kernel
theorem r24_223 {E : Nat → Value} {d : Nat} {st : List Value} {h : gm_H} {Q : gm_R → gm_H → Prop} {a0 a1 a2 a3 a4 a5 a6 a7 : Value} {x : Int32} : gm_W E d 24 223 [a0, a1, a2, a3, a4, a5, a6, a7, .int x] st h Q ↔ gm_W E d 24 225 [a0, a1, a2, a3, a4, a5, a6, a7, .int x] (.int x :: st) h Q := gw_loc m24 f24_223 rfl rfl
theorem f24_225 : gm_ft 24 225 = some (.iconst 5, 1) := by decide +kernel
theorem r24_225 {E : Nat → Value} {d : Nat} {st : List Value} {h : gm_H} {Q : gm_R → gm_H → Prop} {lv : List Value} : gm_W E d 24 225 lv st h Q ↔ gm_W E d 24 226 lv (.int (5 : Int32) :: st) h Q := gw_pure m24 f24_225 rfl
theorem f24_226 : gm_ft 24 226 = some (.if_icmp .ne 7, 3) := by decide +kernel
theorem r24_226 {E : Nat → Value} {d : Nat} {st : List Value} {h : gm_H} {Q : gm_R → gm_H → Prop} {lv : List Value} {x y : Int32} : gm_W E d 24 226 lv (.int y :: .int x :: st) h Q ↔ (if x = y then gm_W E d 24 229 lv st h Q else gm_W E d 24 233 lv st h Q) := (gw_br m24 f24_226 rfl rfl rfl rfl).trans gw_ifn
theorem f24_229 : gm_ft 24 229 = some (.lconst 1, 1) := by decide +kernel
theorem r24_229 {E : Nat → Value} {d : Nat} {st : List Value} {h : gm_H} {Q : gm_R → gm_H → Prop} {lv : List Value} : gm_W E d 24 229 lv st h Q ↔ gm_W E d 24 230 lv (.long 1 :: st) h Q := gw_pure m24 f24_229 rfl
theorem f24_230 : gm_ft 24 230 = some (.goto 6, 3) := by decide +kernel
theorem r24_230 {E : Nat → Value} {d : Nat} {st : List Value} {h : gm_H} {Q : gm_R → gm_H → Prop} {lv : List Value} : gm_W E d 24 230 lv st h Q ↔ gm_W E d 24 236 lv st h Q := gw_brT m24 f24_230 rfl rfl rfl rfl
theorem f24_233 : gm_ft 24 233 = some (.ldc2_w 214, 3) := by decide +kernel
theorem r24_233 {E : Nat → Value} {d : Nat} {st : List Value} {h : gm_H} {Q : gm_R → gm_H → Prop} {lv : List Value} : gm_W E d 24 233 lv st h Q ↔ gm_W E d 24 236 lv (.long (7 : Int64) :: st) h Q := gw_rd m24 f24_233 rfl rfl rfl rfl rfl
theorem f24_236 : gm_ft 24 236 = some (.lastore, 1) := by decide +kernel
theorem r24_236 {E : Nat → Value} {d : Nat} {st : List Value} {h : gm_H} {Q : gm_R → gm_H → Prop} {lv : List Value} {a j : Nat} {x : Int64} (hk : gm_kd h a = 201) (hj : j < gm_ln h a) (hl : gm_ln h a < 2 ^ 31) : gm_W E d 24 236 lv (.long x :: .int (nI j) :: .ref a :: st) h Q ↔ gm_W E d 24 237 lv st (gm_sf h a j (.long x)) Q := gw_wr m24 f24_236 rfl rfl rfl rfl rfl (gs_st hk (by decide) hj hl)
theorem f24_237 : gm_ft 24 237 = some (.iinc 7 1, 3) := by decide +kernel
theorem r24_237 {E : Nat → Value} {d : Nat} {st : List Value} {h : gm_H} {Q : gm_R → gm_H → Prop} {a0 a1 a2 a3 a4 a5 a6 a8 : Value} {x : Int32} : gm_W E d 24 237 [a0, a1, a2, a3, a4, a5, a6, .int x, a8] st h Q ↔ gm_W E d 24 240 [a0, a1, a2, a3, a4, a5, gm_k a6, .int (x + (1 : Int32)), a8] st h Q := gw_loc m24 f24_237 rfl rfl
theorem f24_240 : gm_ft 24 240 = some (.goto (-87), 3) := by decide +kernel
theorem r24_240 {E : Nat → Value} {d : Nat} {st : List Value} {h : gm_H} {Q : gm_R → gm_H → Prop} {lv : List Value} : gm_W E d 24 240 lv st h Q ↔ gm_W E d 24 153 lv st h Q := gw_brT m24 f24_240 rfl rfl rfl rfl
theorem f24_243 : gm_ft 24 243 = some (.aload_n 0, 1) := by decide +kernel
theorem r24_243 {E : Nat → Value} {d : Nat} {st : List Value} {h : gm_H} {Q : gm_R → gm_H → Prop} {a1 a2 a3 a4 a5 a6 a7 a8 : Value} {x : Nat} : gm_W E d 24 243 [.ref x, a1, a2, a3, a4, a5, a6, a7, a8] st h Q ↔ gm_W E d 24 244 [.ref x, a1, a2, a3, a4, a5, a6, a7, a8] (.ref x :: st) h Q := gw_loc m24 f24_243 rfl rfl
theorem r24_243n {E : Nat → Value} {d : Nat} {st : List Value} {h : gm_H} {Q : gm_R → gm_H → Prop} {a1 a2 a3 a4 a5 a6 a7 a8 : Value}  : gm_W E d 24 243 [.null, a1, a2, a3, a4, a5, a6, a7, a8] st h Q ↔ gm_W E d 24 244 [.null, a1, a2, a3, a4, a5, a6, a7, a8] (.null :: st) h Q := gw_loc m24 f24_243 rfl rfl
theorem f24_244 : gm_ft 24 244 = some (.getfield 20, 3) := by decide +kernel
theorem r24_244 {E : Nat → Value} {d : Nat} {st : List Value} {h : gm_H} {Q : gm_R → gm_H → Prop} {lv : List Value} {a : Nat} (hk : gm_kd h a = 5) : gm_W E d 24 244 lv (.ref a :: st) h Q ↔ gm_W E d 24 247 lv (gm_fv h a 12 :: st) h Q := gw_rd m24 f24_244 rfl rfl rfl rfl (gs_get k5_20 hk (by decide))
theorem f24_247 : gm_ft 24 247 = some (.iload 6, 2) := by decide +kernel
theorem r24_247 {E : Nat → Value} {d : Nat} {st : List Value} {h : gm_H} {Q : gm_R → gm_H → Prop} {a0 a1 a2 a3 a4 a5 a7 a8 : Value} {x : Int32} : gm_W E d 24 247 [a0, a1, a2, a3, a4, a5, .int x, a7, a8] st h Q ↔ gm_W E d 24 249 [a0, a1, a2, a3, a4, a5, .int x, a7, a8] (.int x :: st) h Q := gw_loc m24 f24_247 rfl rfl
theorem f24_249 : gm_ft 24 249 = some (.iaload, 1) := by decide +kernel
theorem r24_249 {E : Nat → Value} {d : Nat} {st : List Value} {h : gm_H} {Q : gm_R → gm_H → Prop} {lv : List Value} {a j : Nat} (hk : gm_kd h a % 100 = 0 ∧ 100 ≤ gm_kd h a ∧ gm_kd h a < 900) (hj : j < gm_ln h a) (hl : gm_ln h a < 2 ^ 31) : gm_W E d 24 249 lv (.int (nI j) :: .ref a :: st) h Q ↔ gm_W E d 24 250 lv (gm_fv h a j :: st) h Q := gw_rd m24 f24_249 rfl rfl rfl rfl (gs_ld (P := fun t => t == 0) hk.2 (by have := hk.1; simp [this] <;> omega) hj hl)
theorem f24_250 : gm_ft 24 250 = some (.istore 6, 2) := by decide +kernel
theorem r24_250 {E : Nat → Value} {d : Nat} {st : List Value} {h : gm_H} {Q : gm_R → gm_H → Prop} {a0 a1 a2 a3 a4 a5 a6 a7 a8 : Value} {x : Int32} : gm_W E d 24 250 [a0, a1, a2, a3, a4, a5, a6, a7, a8] (.int x :: st) h Q ↔ gm_W E d 24 252 [a0, a1, a2, a3, a4, gm_k a5, .int x, a7, a8] st h Q := gw_loc m24 f24_250 rfl rfl
theorem f24_252 : gm_ft 24 252 = some (.goto (-107), 3) := by decide +kernel
theorem r24_252 {E : Nat → Value} {d : Nat} {st : List Value} {h : gm_H} {Q : gm_R → gm_H → Prop} {lv : List Value} : gm_W E d 24 252 lv st h Q ↔ gm_W E d 24 145 lv st h Q := gw_brT m24 f24_252 rfl rfl rfl rfl
theorem f24_255 : gm_ft 24 255 = some (.aload_n 0, 1) := by decide +kernel
theorem r24_255 {E : Nat → Value} {d : Nat} {st : List Value} {h : gm_H} {Q : gm_R → gm_H → Prop} {a1 a2 a3 a4 a5 a6 a7 a8 : Value} {x : Nat} : gm_W E d 24 255 [.ref x, a1, a2, a3, a4, a5, a6, a7, a8] st h Q ↔ gm_W E d 24 256 [.ref x, a1, a2, a3, a4, a5, a6, a7, a8] (.ref x :: st) h Q := gw_loc m24 f24_255 rfl rfl
theorem r24_255n {E : Nat → Value} {d : Nat} {st : List Value} {h : gm_H} {Q : gm_R → gm_H → Prop} {a1 a2 a3 a4 a5 a6 a7 a8 : Value}  : gm_W E d 24 255 [.null, a1, a2, a3, a4, a5, a6, a7, a8] st h Q ↔ gm_W E d 24 256 [.null, a1, a2, a3, a4, a5, a6, a7, a8] (.null :: st) h Q := gw_loc m24 f24_255 rfl rfl
theorem f24_256 : gm_ft 24 256 = some (.dup, 1) := by decide +kernel
theorem r24_256 {E : Nat → Value} {d : Nat} {st : List Value} {h : gm_H} {Q : gm_R → gm_H → Prop} {lv : List Value} {a : Nat} : gm_W E d 24 256 lv (.ref a :: st) h Q ↔ gm_W E d 24 257 lv (.ref a :: .ref a :: st) h Q := gw_pure m24 f24_256 rfl
theorem r24_256i {E : Nat → Value} {d : Nat} {st : List Value} {h : gm_H} {Q : gm_R → gm_H → Prop} {lv : List Value} {x : Int32} : gm_W E d 24 256 lv (.int x :: st) h Q ↔ gm_W E d 24 257 lv (.int x :: .int x :: st) h Q := gw_pure m24 f24_256 rfl
theorem f24_257 : gm_ft 24 257 = some (.getfield 163, 3) := by decide +kernel
theorem r24_257 {E : Nat → Value} {d : Nat} {st : List Value} {h : gm_H} {Q : gm_R → gm_H → Prop} {lv : List Value} {a : Nat} (hk : gm_kd h a = 5) : gm_W E d 24 257 lv (.ref a :: st) h Q ↔ gm_W E d 24 260 lv (gm_fv h a 25 :: st) h Q := gw_rd m24 f24_257 rfl rfl rfl rfl (gs_get k5_163 hk (by decide))
theorem f24_260 : gm_ft 24 260 = some (.iload 4, 2) := by decide +kernel
theorem r24_260 {E : Nat → Value} {d : Nat} {st : List Value} {h : gm_H} {Q : gm_R → gm_H → Prop} {a0 a1 a2 a3 a5 a6 a7 a8 : Value} {x : Int32} : gm_W E d 24 260 [a0, a1, a2, a3, .int x, a5, a6, a7, a8] st h Q ↔ gm_W E d 24 262 [a0, a1, a2, a3, .int x, a5, a6, a7, a8] (.int x :: st) h Q := gw_loc m24 f24_260 rfl rfl
theorem f24_262 : gm_ft 24 262 = some (.iadd, 1) := by decide +kernel
theorem r24_262 {E : Nat → Value} {d : Nat} {st : List Value} {h : gm_H} {Q : gm_R → gm_H → Prop} {lv : List Value} {x y : Int32} : gm_W E d 24 262 lv (.int y :: .int x :: st) h Q ↔ gm_W E d 24 263 lv (.int (x + y) :: st) h Q := gw_pure m24 f24_262 rfl
theorem f24_263 : gm_ft 24 263 = some (.putfield 163, 3) := by decide +kernel
theorem r24_263 {E : Nat → Value} {d : Nat} {st : List Value} {h : gm_H} {Q : gm_R → gm_H → Prop} {lv : List Value} {a : Nat} {x : Int32} (hk : gm_kd h a = 5) : gm_W E d 24 263 lv (.int x :: .ref a :: st) h Q ↔ gm_W E d 24 266 lv st (gm_sf h a 25 (.int x)) Q := gw_wr m24 f24_263 rfl rfl rfl rfl rfl (gs_put k5_163 hk (by decide) (by decide) ⟨rfl, rfl⟩ (by decide))
theorem f24_266 : gm_ft 24 266 = some (.aload_n 0, 1) := by decide +kernel
theorem r24_266 {E : Nat → Value} {d : Nat} {st : List Value} {h : gm_H} {Q : gm_R → gm_H → Prop} {a1 a2 a3 a4 a5 a6 a7 a8 : Value} {x : Nat} : gm_W E d 24 266 [.ref x, a1, a2, a3, a4, a5, a6, a7, a8] st h Q ↔ gm_W E d 24 267 [.ref x, a1, a2, a3, a4, a5, a6, a7, a8] (.ref x :: st) h Q := gw_loc m24 f24_266 rfl rfl
theorem r24_266n {E : Nat → Value} {d : Nat} {st : List Value} {h : gm_H} {Q : gm_R → gm_H → Prop} {a1 a2 a3 a4 a5 a6 a7 a8 : Value}  : gm_W E d 24 266 [.null, a1, a2, a3, a4, a5, a6, a7, a8] st h Q ↔ gm_W E d 24 267 [.null, a1, a2, a3, a4, a5, a6, a7, a8] (.null :: st) h Q := gw_loc m24 f24_266 rfl rfl
theorem f24_267 : gm_ft 24 267 = some (.getfield 102, 3) := by decide +kernel
theorem r24_267 {E : Nat → Value} {d : Nat} {st : List Value} {h : gm_H} {Q : gm_R → gm_H → Prop} {lv : List Value} {a : Nat} (hk : gm_kd h a = 5) : gm_W E d 24 267 lv (.ref a :: st) h Q ↔ gm_W E d 24 270 lv (gm_fv h a 43 :: st) h Q := gw_rd m24 f24_267 rfl rfl rfl rfl (gs_get k5_102 hk (by decide))
theorem f24_270 : gm_ft 24 270 = some (.iload_n 1, 1) := by decide +kernel
theorem r24_270 {E : Nat → Value} {d : Nat} {st : List Value} {h : gm_H} {Q : gm_R → gm_H → Prop} {a0 a2 a3 a4 a5 a6 a7 a8 : Value} {x : Int32} : gm_W E d 24 270 [a0, .int x, a2, a3, a4, a5, a6, a7, a8] st h Q ↔ gm_W E d 24 271 [a0, .int x, a2, a3, a4, a5, a6, a7, a8] (.int x :: st) h Q := gw_loc m24 f24_270 rfl rfl
theorem f24_271 : gm_ft 24 271 = some (.iload 5, 2) := by decide +kernel
theorem r24_271 {E : Nat → Value} {d : Nat} {st : List Value} {h : gm_H} {Q : gm_R → gm_H → Prop} {a0 a1 a2 a3 a4 a6 a7 a8 : Value} {x : Int32} : gm_W E d 24 271 [a0, a1, a2, a3, a4, .int x, a6, a7, a8] st h Q ↔ gm_W E d 24 273 [a0, a1, a2, a3, a4, .int x, a6, a7, a8] (.int x :: st) h Q := gw_loc m24 f24_271 rfl rfl
theorem f24_273 : gm_ft 24 273 = some (.iastore, 1) := by decide +kernel
theorem r24_273 {E : Nat → Value} {d : Nat} {st : List Value} {h : gm_H} {Q : gm_R → gm_H → Prop} {lv : List Value} {a j : Nat} {x : Int32} (hk : gm_kd h a = 200) (hj : j < gm_ln h a) (hl : gm_ln h a < 2 ^ 31) : gm_W E d 24 273 lv (.int x :: .int (nI j) :: .ref a :: st) h Q ↔ gm_W E d 24 274 lv st (gm_sf h a j (.int x)) Q := gw_wr m24 f24_273 rfl rfl rfl rfl rfl (gs_st hk (by decide) hj hl)
theorem f24_274 : gm_ft 24 274 = some (.aload_n 0, 1) := by decide +kernel
theorem r24_274 {E : Nat → Value} {d : Nat} {st : List Value} {h : gm_H} {Q : gm_R → gm_H → Prop} {a1 a2 a3 a4 a5 a6 a7 a8 : Value} {x : Nat} : gm_W E d 24 274 [.ref x, a1, a2, a3, a4, a5, a6, a7, a8] st h Q ↔ gm_W E d 24 275 [.ref x, a1, a2, a3, a4, a5, a6, a7, a8] (.ref x :: st) h Q := gw_loc m24 f24_274 rfl rfl
theorem r24_274n {E : Nat → Value} {d : Nat} {st : List Value} {h : gm_H} {Q : gm_R → gm_H → Prop} {a1 a2 a3 a4 a5 a6 a7 a8 : Value}  : gm_W E d 24 274 [.null, a1, a2, a3, a4, a5, a6, a7, a8] st h Q ↔ gm_W E d 24 275 [.null, a1, a2, a3, a4, a5, a6, a7, a8] (.null :: st) h Q := gw_loc m24 f24_274 rfl rfl
theorem f24_275 : gm_ft 24 275 = some (.getfield 105, 3) := by decide +kernel
theorem r24_275 {E : Nat → Value} {d : Nat} {st : List Value} {h : gm_H} {Q : gm_R → gm_H → Prop} {lv : List Value} {a : Nat} (hk : gm_kd h a = 5) : gm_W E d 24 275 lv (.ref a :: st) h Q ↔ gm_W E d 24 278 lv (gm_fv h a 44 :: st) h Q := gw_rd m24 f24_275 rfl rfl rfl rfl (gs_get k5_105 hk (by decide))
theorem f24_278 : gm_ft 24 278 = some (.iload_n 1, 1) := by decide +kernel
theorem r24_278 {E : Nat → Value} {d : Nat} {st : List Value} {h : gm_H} {Q : gm_R → gm_H → Prop} {a0 a2 a3 a4 a5 a6 a7 a8 : Value} {x : Int32} : gm_W E d 24 278 [a0, .int x, a2, a3, a4, a5, a6, a7, a8] st h Q ↔ gm_W E d 24 279 [a0, .int x, a2, a3, a4, a5, a6, a7, a8] (.int x :: st) h Q := gw_loc m24 f24_278 rfl rfl
theorem f24_279 : gm_ft 24 279 = some (.aload_n 0, 1) := by decide +kernel
theorem r24_279 {E : Nat → Value} {d : Nat} {st : List Value} {h : gm_H} {Q : gm_R → gm_H → Prop} {a1 a2 a3 a4 a5 a6 a7 a8 : Value} {x : Nat} : gm_W E d 24 279 [.ref x, a1, a2, a3, a4, a5, a6, a7, a8] st h Q ↔ gm_W E d 24 280 [.ref x, a1, a2, a3, a4, a5, a6, a7, a8] (.ref x :: st) h Q := gw_loc m24 f24_279 rfl rfl
theorem r24_279n {E : Nat → Value} {d : Nat} {st : List Value} {h : gm_H} {Q : gm_R → gm_H → Prop} {a1 a2 a3 a4 a5 a6 a7 a8 : Value}  : gm_W E d 24 279 [.null, a1, a2, a3, a4, a5, a6, a7, a8] st h Q ↔ gm_W E d 24 280 [.null, a1, a2, a3, a4, a5, a6, a7, a8] (.null :: st) h Q := gw_loc m24 f24_279 rfl rfl
theorem f24_280 : gm_ft 24 280 = some (.aload_n 0, 1) := by decide +kernel
theorem r24_280 {E : Nat → Value} {d : Nat} {st : List Value} {h : gm_H} {Q : gm_R → gm_H → Prop} {a1 a2 a3 a4 a5 a6 a7 a8 : Value} {x : Nat} : gm_W E d 24 280 [.ref x, a1, a2, a3, a4, a5, a6, a7, a8] st h Q ↔ gm_W E d 24 281 [.ref x, a1, a2, a3, a4, a5, a6, a7, a8] (.ref x :: st) h Q := gw_loc m24 f24_280 rfl rfl
theorem r24_280n {E : Nat → Value} {d : Nat} {st : List Value} {h : gm_H} {Q : gm_R → gm_H → Prop} {a1 a2 a3 a4 a5 a6 a7 a8 : Value}  : gm_W E d 24 280 [.null, a1, a2, a3, a4, a5, a6, a7, a8] st h Q ↔ gm_W E d 24 281 [.null, a1, a2, a3, a4, a5, a6, a7, a8] (.null :: st) h Q := gw_loc m24 f24_280 rfl rfl
theorem f24_281 : gm_ft 24 281 = some (.getfield 13, 3) := by decide +kernel
theorem r24_281 {E : Nat → Value} {d : Nat} {st : List Value} {h : gm_H} {Q : gm_R → gm_H → Prop} {lv : List Value} {a : Nat} (hk : gm_kd h a = 5) : gm_W E d 24 281 lv (.ref a :: st) h Q ↔ gm_W E d 24 284 lv (gm_fv h a 10 :: st) h Q := gw_rd m24 f24_281 rfl rfl rfl rfl (gs_get k5_13 hk (by decide))
theorem f24_284 : gm_ft 24 284 = some (.iload_n 3, 1) := by decide +kernel
theorem r24_284 {E : Nat → Value} {d : Nat} {st : List Value} {h : gm_H} {Q : gm_R → gm_H → Prop} {a0 a1 a2 a4 a5 a6 a7 a8 : Value} {x : Int32} : gm_W E d 24 284 [a0, a1, a2, .int x, a4, a5, a6, a7, a8] st h Q ↔ gm_W E d 24 285 [a0, a1, a2, .int x, a4, a5, a6, a7, a8] (.int x :: st) h Q := gw_loc m24 f24_284 rfl rfl
theorem f24_285 : gm_ft 24 285 = some (.iaload, 1) := by decide +kernel
theorem r24_285 {E : Nat → Value} {d : Nat} {st : List Value} {h : gm_H} {Q : gm_R → gm_H → Prop} {lv : List Value} {a j : Nat} (hk : gm_kd h a % 100 = 0 ∧ 100 ≤ gm_kd h a ∧ gm_kd h a < 900) (hj : j < gm_ln h a) (hl : gm_ln h a < 2 ^ 31) : gm_W E d 24 285 lv (.int (nI j) :: .ref a :: st) h Q ↔ gm_W E d 24 286 lv (gm_fv h a j :: st) h Q := gw_rd m24 f24_285 rfl rfl rfl rfl (gs_ld (P := fun t => t == 0) hk.2 (by have := hk.1; simp [this] <;> omega) hj hl)
theorem f24_286 : gm_ft 24 286 = some (.iconst 4, 1) := by decide +kernel
theorem r24_286 {E : Nat → Value} {d : Nat} {st : List Value} {h : gm_H} {Q : gm_R → gm_H → Prop} {lv : List Value} : gm_W E d 24 286 lv st h Q ↔ gm_W E d 24 287 lv (.int (4 : Int32) :: st) h Q := gw_pure m24 f24_286 rfl
theorem f24_287 : gm_ft 24 287 = some (.if_icmp .ne 7, 3) := by decide +kernel
theorem r24_287 {E : Nat → Value} {d : Nat} {st : List Value} {h : gm_H} {Q : gm_R → gm_H → Prop} {lv : List Value} {x y : Int32} : gm_W E d 24 287 lv (.int y :: .int x :: st) h Q ↔ (if x = y then gm_W E d 24 290 lv st h Q else gm_W E d 24 294 lv st h Q) := (gw_br m24 f24_287 rfl rfl rfl rfl).trans gw_ifn
theorem f24_290 : gm_ft 24 290 = some (.iconst 3, 1) := by decide +kernel
theorem r24_290 {E : Nat → Value} {d : Nat} {st : List Value} {h : gm_H} {Q : gm_R → gm_H → Prop} {lv : List Value} : gm_W E d 24 290 lv st h Q ↔ gm_W E d 24 291 lv (.int (3 : Int32) :: st) h Q := gw_pure m24 f24_290 rfl
theorem f24_291 : gm_ft 24 291 = some (.goto 4, 3) := by decide +kernel
theorem r24_291 {E : Nat → Value} {d : Nat} {st : List Value} {h : gm_H} {Q : gm_R → gm_H → Prop} {lv : List Value} : gm_W E d 24 291 lv st h Q ↔ gm_W E d 24 295 lv st h Q := gw_brT m24 f24_291 rfl rfl rfl rfl
theorem f24_294 : gm_ft 24 294 = some (.iconst 2, 1) := by decide +kernel
theorem r24_294 {E : Nat → Value} {d : Nat} {st : List Value} {h : gm_H} {Q : gm_R → gm_H → Prop} {lv : List Value} : gm_W E d 24 294 lv st h Q ↔ gm_W E d 24 295 lv (.int (2 : Int32) :: st) h Q := gw_pure m24 f24_294 rfl
theorem f24_295 : gm_ft 24 295 = some (.iload 5, 2) := by decide +kernel
theorem r24_295 {E : Nat → Value} {d : Nat} {st : List Value} {h : gm_H} {Q : gm_R → gm_H → Prop} {a0 a1 a2 a3 a4 a6 a7 a8 : Value} {x : Int32} : gm_W E d 24 295 [a0, a1, a2, a3, a4, .int x, a6, a7, a8] st h Q ↔ gm_W E d 24 297 [a0, a1, a2, a3, a4, .int x, a6, a7, a8] (.int x :: st) h Q := gw_loc m24 f24_295 rfl rfl
theorem f24_297 : gm_ft 24 297 = some (.invokevirtual 189, 3) := by decide +kernel
theorem c24_297 {E : Nat → Value} {d : Nat} {st : List Value} {h : gm_H} {Q : gm_R → gm_H → Prop} {lv : List Value} {b0 : Int32} {b1 : Int32} {a : Nat} {Qc : gm_R → gm_H → Prop} (hs : (st.map fun v => v.category).sum ≤ 8) (hr : gm_kd h a = 5) (hd : 1 ≤ d) (hc : gm_Ca E (d - 1) 17 [.ref a, .int b0, .int b1] h Qc) (kn : ∀ (v9 : Option Value) (h9 : gm_H), Qc (.inl v9) h9 → gm_W E d 24 300 lv (v9.toList ++ st) h9 Q) (kx : ∀ (x9 : Nat) (h9 : gm_H), Qc (.inr x9) h9 → Q (.inr x9) h9) : gm_W E d 24 297 lv (.int b1 :: .int b0 :: .ref a :: st) h Q := gw_call (gn_call m24 f24_297 rfl rfl rfl rfl rfl rfl rfl (gs_virt (bs := [.int b1, .int b0]) (w := 885) (L := 3) rfl rfl rfl rfl hs (by simp [gm_en1]) hr (by decide)) (by decide)) m24 rfl rfl hd hc kn kx
theorem f24_300 : gm_ft 24 300 = some (.iastore, 1) := by decide +kernel
theorem r24_300 {E : Nat → Value} {d : Nat} {st : List Value} {h : gm_H} {Q : gm_R → gm_H → Prop} {lv : List Value} {a j : Nat} {x : Int32} (hk : gm_kd h a = 200) (hj : j < gm_ln h a) (hl : gm_ln h a < 2 ^ 31) : gm_W E d 24 300 lv (.int x :: .int (nI j) :: .ref a :: st) h Q ↔ gm_W E d 24 301 lv st (gm_sf h a j (.int x)) Q := gw_wr m24 f24_300 rfl rfl rfl rfl rfl (gs_st hk (by decide) hj hl)
theorem f24_301 : gm_ft 24 301 = some (.aload_n 0, 1) := by decide +kernel
theorem r24_301 {E : Nat → Value} {d : Nat} {st : List Value} {h : gm_H} {Q : gm_R → gm_H → Prop} {a1 a2 a3 a4 a5 a6 a7 a8 : Value} {x : Nat} : gm_W E d 24 301 [.ref x, a1, a2, a3, a4, a5, a6, a7, a8] st h Q ↔ gm_W E d 24 302 [.ref x, a1, a2, a3, a4, a5, a6, a7, a8] (.ref x :: st) h Q := gw_loc m24 f24_301 rfl rfl
theorem r24_301n {E : Nat → Value} {d : Nat} {st : List Value} {h : gm_H} {Q : gm_R → gm_H → Prop} {a1 a2 a3 a4 a5 a6 a7 a8 : Value}  : gm_W E d 24 301 [.null, a1, a2, a3, a4, a5, a6, a7, a8] st h Q ↔ gm_W E d 24 302 [.null, a1, a2, a3, a4, a5, a6, a7, a8] (.null :: st) h Q := gw_loc m24 f24_301 rfl rfl
theorem f24_302 : gm_ft 24 302 = some (.getfield 96, 3) := by decide +kernel
theorem r24_302 {E : Nat → Value} {d : Nat} {st : List Value} {h : gm_H} {Q : gm_R → gm_H → Prop} {lv : List Value} {a : Nat} (hk : gm_kd h a = 5) : gm_W E d 24 302 lv (.ref a :: st) h Q ↔ gm_W E d 24 305 lv (gm_fv h a 41 :: st) h Q := gw_rd m24 f24_302 rfl rfl rfl rfl (gs_get k5_96 hk (by decide))
theorem f24_305 : gm_ft 24 305 = some (.iload_n 1, 1) := by decide +kernel
theorem r24_305 {E : Nat → Value} {d : Nat} {st : List Value} {h : gm_H} {Q : gm_R → gm_H → Prop} {a0 a2 a3 a4 a5 a6 a7 a8 : Value} {x : Int32} : gm_W E d 24 305 [a0, .int x, a2, a3, a4, a5, a6, a7, a8] st h Q ↔ gm_W E d 24 306 [a0, .int x, a2, a3, a4, a5, a6, a7, a8] (.int x :: st) h Q := gw_loc m24 f24_305 rfl rfl
theorem f24_306 : gm_ft 24 306 = some (.iconst 2, 1) := by decide +kernel
theorem r24_306 {E : Nat → Value} {d : Nat} {st : List Value} {h : gm_H} {Q : gm_R → gm_H → Prop} {lv : List Value} : gm_W E d 24 306 lv st h Q ↔ gm_W E d 24 307 lv (.int (2 : Int32) :: st) h Q := gw_pure m24 f24_306 rfl
theorem f24_307 : gm_ft 24 307 = some (.iastore, 1) := by decide +kernel
theorem r24_307 {E : Nat → Value} {d : Nat} {st : List Value} {h : gm_H} {Q : gm_R → gm_H → Prop} {lv : List Value} {a j : Nat} {x : Int32} (hk : gm_kd h a = 200) (hj : j < gm_ln h a) (hl : gm_ln h a < 2 ^ 31) : gm_W E d 24 307 lv (.int x :: .int (nI j) :: .ref a :: st) h Q ↔ gm_W E d 24 308 lv st (gm_sf h a j (.int x)) Q := gw_wr m24 f24_307 rfl rfl rfl rfl rfl (gs_st hk (by decide) hj hl)
theorem f24_308 : gm_ft 24 308 = some (.aload_n 0, 1) := by decide +kernel
theorem r24_308 {E : Nat → Value} {d : Nat} {st : List Value} {h : gm_H} {Q : gm_R → gm_H → Prop} {a1 a2 a3 a4 a5 a6 a7 a8 : Value} {x : Nat} : gm_W E d 24 308 [.ref x, a1, a2, a3, a4, a5, a6, a7, a8] st h Q ↔ gm_W E d 24 309 [.ref x, a1, a2, a3, a4, a5, a6, a7, a8] (.ref x :: st) h Q := gw_loc m24 f24_308 rfl rfl
theorem r24_308n {E : Nat → Value} {d : Nat} {st : List Value} {h : gm_H} {Q : gm_R → gm_H → Prop} {a1 a2 a3 a4 a5 a6 a7 a8 : Value}  : gm_W E d 24 308 [.null, a1, a2, a3, a4, a5, a6, a7, a8] st h Q ↔ gm_W E d 24 309 [.null, a1, a2, a3, a4, a5, a6, a7, a8] (.null :: st) h Q := gw_loc m24 f24_308 rfl rfl
theorem f24_309 : gm_ft 24 309 = some (.iconst 3, 1) := by decide +kernel
theorem r24_309 {E : Nat → Value} {d : Nat} {st : List Value} {h : gm_H} {Q : gm_R → gm_H → Prop} {lv : List Value} : gm_W E d 24 309 lv st h Q ↔ gm_W E d 24 310 lv (.int (3 : Int32) :: st) h Q := gw_pure m24 f24_309 rfl
theorem f24_310 : gm_ft 24 310 = some (.aload_n 0, 1) := by decide +kernel
theorem r24_310 {E : Nat → Value} {d : Nat} {st : List Value} {h : gm_H} {Q : gm_R → gm_H → Prop} {a1 a2 a3 a4 a5 a6 a7 a8 : Value} {x : Nat} : gm_W E d 24 310 [.ref x, a1, a2, a3, a4, a5, a6, a7, a8] st h Q ↔ gm_W E d 24 311 [.ref x, a1, a2, a3, a4, a5, a6, a7, a8] (.ref x :: st) h Q := gw_loc m24 f24_310 rfl rfl
theorem r24_310n {E : Nat → Value} {d : Nat} {st : List Value} {h : gm_H} {Q : gm_R → gm_H → Prop} {a1 a2 a3 a4 a5 a6 a7 a8 : Value}  : gm_W E d 24 310 [.null, a1, a2, a3, a4, a5, a6, a7, a8] st h Q ↔ gm_W E d 24 311 [.null, a1, a2, a3, a4, a5, a6, a7, a8] (.null :: st) h Q := gw_loc m24 f24_310 rfl rfl
theorem f24_311 : gm_ft 24 311 = some (.getfield 99, 3) := by decide +kernel
theorem r24_311 {E : Nat → Value} {d : Nat} {st : List Value} {h : gm_H} {Q : gm_R → gm_H → Prop} {lv : List Value} {a : Nat} (hk : gm_kd h a = 5) : gm_W E d 24 311 lv (.ref a :: st) h Q ↔ gm_W E d 24 314 lv (gm_fv h a 42 :: st) h Q := gw_rd m24 f24_311 rfl rfl rfl rfl (gs_get k5_99 hk (by decide))
theorem f24_314 : gm_ft 24 314 = some (.iload_n 1, 1) := by decide +kernel
theorem r24_314 {E : Nat → Value} {d : Nat} {st : List Value} {h : gm_H} {Q : gm_R → gm_H → Prop} {a0 a2 a3 a4 a5 a6 a7 a8 : Value} {x : Int32} : gm_W E d 24 314 [a0, .int x, a2, a3, a4, a5, a6, a7, a8] st h Q ↔ gm_W E d 24 315 [a0, .int x, a2, a3, a4, a5, a6, a7, a8] (.int x :: st) h Q := gw_loc m24 f24_314 rfl rfl
theorem f24_315 : gm_ft 24 315 = some (.iaload, 1) := by decide +kernel
theorem r24_315 {E : Nat → Value} {d : Nat} {st : List Value} {h : gm_H} {Q : gm_R → gm_H → Prop} {lv : List Value} {a j : Nat} (hk : gm_kd h a % 100 = 0 ∧ 100 ≤ gm_kd h a ∧ gm_kd h a < 900) (hj : j < gm_ln h a) (hl : gm_ln h a < 2 ^ 31) : gm_W E d 24 315 lv (.int (nI j) :: .ref a :: st) h Q ↔ gm_W E d 24 316 lv (gm_fv h a j :: st) h Q := gw_rd m24 f24_315 rfl rfl rfl rfl (gs_ld (P := fun t => t == 0) hk.2 (by have := hk.1; simp [this] <;> omega) hj hl)
theorem f24_316 : gm_ft 24 316 = some (.iload 5, 2) := by decide +kernel
theorem r24_316 {E : Nat → Value} {d : Nat} {st : List Value} {h : gm_H} {Q : gm_R → gm_H → Prop} {a0 a1 a2 a3 a4 a6 a7 a8 : Value} {x : Int32} : gm_W E d 24 316 [a0, a1, a2, a3, a4, .int x, a6, a7, a8] st h Q ↔ gm_W E d 24 318 [a0, a1, a2, a3, a4, .int x, a6, a7, a8] (.int x :: st) h Q := gw_loc m24 f24_316 rfl rfl
theorem f24_318 : gm_ft 24 318 = some (.iload_n 2, 1) := by decide +kernel
theorem r24_318 {E : Nat → Value} {d : Nat} {st : List Value} {h : gm_H} {Q : gm_R → gm_H → Prop} {a0 a1 a3 a4 a5 a6 a7 a8 : Value} {x : Int32} : gm_W E d 24 318 [a0, a1, .int x, a3, a4, a5, a6, a7, a8] st h Q ↔ gm_W E d 24 319 [a0, a1, .int x, a3, a4, a5, a6, a7, a8] (.int x :: st) h Q := gw_loc m24 f24_318 rfl rfl
theorem f24_319 : gm_ft 24 319 = some (.invokevirtual 200, 3) := by decide +kernel
theorem c24_319 {E : Nat → Value} {d : Nat} {st : List Value} {h : gm_H} {Q : gm_R → gm_H → Prop} {lv : List Value} {b0 : Int32} {b1 : Int32} {b2 : Int32} {b3 : Int32} {a : Nat} {Qc : gm_R → gm_H → Prop} (hs : (st.map fun v => v.category).sum ≤ 8) (hr : gm_kd h a = 5) (hd : 1 ≤ d) (hc : gm_Ca E (d - 1) 15 [.ref a, .int b0, .int b1, .int b2, .int b3] h Qc) (kn : ∀ (v9 : Option Value) (h9 : gm_H), Qc (.inl v9) h9 → gm_W E d 24 322 lv (v9.toList ++ st) h9 Q) (kx : ∀ (x9 : Nat) (h9 : gm_H), Qc (.inr x9) h9 → Q (.inr x9) h9) : gm_W E d 24 319 lv (.int b3 :: .int b2 :: .int b1 :: .int b0 :: .ref a :: st) h Q := gw_call (gn_call m24 f24_319 rfl rfl rfl rfl rfl rfl rfl (gs_virt (bs := [.int b3, .int b2, .int b1, .int b0]) (w := 856) (L := 5) rfl rfl rfl rfl hs (by simp [gm_en1]) hr (by decide)) (by decide)) m24 rfl rfl hd hc kn kx
theorem f24_322 : gm_ft 24 322 = some (.return_, 1) := by decide +kernel
theorem r24_322 {E : Nat → Value} {d : Nat} {h : gm_H} {Q : gm_R → gm_H → Prop} {lv : List Value} : gm_W E d 24 322 lv [] h Q ↔ Q (.inl none) h := gw_ret m24 f24_322 rfl rfl rfl rfl rfl rfl rfl rfl rfl
/-! GraphReaderModel.endInstance(I)V -/
theorem m25 : gm_mt[25]? = some (⟨"GraphReaderModel", "endInstance", "(I)V"⟩, prog_7_method_24_code, 4, none, [], 5, 2) := rfl
theorem f25_0 : gm_ft 25 0 = some (.aload_n 0, 1) := by decide +kernel
theorem r25_0 {E : Nat → Value} {d : Nat} {st : List Value} {h : gm_H} {Q : gm_R → gm_H → Prop} {a1 a2 a3 : Value} {x : Nat} : gm_W E d 25 0 [.ref x, a1, a2, a3] st h Q ↔ gm_W E d 25 1 [.ref x, a1, a2, a3] (.ref x :: st) h Q := gw_loc m25 f25_0 rfl rfl
theorem r25_0n {E : Nat → Value} {d : Nat} {st : List Value} {h : gm_H} {Q : gm_R → gm_H → Prop} {a1 a2 a3 : Value}  : gm_W E d 25 0 [.null, a1, a2, a3] st h Q ↔ gm_W E d 25 1 [.null, a1, a2, a3] (.null :: st) h Q := gw_loc m25 f25_0 rfl rfl
theorem f25_1 : gm_ft 25 1 = some (.getfield 102, 3) := by decide +kernel
theorem r25_1 {E : Nat → Value} {d : Nat} {st : List Value} {h : gm_H} {Q : gm_R → gm_H → Prop} {lv : List Value} {a : Nat} (hk : gm_kd h a = 5) : gm_W E d 25 1 lv (.ref a :: st) h Q ↔ gm_W E d 25 4 lv (gm_fv h a 43 :: st) h Q := gw_rd m25 f25_1 rfl rfl rfl rfl (gs_get k5_102 hk (by decide))
theorem f25_4 : gm_ft 25 4 = some (.iload_n 1, 1) := by decide +kernel
theorem r25_4 {E : Nat → Value} {d : Nat} {st : List Value} {h : gm_H} {Q : gm_R → gm_H → Prop} {a0 a2 a3 : Value} {x : Int32} : gm_W E d 25 4 [a0, .int x, a2, a3] st h Q ↔ gm_W E d 25 5 [a0, .int x, a2, a3] (.int x :: st) h Q := gw_loc m25 f25_4 rfl rfl
theorem f25_5 : gm_ft 25 5 = some (.iaload, 1) := by decide +kernel
theorem r25_5 {E : Nat → Value} {d : Nat} {st : List Value} {h : gm_H} {Q : gm_R → gm_H → Prop} {lv : List Value} {a j : Nat} (hk : gm_kd h a % 100 = 0 ∧ 100 ≤ gm_kd h a ∧ gm_kd h a < 900) (hj : j < gm_ln h a) (hl : gm_ln h a < 2 ^ 31) : gm_W E d 25 5 lv (.int (nI j) :: .ref a :: st) h Q ↔ gm_W E d 25 6 lv (gm_fv h a j :: st) h Q := gw_rd m25 f25_5 rfl rfl rfl rfl (gs_ld (P := fun t => t == 0) hk.2 (by have := hk.1; simp [this] <;> omega) hj hl)
theorem f25_6 : gm_ft 25 6 = some (.istore_n 2, 1) := by decide +kernel
theorem r25_6 {E : Nat → Value} {d : Nat} {st : List Value} {h : gm_H} {Q : gm_R → gm_H → Prop} {a0 a1 a2 a3 : Value} {x : Int32} : gm_W E d 25 6 [a0, a1, a2, a3] (.int x :: st) h Q ↔ gm_W E d 25 7 [a0, gm_k a1, .int x, a3] st h Q := gw_loc m25 f25_6 rfl rfl
theorem f25_7 : gm_ft 25 7 = some (.aload_n 0, 1) := by decide +kernel
theorem r25_7 {E : Nat → Value} {d : Nat} {st : List Value} {h : gm_H} {Q : gm_R → gm_H → Prop} {a1 a2 a3 : Value} {x : Nat} : gm_W E d 25 7 [.ref x, a1, a2, a3] st h Q ↔ gm_W E d 25 8 [.ref x, a1, a2, a3] (.ref x :: st) h Q := gw_loc m25 f25_7 rfl rfl
theorem r25_7n {E : Nat → Value} {d : Nat} {st : List Value} {h : gm_H} {Q : gm_R → gm_H → Prop} {a1 a2 a3 : Value}  : gm_W E d 25 7 [.null, a1, a2, a3] st h Q ↔ gm_W E d 25 8 [.null, a1, a2, a3] (.null :: st) h Q := gw_loc m25 f25_7 rfl rfl
theorem f25_8 : gm_ft 25 8 = some (.getfield 42, 3) := by decide +kernel
theorem r25_8 {E : Nat → Value} {d : Nat} {st : List Value} {h : gm_H} {Q : gm_R → gm_H → Prop} {lv : List Value} {a : Nat} (hk : gm_kd h a = 5) : gm_W E d 25 8 lv (.ref a :: st) h Q ↔ gm_W E d 25 11 lv (gm_fv h a 19 :: st) h Q := gw_rd m25 f25_8 rfl rfl rfl rfl (gs_get k5_42 hk (by decide))
theorem f25_11 : gm_ft 25 11 = some (.iload_n 2, 1) := by decide +kernel
theorem r25_11 {E : Nat → Value} {d : Nat} {st : List Value} {h : gm_H} {Q : gm_R → gm_H → Prop} {a0 a1 a3 : Value} {x : Int32} : gm_W E d 25 11 [a0, a1, .int x, a3] st h Q ↔ gm_W E d 25 12 [a0, a1, .int x, a3] (.int x :: st) h Q := gw_loc m25 f25_11 rfl rfl
theorem f25_12 : gm_ft 25 12 = some (.iaload, 1) := by decide +kernel
theorem r25_12 {E : Nat → Value} {d : Nat} {st : List Value} {h : gm_H} {Q : gm_R → gm_H → Prop} {lv : List Value} {a j : Nat} (hk : gm_kd h a % 100 = 0 ∧ 100 ≤ gm_kd h a ∧ gm_kd h a < 900) (hj : j < gm_ln h a) (hl : gm_ln h a < 2 ^ 31) : gm_W E d 25 12 lv (.int (nI j) :: .ref a :: st) h Q ↔ gm_W E d 25 13 lv (gm_fv h a j :: st) h Q := gw_rd m25 f25_12 rfl rfl rfl rfl (gs_ld (P := fun t => t == 0) hk.2 (by have := hk.1; simp [this] <;> omega) hj hl)
theorem f25_13 : gm_ft 25 13 = some (.istore_n 3, 1) := by decide +kernel
theorem r25_13 {E : Nat → Value} {d : Nat} {st : List Value} {h : gm_H} {Q : gm_R → gm_H → Prop} {a0 a1 a2 a3 : Value} {x : Int32} : gm_W E d 25 13 [a0, a1, a2, a3] (.int x :: st) h Q ↔ gm_W E d 25 14 [a0, a1, gm_k a2, .int x] st h Q := gw_loc m25 f25_13 rfl rfl
theorem f25_14 : gm_ft 25 14 = some (.aload_n 0, 1) := by decide +kernel
theorem r25_14 {E : Nat → Value} {d : Nat} {st : List Value} {h : gm_H} {Q : gm_R → gm_H → Prop} {a1 a2 a3 : Value} {x : Nat} : gm_W E d 25 14 [.ref x, a1, a2, a3] st h Q ↔ gm_W E d 25 15 [.ref x, a1, a2, a3] (.ref x :: st) h Q := gw_loc m25 f25_14 rfl rfl
theorem r25_14n {E : Nat → Value} {d : Nat} {st : List Value} {h : gm_H} {Q : gm_R → gm_H → Prop} {a1 a2 a3 : Value}  : gm_W E d 25 14 [.null, a1, a2, a3] st h Q ↔ gm_W E d 25 15 [.null, a1, a2, a3] (.null :: st) h Q := gw_loc m25 f25_14 rfl rfl
theorem f25_15 : gm_ft 25 15 = some (.getfield 13, 3) := by decide +kernel
theorem r25_15 {E : Nat → Value} {d : Nat} {st : List Value} {h : gm_H} {Q : gm_R → gm_H → Prop} {lv : List Value} {a : Nat} (hk : gm_kd h a = 5) : gm_W E d 25 15 lv (.ref a :: st) h Q ↔ gm_W E d 25 18 lv (gm_fv h a 10 :: st) h Q := gw_rd m25 f25_15 rfl rfl rfl rfl (gs_get k5_13 hk (by decide))
theorem f25_18 : gm_ft 25 18 = some (.iload_n 3, 1) := by decide +kernel
theorem r25_18 {E : Nat → Value} {d : Nat} {st : List Value} {h : gm_H} {Q : gm_R → gm_H → Prop} {a0 a1 a2 : Value} {x : Int32} : gm_W E d 25 18 [a0, a1, a2, .int x] st h Q ↔ gm_W E d 25 19 [a0, a1, a2, .int x] (.int x :: st) h Q := gw_loc m25 f25_18 rfl rfl
theorem f25_19 : gm_ft 25 19 = some (.iaload, 1) := by decide +kernel
theorem r25_19 {E : Nat → Value} {d : Nat} {st : List Value} {h : gm_H} {Q : gm_R → gm_H → Prop} {lv : List Value} {a j : Nat} (hk : gm_kd h a % 100 = 0 ∧ 100 ≤ gm_kd h a ∧ gm_kd h a < 900) (hj : j < gm_ln h a) (hl : gm_ln h a < 2 ^ 31) : gm_W E d 25 19 lv (.int (nI j) :: .ref a :: st) h Q ↔ gm_W E d 25 20 lv (gm_fv h a j :: st) h Q := gw_rd m25 f25_19 rfl rfl rfl rfl (gs_ld (P := fun t => t == 0) hk.2 (by have := hk.1; simp [this] <;> omega) hj hl)
theorem f25_20 : gm_ft 25 20 = some (.iconst 4, 1) := by decide +kernel
theorem r25_20 {E : Nat → Value} {d : Nat} {st : List Value} {h : gm_H} {Q : gm_R → gm_H → Prop} {lv : List Value} : gm_W E d 25 20 lv st h Q ↔ gm_W E d 25 21 lv (.int (4 : Int32) :: st) h Q := gw_pure m25 f25_20 rfl
theorem f25_21 : gm_ft 25 21 = some (.if_icmp .ne 47, 3) := by decide +kernel
theorem r25_21 {E : Nat → Value} {d : Nat} {st : List Value} {h : gm_H} {Q : gm_R → gm_H → Prop} {lv : List Value} {x y : Int32} : gm_W E d 25 21 lv (.int y :: .int x :: st) h Q ↔ (if x = y then gm_W E d 25 24 lv st h Q else gm_W E d 25 68 lv st h Q) := (gw_br m25 f25_21 rfl rfl rfl rfl).trans gw_ifn
theorem f25_24 : gm_ft 25 24 = some (.aload_n 0, 1) := by decide +kernel
theorem r25_24 {E : Nat → Value} {d : Nat} {st : List Value} {h : gm_H} {Q : gm_R → gm_H → Prop} {a1 a2 a3 : Value} {x : Nat} : gm_W E d 25 24 [.ref x, a1, a2, a3] st h Q ↔ gm_W E d 25 25 [.ref x, a1, a2, a3] (.ref x :: st) h Q := gw_loc m25 f25_24 rfl rfl
theorem r25_24n {E : Nat → Value} {d : Nat} {st : List Value} {h : gm_H} {Q : gm_R → gm_H → Prop} {a1 a2 a3 : Value}  : gm_W E d 25 24 [.null, a1, a2, a3] st h Q ↔ gm_W E d 25 25 [.null, a1, a2, a3] (.null :: st) h Q := gw_loc m25 f25_24 rfl rfl
theorem f25_25 : gm_ft 25 25 = some (.getfield 23, 3) := by decide +kernel
theorem r25_25 {E : Nat → Value} {d : Nat} {st : List Value} {h : gm_H} {Q : gm_R → gm_H → Prop} {lv : List Value} {a : Nat} (hk : gm_kd h a = 5) : gm_W E d 25 25 lv (.ref a :: st) h Q ↔ gm_W E d 25 28 lv (gm_fv h a 13 :: st) h Q := gw_rd m25 f25_25 rfl rfl rfl rfl (gs_get k5_23 hk (by decide))
theorem f25_28 : gm_ft 25 28 = some (.iload_n 3, 1) := by decide +kernel
theorem r25_28 {E : Nat → Value} {d : Nat} {st : List Value} {h : gm_H} {Q : gm_R → gm_H → Prop} {a0 a1 a2 : Value} {x : Int32} : gm_W E d 25 28 [a0, a1, a2, .int x] st h Q ↔ gm_W E d 25 29 [a0, a1, a2, .int x] (.int x :: st) h Q := gw_loc m25 f25_28 rfl rfl
theorem f25_29 : gm_ft 25 29 = some (.iaload, 1) := by decide +kernel
theorem r25_29 {E : Nat → Value} {d : Nat} {st : List Value} {h : gm_H} {Q : gm_R → gm_H → Prop} {lv : List Value} {a j : Nat} (hk : gm_kd h a % 100 = 0 ∧ 100 ≤ gm_kd h a ∧ gm_kd h a < 900) (hj : j < gm_ln h a) (hl : gm_ln h a < 2 ^ 31) : gm_W E d 25 29 lv (.int (nI j) :: .ref a :: st) h Q ↔ gm_W E d 25 30 lv (gm_fv h a j :: st) h Q := gw_rd m25 f25_29 rfl rfl rfl rfl (gs_ld (P := fun t => t == 0) hk.2 (by have := hk.1; simp [this] <;> omega) hj hl)
theorem f25_30 : gm_ft 25 30 = some (.ifCond .le 38, 3) := by decide +kernel
theorem r25_30 {E : Nat → Value} {d : Nat} {st : List Value} {h : gm_H} {Q : gm_R → gm_H → Prop} {lv : List Value} {x : Int32} : gm_W E d 25 30 lv (.int x :: st) h Q ↔ (if x ≤ 0 then gm_W E d 25 68 lv st h Q else gm_W E d 25 33 lv st h Q) := (gw_br m25 f25_30 rfl rfl rfl rfl).trans gw_if
theorem f25_33 : gm_ft 25 33 = some (.aload_n 0, 1) := by decide +kernel
theorem r25_33 {E : Nat → Value} {d : Nat} {st : List Value} {h : gm_H} {Q : gm_R → gm_H → Prop} {a1 a2 a3 : Value} {x : Nat} : gm_W E d 25 33 [.ref x, a1, a2, a3] st h Q ↔ gm_W E d 25 34 [.ref x, a1, a2, a3] (.ref x :: st) h Q := gw_loc m25 f25_33 rfl rfl
theorem r25_33n {E : Nat → Value} {d : Nat} {st : List Value} {h : gm_H} {Q : gm_R → gm_H → Prop} {a1 a2 a3 : Value}  : gm_W E d 25 33 [.null, a1, a2, a3] st h Q ↔ gm_W E d 25 34 [.null, a1, a2, a3] (.null :: st) h Q := gw_loc m25 f25_33 rfl rfl
theorem f25_34 : gm_ft 25 34 = some (.getfield 29, 3) := by decide +kernel
theorem r25_34 {E : Nat → Value} {d : Nat} {st : List Value} {h : gm_H} {Q : gm_R → gm_H → Prop} {lv : List Value} {a : Nat} (hk : gm_kd h a = 5) : gm_W E d 25 34 lv (.ref a :: st) h Q ↔ gm_W E d 25 37 lv (gm_fv h a 15 :: st) h Q := gw_rd m25 f25_34 rfl rfl rfl rfl (gs_get k5_29 hk (by decide))
theorem f25_37 : gm_ft 25 37 = some (.iconst 4, 1) := by decide +kernel
theorem r25_37 {E : Nat → Value} {d : Nat} {st : List Value} {h : gm_H} {Q : gm_R → gm_H → Prop} {lv : List Value} : gm_W E d 25 37 lv st h Q ↔ gm_W E d 25 38 lv (.int (4 : Int32) :: st) h Q := gw_pure m25 f25_37 rfl
theorem f25_38 : gm_ft 25 38 = some (.iload_n 3, 1) := by decide +kernel
theorem r25_38 {E : Nat → Value} {d : Nat} {st : List Value} {h : gm_H} {Q : gm_R → gm_H → Prop} {a0 a1 a2 : Value} {x : Int32} : gm_W E d 25 38 [a0, a1, a2, .int x] st h Q ↔ gm_W E d 25 39 [a0, a1, a2, .int x] (.int x :: st) h Q := gw_loc m25 f25_38 rfl rfl
theorem f25_39 : gm_ft 25 39 = some (.imul, 1) := by decide +kernel
theorem r25_39 {E : Nat → Value} {d : Nat} {st : List Value} {h : gm_H} {Q : gm_R → gm_H → Prop} {lv : List Value} {x y : Int32} : gm_W E d 25 39 lv (.int y :: .int x :: st) h Q ↔ gm_W E d 25 40 lv (.int (x * y) :: st) h Q := gw_pure m25 f25_39 rfl
theorem f25_40 : gm_ft 25 40 = some (.iaload, 1) := by decide +kernel
theorem r25_40 {E : Nat → Value} {d : Nat} {st : List Value} {h : gm_H} {Q : gm_R → gm_H → Prop} {lv : List Value} {a j : Nat} (hk : gm_kd h a % 100 = 0 ∧ 100 ≤ gm_kd h a ∧ gm_kd h a < 900) (hj : j < gm_ln h a) (hl : gm_ln h a < 2 ^ 31) : gm_W E d 25 40 lv (.int (nI j) :: .ref a :: st) h Q ↔ gm_W E d 25 41 lv (gm_fv h a j :: st) h Q := gw_rd m25 f25_40 rfl rfl rfl rfl (gs_ld (P := fun t => t == 0) hk.2 (by have := hk.1; simp [this] <;> omega) hj hl)
theorem f25_41 : gm_ft 25 41 = some (.bipush 6, 2) := by decide +kernel
theorem r25_41 {E : Nat → Value} {d : Nat} {st : List Value} {h : gm_H} {Q : gm_R → gm_H → Prop} {lv : List Value} : gm_W E d 25 41 lv st h Q ↔ gm_W E d 25 43 lv (.int (6 : Int32) :: st) h Q := gw_pure m25 f25_41 rfl
theorem f25_43 : gm_ft 25 43 = some (.if_icmp .ge 25, 3) := by decide +kernel
theorem r25_43 {E : Nat → Value} {d : Nat} {st : List Value} {h : gm_H} {Q : gm_R → gm_H → Prop} {lv : List Value} {x y : Int32} : gm_W E d 25 43 lv (.int y :: .int x :: st) h Q ↔ (if y ≤ x then gm_W E d 25 68 lv st h Q else gm_W E d 25 46 lv st h Q) := (gw_br m25 f25_43 rfl rfl rfl rfl).trans gw_if
theorem f25_46 : gm_ft 25 46 = some (.aload_n 0, 1) := by decide +kernel
theorem r25_46 {E : Nat → Value} {d : Nat} {st : List Value} {h : gm_H} {Q : gm_R → gm_H → Prop} {a1 a2 a3 : Value} {x : Nat} : gm_W E d 25 46 [.ref x, a1, a2, a3] st h Q ↔ gm_W E d 25 47 [.ref x, a1, a2, a3] (.ref x :: st) h Q := gw_loc m25 f25_46 rfl rfl
theorem r25_46n {E : Nat → Value} {d : Nat} {st : List Value} {h : gm_H} {Q : gm_R → gm_H → Prop} {a1 a2 a3 : Value}  : gm_W E d 25 46 [.null, a1, a2, a3] st h Q ↔ gm_W E d 25 47 [.null, a1, a2, a3] (.null :: st) h Q := gw_loc m25 f25_46 rfl rfl
theorem f25_47 : gm_ft 25 47 = some (.getfield 54, 3) := by decide +kernel
theorem r25_47 {E : Nat → Value} {d : Nat} {st : List Value} {h : gm_H} {Q : gm_R → gm_H → Prop} {lv : List Value} {a : Nat} (hk : gm_kd h a = 5) : gm_W E d 25 47 lv (.ref a :: st) h Q ↔ gm_W E d 25 50 lv (gm_fv h a 24 :: st) h Q := gw_rd m25 f25_47 rfl rfl rfl rfl (gs_get k5_54 hk (by decide))
theorem f25_50 : gm_ft 25 50 = some (.aload_n 0, 1) := by decide +kernel
theorem r25_50 {E : Nat → Value} {d : Nat} {st : List Value} {h : gm_H} {Q : gm_R → gm_H → Prop} {a1 a2 a3 : Value} {x : Nat} : gm_W E d 25 50 [.ref x, a1, a2, a3] st h Q ↔ gm_W E d 25 51 [.ref x, a1, a2, a3] (.ref x :: st) h Q := gw_loc m25 f25_50 rfl rfl
theorem r25_50n {E : Nat → Value} {d : Nat} {st : List Value} {h : gm_H} {Q : gm_R → gm_H → Prop} {a1 a2 a3 : Value}  : gm_W E d 25 50 [.null, a1, a2, a3] st h Q ↔ gm_W E d 25 51 [.null, a1, a2, a3] (.null :: st) h Q := gw_loc m25 f25_50 rfl rfl
theorem f25_51 : gm_ft 25 51 = some (.getfield 48, 3) := by decide +kernel
theorem r25_51 {E : Nat → Value} {d : Nat} {st : List Value} {h : gm_H} {Q : gm_R → gm_H → Prop} {lv : List Value} {a : Nat} (hk : gm_kd h a = 5) : gm_W E d 25 51 lv (.ref a :: st) h Q ↔ gm_W E d 25 54 lv (gm_fv h a 21 :: st) h Q := gw_rd m25 f25_51 rfl rfl rfl rfl (gs_get k5_48 hk (by decide))
theorem f25_54 : gm_ft 25 54 = some (.iload_n 2, 1) := by decide +kernel
theorem r25_54 {E : Nat → Value} {d : Nat} {st : List Value} {h : gm_H} {Q : gm_R → gm_H → Prop} {a0 a1 a3 : Value} {x : Int32} : gm_W E d 25 54 [a0, a1, .int x, a3] st h Q ↔ gm_W E d 25 55 [a0, a1, .int x, a3] (.int x :: st) h Q := gw_loc m25 f25_54 rfl rfl
theorem f25_55 : gm_ft 25 55 = some (.iaload, 1) := by decide +kernel
theorem r25_55 {E : Nat → Value} {d : Nat} {st : List Value} {h : gm_H} {Q : gm_R → gm_H → Prop} {lv : List Value} {a j : Nat} (hk : gm_kd h a % 100 = 0 ∧ 100 ≤ gm_kd h a ∧ gm_kd h a < 900) (hj : j < gm_ln h a) (hl : gm_ln h a < 2 ^ 31) : gm_W E d 25 55 lv (.int (nI j) :: .ref a :: st) h Q ↔ gm_W E d 25 56 lv (gm_fv h a j :: st) h Q := gw_rd m25 f25_55 rfl rfl rfl rfl (gs_ld (P := fun t => t == 0) hk.2 (by have := hk.1; simp [this] <;> omega) hj hl)
theorem f25_56 : gm_ft 25 56 = some (.laload, 1) := by decide +kernel
theorem r25_56 {E : Nat → Value} {d : Nat} {st : List Value} {h : gm_H} {Q : gm_R → gm_H → Prop} {lv : List Value} {a j : Nat} (hk : gm_kd h a % 100 = 1 ∧ 100 ≤ gm_kd h a ∧ gm_kd h a < 900) (hj : j < gm_ln h a) (hl : gm_ln h a < 2 ^ 31) : gm_W E d 25 56 lv (.int (nI j) :: .ref a :: st) h Q ↔ gm_W E d 25 57 lv (gm_fv h a j :: st) h Q := gw_rd m25 f25_56 rfl rfl rfl rfl (gs_ld (P := fun t => t == 1) hk.2 (by have := hk.1; simp [this] <;> omega) hj hl)
theorem f25_57 : gm_ft 25 57 = some (.lconst 0, 1) := by decide +kernel
theorem r25_57 {E : Nat → Value} {d : Nat} {st : List Value} {h : gm_H} {Q : gm_R → gm_H → Prop} {lv : List Value} : gm_W E d 25 57 lv st h Q ↔ gm_W E d 25 58 lv (.long 0 :: st) h Q := gw_pure m25 f25_57 rfl
theorem f25_58 : gm_ft 25 58 = some (.lcmp, 1) := by decide +kernel
theorem r25_58 {E : Nat → Value} {d : Nat} {st : List Value} {h : gm_H} {Q : gm_R → gm_H → Prop} {lv : List Value} {x y : Int64} : gm_W E d 25 58 lv (.long y :: .long x :: st) h Q ↔ gm_W E d 25 59 lv (.int (lg_cmp x y) :: st) h Q := gw_pure m25 f25_58 rfl
theorem f25_59 : gm_ft 25 59 = some (.ifCond .ge 9, 3) := by decide +kernel
theorem r25_59 {E : Nat → Value} {d : Nat} {st : List Value} {h : gm_H} {Q : gm_R → gm_H → Prop} {lv : List Value} {x : Int32} : gm_W E d 25 59 lv (.int x :: st) h Q ↔ (if 0 ≤ x then gm_W E d 25 68 lv st h Q else gm_W E d 25 62 lv st h Q) := (gw_br m25 f25_59 rfl rfl rfl rfl).trans gw_if
theorem f25_62 : gm_ft 25 62 = some (.aload_n 0, 1) := by decide +kernel
theorem r25_62 {E : Nat → Value} {d : Nat} {st : List Value} {h : gm_H} {Q : gm_R → gm_H → Prop} {a1 a2 a3 : Value} {x : Nat} : gm_W E d 25 62 [.ref x, a1, a2, a3] st h Q ↔ gm_W E d 25 63 [.ref x, a1, a2, a3] (.ref x :: st) h Q := gw_loc m25 f25_62 rfl rfl
theorem r25_62n {E : Nat → Value} {d : Nat} {st : List Value} {h : gm_H} {Q : gm_R → gm_H → Prop} {a1 a2 a3 : Value}  : gm_W E d 25 62 [.null, a1, a2, a3] st h Q ↔ gm_W E d 25 63 [.null, a1, a2, a3] (.null :: st) h Q := gw_loc m25 f25_62 rfl rfl
theorem f25_63 : gm_ft 25 63 = some (.bipush (-6), 2) := by decide +kernel
theorem r25_63 {E : Nat → Value} {d : Nat} {st : List Value} {h : gm_H} {Q : gm_R → gm_H → Prop} {lv : List Value} : gm_W E d 25 63 lv st h Q ↔ gm_W E d 25 65 lv (.int (-6 : Int32) :: st) h Q := gw_pure m25 f25_63 rfl
theorem f25_65 : gm_ft 25 65 = some (.invokevirtual 151, 3) := by decide +kernel
theorem c25_65 {E : Nat → Value} {d : Nat} {st : List Value} {h : gm_H} {Q : gm_R → gm_H → Prop} {lv : List Value} {b0 : Int32} {a : Nat} {Qc : gm_R → gm_H → Prop} (hs : (st.map fun v => v.category).sum ≤ 8) (hr : gm_kd h a = 5) (hd : 1 ≤ d) (hc : gm_Ca E (d - 1) 10 [.ref a, .int b0] h Qc) (kn : ∀ (v9 : Option Value) (h9 : gm_H), Qc (.inl v9) h9 → gm_W E d 25 68 lv (v9.toList ++ st) h9 Q) (kx : ∀ (x9 : Nat) (h9 : gm_H), Qc (.inr x9) h9 → Q (.inr x9) h9) : gm_W E d 25 65 lv (.int b0 :: .ref a :: st) h Q := gw_call (gn_call m25 f25_65 rfl rfl rfl rfl rfl rfl rfl (gs_virt (bs := [.int b0]) (w := 844) (L := 2) rfl rfl rfl rfl hs (by simp [gm_en1]) hr (by decide)) (by decide)) m25 rfl rfl hd hc kn kx
theorem f25_68 : gm_ft 25 68 = some (.aload_n 0, 1) := by decide +kernel
theorem r25_68 {E : Nat → Value} {d : Nat} {st : List Value} {h : gm_H} {Q : gm_R → gm_H → Prop} {a1 a2 a3 : Value} {x : Nat} : gm_W E d 25 68 [.ref x, a1, a2, a3] st h Q ↔ gm_W E d 25 69 [.ref x, a1, a2, a3] (.ref x :: st) h Q := gw_loc m25 f25_68 rfl rfl
theorem r25_68n {E : Nat → Value} {d : Nat} {st : List Value} {h : gm_H} {Q : gm_R → gm_H → Prop} {a1 a2 a3 : Value}  : gm_W E d 25 68 [.null, a1, a2, a3] st h Q ↔ gm_W E d 25 69 [.null, a1, a2, a3] (.null :: st) h Q := gw_loc m25 f25_68 rfl rfl
theorem f25_69 : gm_ft 25 69 = some (.getfield 145, 3) := by decide +kernel
theorem r25_69 {E : Nat → Value} {d : Nat} {st : List Value} {h : gm_H} {Q : gm_R → gm_H → Prop} {lv : List Value} {a : Nat} (hk : gm_kd h a = 5) : gm_W E d 25 69 lv (.ref a :: st) h Q ↔ gm_W E d 25 72 lv (gm_fv h a 8 :: st) h Q := gw_rd m25 f25_69 rfl rfl rfl rfl (gs_get k5_145 hk (by decide))
theorem f25_72 : gm_ft 25 72 = some (.ifCond .eq 4, 3) := by decide +kernel
theorem r25_72 {E : Nat → Value} {d : Nat} {st : List Value} {h : gm_H} {Q : gm_R → gm_H → Prop} {lv : List Value} {x : Int32} : gm_W E d 25 72 lv (.int x :: st) h Q ↔ (if x = 0 then gm_W E d 25 76 lv st h Q else gm_W E d 25 75 lv st h Q) := (gw_br m25 f25_72 rfl rfl rfl rfl).trans gw_if
theorem f25_75 : gm_ft 25 75 = some (.return_, 1) := by decide +kernel
theorem r25_75 {E : Nat → Value} {d : Nat} {h : gm_H} {Q : gm_R → gm_H → Prop} {lv : List Value} : gm_W E d 25 75 lv [] h Q ↔ Q (.inl none) h := gw_ret m25 f25_75 rfl rfl rfl rfl rfl rfl rfl rfl rfl
theorem f25_76 : gm_ft 25 76 = some (.aload_n 0, 1) := by decide +kernel
theorem r25_76 {E : Nat → Value} {d : Nat} {st : List Value} {h : gm_H} {Q : gm_R → gm_H → Prop} {a1 a2 a3 : Value} {x : Nat} : gm_W E d 25 76 [.ref x, a1, a2, a3] st h Q ↔ gm_W E d 25 77 [.ref x, a1, a2, a3] (.ref x :: st) h Q := gw_loc m25 f25_76 rfl rfl
theorem r25_76n {E : Nat → Value} {d : Nat} {st : List Value} {h : gm_H} {Q : gm_R → gm_H → Prop} {a1 a2 a3 : Value}  : gm_W E d 25 76 [.null, a1, a2, a3] st h Q ↔ gm_W E d 25 77 [.null, a1, a2, a3] (.null :: st) h Q := gw_loc m25 f25_76 rfl rfl
theorem f25_77 : gm_ft 25 77 = some (.getfield 57, 3) := by decide +kernel
theorem r25_77 {E : Nat → Value} {d : Nat} {st : List Value} {h : gm_H} {Q : gm_R → gm_H → Prop} {lv : List Value} {a : Nat} (hk : gm_kd h a = 5) : gm_W E d 25 77 lv (.ref a :: st) h Q ↔ gm_W E d 25 80 lv (gm_fv h a 26 :: st) h Q := gw_rd m25 f25_77 rfl rfl rfl rfl (gs_get k5_57 hk (by decide))
theorem f25_80 : gm_ft 25 80 = some (.aload_n 0, 1) := by decide +kernel
theorem r25_80 {E : Nat → Value} {d : Nat} {st : List Value} {h : gm_H} {Q : gm_R → gm_H → Prop} {a1 a2 a3 : Value} {x : Nat} : gm_W E d 25 80 [.ref x, a1, a2, a3] st h Q ↔ gm_W E d 25 81 [.ref x, a1, a2, a3] (.ref x :: st) h Q := gw_loc m25 f25_80 rfl rfl
theorem r25_80n {E : Nat → Value} {d : Nat} {st : List Value} {h : gm_H} {Q : gm_R → gm_H → Prop} {a1 a2 a3 : Value}  : gm_W E d 25 80 [.null, a1, a2, a3] st h Q ↔ gm_W E d 25 81 [.null, a1, a2, a3] (.null :: st) h Q := gw_loc m25 f25_80 rfl rfl
theorem f25_81 : gm_ft 25 81 = some (.getfield 105, 3) := by decide +kernel
theorem r25_81 {E : Nat → Value} {d : Nat} {st : List Value} {h : gm_H} {Q : gm_R → gm_H → Prop} {lv : List Value} {a : Nat} (hk : gm_kd h a = 5) : gm_W E d 25 81 lv (.ref a :: st) h Q ↔ gm_W E d 25 84 lv (gm_fv h a 44 :: st) h Q := gw_rd m25 f25_81 rfl rfl rfl rfl (gs_get k5_105 hk (by decide))
theorem f25_84 : gm_ft 25 84 = some (.iload_n 1, 1) := by decide +kernel
theorem r25_84 {E : Nat → Value} {d : Nat} {st : List Value} {h : gm_H} {Q : gm_R → gm_H → Prop} {a0 a2 a3 : Value} {x : Int32} : gm_W E d 25 84 [a0, .int x, a2, a3] st h Q ↔ gm_W E d 25 85 [a0, .int x, a2, a3] (.int x :: st) h Q := gw_loc m25 f25_84 rfl rfl
theorem f25_85 : gm_ft 25 85 = some (.iaload, 1) := by decide +kernel
theorem r25_85 {E : Nat → Value} {d : Nat} {st : List Value} {h : gm_H} {Q : gm_R → gm_H → Prop} {lv : List Value} {a j : Nat} (hk : gm_kd h a % 100 = 0 ∧ 100 ≤ gm_kd h a ∧ gm_kd h a < 900) (hj : j < gm_ln h a) (hl : gm_ln h a < 2 ^ 31) : gm_W E d 25 85 lv (.int (nI j) :: .ref a :: st) h Q ↔ gm_W E d 25 86 lv (gm_fv h a j :: st) h Q := gw_rd m25 f25_85 rfl rfl rfl rfl (gs_ld (P := fun t => t == 0) hk.2 (by have := hk.1; simp [this] <;> omega) hj hl)
theorem f25_86 : gm_ft 25 86 = some (.iconst 2, 1) := by decide +kernel
theorem r25_86 {E : Nat → Value} {d : Nat} {st : List Value} {h : gm_H} {Q : gm_R → gm_H → Prop} {lv : List Value} : gm_W E d 25 86 lv st h Q ↔ gm_W E d 25 87 lv (.int (2 : Int32) :: st) h Q := gw_pure m25 f25_86 rfl
theorem f25_87 : gm_ft 25 87 = some (.iastore, 1) := by decide +kernel
theorem r25_87 {E : Nat → Value} {d : Nat} {st : List Value} {h : gm_H} {Q : gm_R → gm_H → Prop} {lv : List Value} {a j : Nat} {x : Int32} (hk : gm_kd h a = 200) (hj : j < gm_ln h a) (hl : gm_ln h a < 2 ^ 31) : gm_W E d 25 87 lv (.int x :: .int (nI j) :: .ref a :: st) h Q ↔ gm_W E d 25 88 lv st (gm_sf h a j (.int x)) Q := gw_wr m25 f25_87 rfl rfl rfl rfl rfl (gs_st hk (by decide) hj hl)
theorem f25_88 : gm_ft 25 88 = some (.aload_n 0, 1) := by decide +kernel
theorem r25_88 {E : Nat → Value} {d : Nat} {st : List Value} {h : gm_H} {Q : gm_R → gm_H → Prop} {a1 a2 a3 : Value} {x : Nat} : gm_W E d 25 88 [.ref x, a1, a2, a3] st h Q ↔ gm_W E d 25 89 [.ref x, a1, a2, a3] (.ref x :: st) h Q := gw_loc m25 f25_88 rfl rfl
theorem r25_88n {E : Nat → Value} {d : Nat} {st : List Value} {h : gm_H} {Q : gm_R → gm_H → Prop} {a1 a2 a3 : Value}  : gm_W E d 25 88 [.null, a1, a2, a3] st h Q ↔ gm_W E d 25 89 [.null, a1, a2, a3] (.null :: st) h Q := gw_loc m25 f25_88 rfl rfl
theorem f25_89 : gm_ft 25 89 = some (.iload_n 2, 1) := by decide +kernel
theorem r25_89 {E : Nat → Value} {d : Nat} {st : List Value} {h : gm_H} {Q : gm_R → gm_H → Prop} {a0 a1 a3 : Value} {x : Int32} : gm_W E d 25 89 [a0, a1, .int x, a3] st h Q ↔ gm_W E d 25 90 [a0, a1, .int x, a3] (.int x :: st) h Q := gw_loc m25 f25_89 rfl rfl
theorem f25_90 : gm_ft 25 90 = some (.invokevirtual 182, 3) := by decide +kernel
theorem c25_90 {E : Nat → Value} {d : Nat} {st : List Value} {h : gm_H} {Q : gm_R → gm_H → Prop} {lv : List Value} {b0 : Int32} {a : Nat} {Qc : gm_R → gm_H → Prop} (hs : (st.map fun v => v.category).sum ≤ 8) (hr : gm_kd h a = 5) (hd : 1 ≤ d) (hc : gm_Ca E (d - 1) 16 [.ref a, .int b0] h Qc) (kn : ∀ (v9 : Option Value) (h9 : gm_H), Qc (.inl v9) h9 → gm_W E d 25 93 lv (v9.toList ++ st) h9 Q) (kx : ∀ (x9 : Nat) (h9 : gm_H), Qc (.inr x9) h9 → Q (.inr x9) h9) : gm_W E d 25 90 lv (.int b0 :: .ref a :: st) h Q := gw_call (gn_call m25 f25_90 rfl rfl rfl rfl rfl rfl rfl (gs_virt (bs := [.int b0]) (w := 872) (L := 2) rfl rfl rfl rfl hs (by simp [gm_en1]) hr (by decide)) (by decide)) m25 rfl rfl hd hc kn kx
theorem f25_93 : gm_ft 25 93 = some (.return_, 1) := by decide +kernel
theorem r25_93 {E : Nat → Value} {d : Nat} {h : gm_H} {Q : gm_R → gm_H → Prop} {lv : List Value} : gm_W E d 25 93 lv [] h Q ↔ Q (.inl none) h := gw_ret m25 f25_93 rfl rfl rfl rfl rfl rfl rfl rfl rfl
/-! GraphReaderModel.newArray(I)V -/
theorem m26 : gm_mt[26]? = some (⟨"GraphReaderModel", "newArray", "(I)V"⟩, prog_7_method_25_code, 8, none, [], 5, 2) := rfl
theorem f26_0 : gm_ft 26 0 = some (.aload_n 0, 1) := by decide +kernel
theorem r26_0 {E : Nat → Value} {d : Nat} {st : List Value} {h : gm_H} {Q : gm_R → gm_H → Prop} {a1 a2 a3 a4 a5 a6 a7 : Value} {x : Nat} : gm_W E d 26 0 [.ref x, a1, a2, a3, a4, a5, a6, a7] st h Q ↔ gm_W E d 26 1 [.ref x, a1, a2, a3, a4, a5, a6, a7] (.ref x :: st) h Q := gw_loc m26 f26_0 rfl rfl
theorem r26_0n {E : Nat → Value} {d : Nat} {st : List Value} {h : gm_H} {Q : gm_R → gm_H → Prop} {a1 a2 a3 a4 a5 a6 a7 : Value}  : gm_W E d 26 0 [.null, a1, a2, a3, a4, a5, a6, a7] st h Q ↔ gm_W E d 26 1 [.null, a1, a2, a3, a4, a5, a6, a7] (.null :: st) h Q := gw_loc m26 f26_0 rfl rfl
theorem f26_1 : gm_ft 26 1 = some (.getfield 178, 3) := by decide +kernel
theorem r26_1 {E : Nat → Value} {d : Nat} {st : List Value} {h : gm_H} {Q : gm_R → gm_H → Prop} {lv : List Value} {a : Nat} (hk : gm_kd h a = 5) : gm_W E d 26 1 lv (.ref a :: st) h Q ↔ gm_W E d 26 4 lv (gm_fv h a 9 :: st) h Q := gw_rd m26 f26_1 rfl rfl rfl rfl (gs_get k5_178 hk (by decide))
theorem f26_4 : gm_ft 26 4 = some (.istore_n 2, 1) := by decide +kernel
theorem r26_4 {E : Nat → Value} {d : Nat} {st : List Value} {h : gm_H} {Q : gm_R → gm_H → Prop} {a0 a1 a2 a3 a4 a5 a6 a7 : Value} {x : Int32} : gm_W E d 26 4 [a0, a1, a2, a3, a4, a5, a6, a7] (.int x :: st) h Q ↔ gm_W E d 26 5 [a0, gm_k a1, .int x, a3, a4, a5, a6, a7] st h Q := gw_loc m26 f26_4 rfl rfl
theorem f26_5 : gm_ft 26 5 = some (.iload_n 2, 1) := by decide +kernel
theorem r26_5 {E : Nat → Value} {d : Nat} {st : List Value} {h : gm_H} {Q : gm_R → gm_H → Prop} {a0 a1 a3 a4 a5 a6 a7 : Value} {x : Int32} : gm_W E d 26 5 [a0, a1, .int x, a3, a4, a5, a6, a7] st h Q ↔ gm_W E d 26 6 [a0, a1, .int x, a3, a4, a5, a6, a7] (.int x :: st) h Q := gw_loc m26 f26_5 rfl rfl
theorem f26_6 : gm_ft 26 6 = some (.bipush (-2), 2) := by decide +kernel
theorem r26_6 {E : Nat → Value} {d : Nat} {st : List Value} {h : gm_H} {Q : gm_R → gm_H → Prop} {lv : List Value} : gm_W E d 26 6 lv st h Q ↔ gm_W E d 26 8 lv (.int (-2 : Int32) :: st) h Q := gw_pure m26 f26_6 rfl
theorem f26_8 : gm_ft 26 8 = some (.if_icmp .ne 12, 3) := by decide +kernel
theorem r26_8 {E : Nat → Value} {d : Nat} {st : List Value} {h : gm_H} {Q : gm_R → gm_H → Prop} {lv : List Value} {x y : Int32} : gm_W E d 26 8 lv (.int y :: .int x :: st) h Q ↔ (if x = y then gm_W E d 26 11 lv st h Q else gm_W E d 26 20 lv st h Q) := (gw_br m26 f26_8 rfl rfl rfl rfl).trans gw_ifn
theorem f26_11 : gm_ft 26 11 = some (.aload_n 0, 1) := by decide +kernel
theorem r26_11 {E : Nat → Value} {d : Nat} {st : List Value} {h : gm_H} {Q : gm_R → gm_H → Prop} {a1 a2 a3 a4 a5 a6 a7 : Value} {x : Nat} : gm_W E d 26 11 [.ref x, a1, a2, a3, a4, a5, a6, a7] st h Q ↔ gm_W E d 26 12 [.ref x, a1, a2, a3, a4, a5, a6, a7] (.ref x :: st) h Q := gw_loc m26 f26_11 rfl rfl
theorem r26_11n {E : Nat → Value} {d : Nat} {st : List Value} {h : gm_H} {Q : gm_R → gm_H → Prop} {a1 a2 a3 a4 a5 a6 a7 : Value}  : gm_W E d 26 11 [.null, a1, a2, a3, a4, a5, a6, a7] st h Q ↔ gm_W E d 26 12 [.null, a1, a2, a3, a4, a5, a6, a7] (.null :: st) h Q := gw_loc m26 f26_11 rfl rfl
theorem f26_12 : gm_ft 26 12 = some (.bipush (-4), 2) := by decide +kernel
theorem r26_12 {E : Nat → Value} {d : Nat} {st : List Value} {h : gm_H} {Q : gm_R → gm_H → Prop} {lv : List Value} : gm_W E d 26 12 lv st h Q ↔ gm_W E d 26 14 lv (.int (-4 : Int32) :: st) h Q := gw_pure m26 f26_12 rfl
theorem f26_14 : gm_ft 26 14 = some (.invokevirtual 151, 3) := by decide +kernel
theorem c26_14 {E : Nat → Value} {d : Nat} {st : List Value} {h : gm_H} {Q : gm_R → gm_H → Prop} {lv : List Value} {b0 : Int32} {a : Nat} {Qc : gm_R → gm_H → Prop} (hs : (st.map fun v => v.category).sum ≤ 8) (hr : gm_kd h a = 5) (hd : 1 ≤ d) (hc : gm_Ca E (d - 1) 10 [.ref a, .int b0] h Qc) (kn : ∀ (v9 : Option Value) (h9 : gm_H), Qc (.inl v9) h9 → gm_W E d 26 17 lv (v9.toList ++ st) h9 Q) (kx : ∀ (x9 : Nat) (h9 : gm_H), Qc (.inr x9) h9 → Q (.inr x9) h9) : gm_W E d 26 14 lv (.int b0 :: .ref a :: st) h Q := gw_call (gn_call m26 f26_14 rfl rfl rfl rfl rfl rfl rfl (gs_virt (bs := [.int b0]) (w := 844) (L := 2) rfl rfl rfl rfl hs (by simp [gm_en1]) hr (by decide)) (by decide)) m26 rfl rfl hd hc kn kx
theorem f26_17 : gm_ft 26 17 = some (.goto 18, 3) := by decide +kernel
theorem r26_17 {E : Nat → Value} {d : Nat} {st : List Value} {h : gm_H} {Q : gm_R → gm_H → Prop} {lv : List Value} : gm_W E d 26 17 lv st h Q ↔ gm_W E d 26 35 lv st h Q := gw_brT m26 f26_17 rfl rfl rfl rfl
theorem f26_20 : gm_ft 26 20 = some (.aload_n 0, 1) := by decide +kernel
theorem r26_20 {E : Nat → Value} {d : Nat} {st : List Value} {h : gm_H} {Q : gm_R → gm_H → Prop} {a1 a2 a3 a4 a5 a6 a7 : Value} {x : Nat} : gm_W E d 26 20 [.ref x, a1, a2, a3, a4, a5, a6, a7] st h Q ↔ gm_W E d 26 21 [.ref x, a1, a2, a3, a4, a5, a6, a7] (.ref x :: st) h Q := gw_loc m26 f26_20 rfl rfl
theorem r26_20n {E : Nat → Value} {d : Nat} {st : List Value} {h : gm_H} {Q : gm_R → gm_H → Prop} {a1 a2 a3 a4 a5 a6 a7 : Value}  : gm_W E d 26 20 [.null, a1, a2, a3, a4, a5, a6, a7] st h Q ↔ gm_W E d 26 21 [.null, a1, a2, a3, a4, a5, a6, a7] (.null :: st) h Q := gw_loc m26 f26_20 rfl rfl
theorem f26_21 : gm_ft 26 21 = some (.getfield 72, 3) := by decide +kernel
theorem r26_21 {E : Nat → Value} {d : Nat} {st : List Value} {h : gm_H} {Q : gm_R → gm_H → Prop} {lv : List Value} {a : Nat} (hk : gm_kd h a = 5) : gm_W E d 26 21 lv (.ref a :: st) h Q ↔ gm_W E d 26 24 lv (gm_fv h a 32 :: st) h Q := gw_rd m26 f26_21 rfl rfl rfl rfl (gs_get k5_72 hk (by decide))
theorem f26_24 : gm_ft 26 24 = some (.iload_n 2, 1) := by decide +kernel
theorem r26_24 {E : Nat → Value} {d : Nat} {st : List Value} {h : gm_H} {Q : gm_R → gm_H → Prop} {a0 a1 a3 a4 a5 a6 a7 : Value} {x : Int32} : gm_W E d 26 24 [a0, a1, .int x, a3, a4, a5, a6, a7] st h Q ↔ gm_W E d 26 25 [a0, a1, .int x, a3, a4, a5, a6, a7] (.int x :: st) h Q := gw_loc m26 f26_24 rfl rfl
theorem f26_25 : gm_ft 26 25 = some (.iaload, 1) := by decide +kernel
theorem r26_25 {E : Nat → Value} {d : Nat} {st : List Value} {h : gm_H} {Q : gm_R → gm_H → Prop} {lv : List Value} {a j : Nat} (hk : gm_kd h a % 100 = 0 ∧ 100 ≤ gm_kd h a ∧ gm_kd h a < 900) (hj : j < gm_ln h a) (hl : gm_ln h a < 2 ^ 31) : gm_W E d 26 25 lv (.int (nI j) :: .ref a :: st) h Q ↔ gm_W E d 26 26 lv (gm_fv h a j :: st) h Q := gw_rd m26 f26_25 rfl rfl rfl rfl (gs_ld (P := fun t => t == 0) hk.2 (by have := hk.1; simp [this] <;> omega) hj hl)
theorem f26_26 : gm_ft 26 26 = some (.ifCond .ne 9, 3) := by decide +kernel
theorem r26_26 {E : Nat → Value} {d : Nat} {st : List Value} {h : gm_H} {Q : gm_R → gm_H → Prop} {lv : List Value} {x : Int32} : gm_W E d 26 26 lv (.int x :: st) h Q ↔ (if x = 0 then gm_W E d 26 29 lv st h Q else gm_W E d 26 35 lv st h Q) := (gw_br m26 f26_26 rfl rfl rfl rfl).trans gw_ifn
theorem f26_29 : gm_ft 26 29 = some (.aload_n 0, 1) := by decide +kernel
theorem r26_29 {E : Nat → Value} {d : Nat} {st : List Value} {h : gm_H} {Q : gm_R → gm_H → Prop} {a1 a2 a3 a4 a5 a6 a7 : Value} {x : Nat} : gm_W E d 26 29 [.ref x, a1, a2, a3, a4, a5, a6, a7] st h Q ↔ gm_W E d 26 30 [.ref x, a1, a2, a3, a4, a5, a6, a7] (.ref x :: st) h Q := gw_loc m26 f26_29 rfl rfl
theorem r26_29n {E : Nat → Value} {d : Nat} {st : List Value} {h : gm_H} {Q : gm_R → gm_H → Prop} {a1 a2 a3 a4 a5 a6 a7 : Value}  : gm_W E d 26 29 [.null, a1, a2, a3, a4, a5, a6, a7] st h Q ↔ gm_W E d 26 30 [.null, a1, a2, a3, a4, a5, a6, a7] (.null :: st) h Q := gw_loc m26 f26_29 rfl rfl
theorem f26_30 : gm_ft 26 30 = some (.bipush (-5), 2) := by decide +kernel
theorem r26_30 {E : Nat → Value} {d : Nat} {st : List Value} {h : gm_H} {Q : gm_R → gm_H → Prop} {lv : List Value} : gm_W E d 26 30 lv st h Q ↔ gm_W E d 26 32 lv (.int (-5 : Int32) :: st) h Q := gw_pure m26 f26_30 rfl
theorem f26_32 : gm_ft 26 32 = some (.invokevirtual 151, 3) := by decide +kernel
theorem c26_32 {E : Nat → Value} {d : Nat} {st : List Value} {h : gm_H} {Q : gm_R → gm_H → Prop} {lv : List Value} {b0 : Int32} {a : Nat} {Qc : gm_R → gm_H → Prop} (hs : (st.map fun v => v.category).sum ≤ 8) (hr : gm_kd h a = 5) (hd : 1 ≤ d) (hc : gm_Ca E (d - 1) 10 [.ref a, .int b0] h Qc) (kn : ∀ (v9 : Option Value) (h9 : gm_H), Qc (.inl v9) h9 → gm_W E d 26 35 lv (v9.toList ++ st) h9 Q) (kx : ∀ (x9 : Nat) (h9 : gm_H), Qc (.inr x9) h9 → Q (.inr x9) h9) : gm_W E d 26 32 lv (.int b0 :: .ref a :: st) h Q := gw_call (gn_call m26 f26_32 rfl rfl rfl rfl rfl rfl rfl (gs_virt (bs := [.int b0]) (w := 844) (L := 2) rfl rfl rfl rfl hs (by simp [gm_en1]) hr (by decide)) (by decide)) m26 rfl rfl hd hc kn kx
theorem f26_35 : gm_ft 26 35 = some (.aload_n 0, 1) := by decide +kernel
theorem r26_35 {E : Nat → Value} {d : Nat} {st : List Value} {h : gm_H} {Q : gm_R → gm_H → Prop} {a1 a2 a3 a4 a5 a6 a7 : Value} {x : Nat} : gm_W E d 26 35 [.ref x, a1, a2, a3, a4, a5, a6, a7] st h Q ↔ gm_W E d 26 36 [.ref x, a1, a2, a3, a4, a5, a6, a7] (.ref x :: st) h Q := gw_loc m26 f26_35 rfl rfl
theorem r26_35n {E : Nat → Value} {d : Nat} {st : List Value} {h : gm_H} {Q : gm_R → gm_H → Prop} {a1 a2 a3 a4 a5 a6 a7 : Value}  : gm_W E d 26 35 [.null, a1, a2, a3, a4, a5, a6, a7] st h Q ↔ gm_W E d 26 36 [.null, a1, a2, a3, a4, a5, a6, a7] (.null :: st) h Q := gw_loc m26 f26_35 rfl rfl
theorem f26_36 : gm_ft 26 36 = some (.iconst 4, 1) := by decide +kernel
theorem r26_36 {E : Nat → Value} {d : Nat} {st : List Value} {h : gm_H} {Q : gm_R → gm_H → Prop} {lv : List Value} : gm_W E d 26 36 lv st h Q ↔ gm_W E d 26 37 lv (.int (4 : Int32) :: st) h Q := gw_pure m26 f26_36 rfl
theorem f26_37 : gm_ft 26 37 = some (.invokevirtual 159, 3) := by decide +kernel
theorem c26_37 {E : Nat → Value} {d : Nat} {st : List Value} {h : gm_H} {Q : gm_R → gm_H → Prop} {lv : List Value} {b0 : Int32} {a : Nat} {Qc : gm_R → gm_H → Prop} (hs : (st.map fun v => v.category).sum ≤ 8) (hr : gm_kd h a = 5) (hd : 1 ≤ d) (hc : gm_Ca E (d - 1) 12 [.ref a, .int b0] h Qc) (kn : ∀ (v9 : Option Value) (h9 : gm_H), Qc (.inl v9) h9 → gm_W E d 26 40 lv (v9.toList ++ st) h9 Q) (kx : ∀ (x9 : Nat) (h9 : gm_H), Qc (.inr x9) h9 → Q (.inr x9) h9) : gm_W E d 26 37 lv (.int b0 :: .ref a :: st) h Q := gw_call (gn_call m26 f26_37 rfl rfl rfl rfl rfl rfl rfl (gs_virt (bs := [.int b0]) (w := 880) (L := 5) rfl rfl rfl rfl hs (by simp [gm_en1]) hr (by decide)) (by decide)) m26 rfl rfl hd hc kn kx
theorem f26_40 : gm_ft 26 40 = some (.l2i, 1) := by decide +kernel
theorem r26_40 {E : Nat → Value} {d : Nat} {st : List Value} {h : gm_H} {Q : gm_R → gm_H → Prop} {lv : List Value} {x : Int64} : gm_W E d 26 40 lv (.long x :: st) h Q ↔ gm_W E d 26 41 lv (.int (x.toInt32) :: st) h Q := gw_pure m26 f26_40 rfl
theorem f26_41 : gm_ft 26 41 = some (.istore_n 3, 1) := by decide +kernel
theorem r26_41 {E : Nat → Value} {d : Nat} {st : List Value} {h : gm_H} {Q : gm_R → gm_H → Prop} {a0 a1 a2 a3 a4 a5 a6 a7 : Value} {x : Int32} : gm_W E d 26 41 [a0, a1, a2, a3, a4, a5, a6, a7] (.int x :: st) h Q ↔ gm_W E d 26 42 [a0, a1, gm_k a2, .int x, a4, a5, a6, a7] st h Q := gw_loc m26 f26_41 rfl rfl
theorem f26_42 : gm_ft 26 42 = some (.aload_n 0, 1) := by decide +kernel
theorem r26_42 {E : Nat → Value} {d : Nat} {st : List Value} {h : gm_H} {Q : gm_R → gm_H → Prop} {a1 a2 a3 a4 a5 a6 a7 : Value} {x : Nat} : gm_W E d 26 42 [.ref x, a1, a2, a3, a4, a5, a6, a7] st h Q ↔ gm_W E d 26 43 [.ref x, a1, a2, a3, a4, a5, a6, a7] (.ref x :: st) h Q := gw_loc m26 f26_42 rfl rfl
theorem r26_42n {E : Nat → Value} {d : Nat} {st : List Value} {h : gm_H} {Q : gm_R → gm_H → Prop} {a1 a2 a3 a4 a5 a6 a7 : Value}  : gm_W E d 26 42 [.null, a1, a2, a3, a4, a5, a6, a7] st h Q ↔ gm_W E d 26 43 [.null, a1, a2, a3, a4, a5, a6, a7] (.null :: st) h Q := gw_loc m26 f26_42 rfl rfl
theorem f26_43 : gm_ft 26 43 = some (.getfield 145, 3) := by decide +kernel
theorem r26_43 {E : Nat → Value} {d : Nat} {st : List Value} {h : gm_H} {Q : gm_R → gm_H → Prop} {lv : List Value} {a : Nat} (hk : gm_kd h a = 5) : gm_W E d 26 43 lv (.ref a :: st) h Q ↔ gm_W E d 26 46 lv (gm_fv h a 8 :: st) h Q := gw_rd m26 f26_43 rfl rfl rfl rfl (gs_get k5_145 hk (by decide))
theorem f26_46 : gm_ft 26 46 = some (.ifCond .ne 13, 3) := by decide +kernel
theorem r26_46 {E : Nat → Value} {d : Nat} {st : List Value} {h : gm_H} {Q : gm_R → gm_H → Prop} {lv : List Value} {x : Int32} : gm_W E d 26 46 lv (.int x :: st) h Q ↔ (if x = 0 then gm_W E d 26 49 lv st h Q else gm_W E d 26 59 lv st h Q) := (gw_br m26 f26_46 rfl rfl rfl rfl).trans gw_ifn
theorem f26_49 : gm_ft 26 49 = some (.iload_n 3, 1) := by decide +kernel
theorem r26_49 {E : Nat → Value} {d : Nat} {st : List Value} {h : gm_H} {Q : gm_R → gm_H → Prop} {a0 a1 a2 a4 a5 a6 a7 : Value} {x : Int32} : gm_W E d 26 49 [a0, a1, a2, .int x, a4, a5, a6, a7] st h Q ↔ gm_W E d 26 50 [a0, a1, a2, .int x, a4, a5, a6, a7] (.int x :: st) h Q := gw_loc m26 f26_49 rfl rfl
theorem f26_50 : gm_ft 26 50 = some (.ifCond .ge 9, 3) := by decide +kernel
theorem r26_50 {E : Nat → Value} {d : Nat} {st : List Value} {h : gm_H} {Q : gm_R → gm_H → Prop} {lv : List Value} {x : Int32} : gm_W E d 26 50 lv (.int x :: st) h Q ↔ (if 0 ≤ x then gm_W E d 26 59 lv st h Q else gm_W E d 26 53 lv st h Q) := (gw_br m26 f26_50 rfl rfl rfl rfl).trans gw_if
theorem f26_53 : gm_ft 26 53 = some (.aload_n 0, 1) := by decide +kernel
theorem r26_53 {E : Nat → Value} {d : Nat} {st : List Value} {h : gm_H} {Q : gm_R → gm_H → Prop} {a1 a2 a3 a4 a5 a6 a7 : Value} {x : Nat} : gm_W E d 26 53 [.ref x, a1, a2, a3, a4, a5, a6, a7] st h Q ↔ gm_W E d 26 54 [.ref x, a1, a2, a3, a4, a5, a6, a7] (.ref x :: st) h Q := gw_loc m26 f26_53 rfl rfl
theorem r26_53n {E : Nat → Value} {d : Nat} {st : List Value} {h : gm_H} {Q : gm_R → gm_H → Prop} {a1 a2 a3 a4 a5 a6 a7 : Value}  : gm_W E d 26 53 [.null, a1, a2, a3, a4, a5, a6, a7] st h Q ↔ gm_W E d 26 54 [.null, a1, a2, a3, a4, a5, a6, a7] (.null :: st) h Q := gw_loc m26 f26_53 rfl rfl
theorem f26_54 : gm_ft 26 54 = some (.bipush (-6), 2) := by decide +kernel
theorem r26_54 {E : Nat → Value} {d : Nat} {st : List Value} {h : gm_H} {Q : gm_R → gm_H → Prop} {lv : List Value} : gm_W E d 26 54 lv st h Q ↔ gm_W E d 26 56 lv (.int (-6 : Int32) :: st) h Q := gw_pure m26 f26_54 rfl
theorem f26_56 : gm_ft 26 56 = some (.invokevirtual 151, 3) := by decide +kernel
theorem c26_56 {E : Nat → Value} {d : Nat} {st : List Value} {h : gm_H} {Q : gm_R → gm_H → Prop} {lv : List Value} {b0 : Int32} {a : Nat} {Qc : gm_R → gm_H → Prop} (hs : (st.map fun v => v.category).sum ≤ 8) (hr : gm_kd h a = 5) (hd : 1 ≤ d) (hc : gm_Ca E (d - 1) 10 [.ref a, .int b0] h Qc) (kn : ∀ (v9 : Option Value) (h9 : gm_H), Qc (.inl v9) h9 → gm_W E d 26 59 lv (v9.toList ++ st) h9 Q) (kx : ∀ (x9 : Nat) (h9 : gm_H), Qc (.inr x9) h9 → Q (.inr x9) h9) : gm_W E d 26 56 lv (.int b0 :: .ref a :: st) h Q := gw_call (gn_call m26 f26_56 rfl rfl rfl rfl rfl rfl rfl (gs_virt (bs := [.int b0]) (w := 844) (L := 2) rfl rfl rfl rfl hs (by simp [gm_en1]) hr (by decide)) (by decide)) m26 rfl rfl hd hc kn kx
theorem f26_59 : gm_ft 26 59 = some (.aload_n 0, 1) := by decide +kernel
theorem r26_59 {E : Nat → Value} {d : Nat} {st : List Value} {h : gm_H} {Q : gm_R → gm_H → Prop} {a1 a2 a3 a4 a5 a6 a7 : Value} {x : Nat} : gm_W E d 26 59 [.ref x, a1, a2, a3, a4, a5, a6, a7] st h Q ↔ gm_W E d 26 60 [.ref x, a1, a2, a3, a4, a5, a6, a7] (.ref x :: st) h Q := gw_loc m26 f26_59 rfl rfl
theorem r26_59n {E : Nat → Value} {d : Nat} {st : List Value} {h : gm_H} {Q : gm_R → gm_H → Prop} {a1 a2 a3 a4 a5 a6 a7 : Value}  : gm_W E d 26 59 [.null, a1, a2, a3, a4, a5, a6, a7] st h Q ↔ gm_W E d 26 60 [.null, a1, a2, a3, a4, a5, a6, a7] (.null :: st) h Q := gw_loc m26 f26_59 rfl rfl
theorem f26_60 : gm_ft 26 60 = some (.getfield 145, 3) := by decide +kernel
theorem r26_60 {E : Nat → Value} {d : Nat} {st : List Value} {h : gm_H} {Q : gm_R → gm_H → Prop} {lv : List Value} {a : Nat} (hk : gm_kd h a = 5) : gm_W E d 26 60 lv (.ref a :: st) h Q ↔ gm_W E d 26 63 lv (gm_fv h a 8 :: st) h Q := gw_rd m26 f26_60 rfl rfl rfl rfl (gs_get k5_145 hk (by decide))
theorem f26_63 : gm_ft 26 63 = some (.ifCond .ne 18, 3) := by decide +kernel
theorem r26_63 {E : Nat → Value} {d : Nat} {st : List Value} {h : gm_H} {Q : gm_R → gm_H → Prop} {lv : List Value} {x : Int32} : gm_W E d 26 63 lv (.int x :: st) h Q ↔ (if x = 0 then gm_W E d 26 66 lv st h Q else gm_W E d 26 81 lv st h Q) := (gw_br m26 f26_63 rfl rfl rfl rfl).trans gw_ifn
theorem f26_66 : gm_ft 26 66 = some (.aload_n 0, 1) := by decide +kernel
theorem r26_66 {E : Nat → Value} {d : Nat} {st : List Value} {h : gm_H} {Q : gm_R → gm_H → Prop} {a1 a2 a3 a4 a5 a6 a7 : Value} {x : Nat} : gm_W E d 26 66 [.ref x, a1, a2, a3, a4, a5, a6, a7] st h Q ↔ gm_W E d 26 67 [.ref x, a1, a2, a3, a4, a5, a6, a7] (.ref x :: st) h Q := gw_loc m26 f26_66 rfl rfl
theorem r26_66n {E : Nat → Value} {d : Nat} {st : List Value} {h : gm_H} {Q : gm_R → gm_H → Prop} {a1 a2 a3 a4 a5 a6 a7 : Value}  : gm_W E d 26 66 [.null, a1, a2, a3, a4, a5, a6, a7] st h Q ↔ gm_W E d 26 67 [.null, a1, a2, a3, a4, a5, a6, a7] (.null :: st) h Q := gw_loc m26 f26_66 rfl rfl
theorem f26_67 : gm_ft 26 67 = some (.aload_n 0, 1) := by decide +kernel
theorem r26_67 {E : Nat → Value} {d : Nat} {st : List Value} {h : gm_H} {Q : gm_R → gm_H → Prop} {a1 a2 a3 a4 a5 a6 a7 : Value} {x : Nat} : gm_W E d 26 67 [.ref x, a1, a2, a3, a4, a5, a6, a7] st h Q ↔ gm_W E d 26 68 [.ref x, a1, a2, a3, a4, a5, a6, a7] (.ref x :: st) h Q := gw_loc m26 f26_67 rfl rfl
theorem r26_67n {E : Nat → Value} {d : Nat} {st : List Value} {h : gm_H} {Q : gm_R → gm_H → Prop} {a1 a2 a3 a4 a5 a6 a7 : Value}  : gm_W E d 26 67 [.null, a1, a2, a3, a4, a5, a6, a7] st h Q ↔ gm_W E d 26 68 [.null, a1, a2, a3, a4, a5, a6, a7] (.null :: st) h Q := gw_loc m26 f26_67 rfl rfl
theorem f26_68 : gm_ft 26 68 = some (.getfield 99, 3) := by decide +kernel
theorem r26_68 {E : Nat → Value} {d : Nat} {st : List Value} {h : gm_H} {Q : gm_R → gm_H → Prop} {lv : List Value} {a : Nat} (hk : gm_kd h a = 5) : gm_W E d 26 68 lv (.ref a :: st) h Q ↔ gm_W E d 26 71 lv (gm_fv h a 42 :: st) h Q := gw_rd m26 f26_68 rfl rfl rfl rfl (gs_get k5_99 hk (by decide))
theorem f26_71 : gm_ft 26 71 = some (.iload_n 1, 1) := by decide +kernel
theorem r26_71 {E : Nat → Value} {d : Nat} {st : List Value} {h : gm_H} {Q : gm_R → gm_H → Prop} {a0 a2 a3 a4 a5 a6 a7 : Value} {x : Int32} : gm_W E d 26 71 [a0, .int x, a2, a3, a4, a5, a6, a7] st h Q ↔ gm_W E d 26 72 [a0, .int x, a2, a3, a4, a5, a6, a7] (.int x :: st) h Q := gw_loc m26 f26_71 rfl rfl
theorem f26_72 : gm_ft 26 72 = some (.iaload, 1) := by decide +kernel
theorem r26_72 {E : Nat → Value} {d : Nat} {st : List Value} {h : gm_H} {Q : gm_R → gm_H → Prop} {lv : List Value} {a j : Nat} (hk : gm_kd h a % 100 = 0 ∧ 100 ≤ gm_kd h a ∧ gm_kd h a < 900) (hj : j < gm_ln h a) (hl : gm_ln h a < 2 ^ 31) : gm_W E d 26 72 lv (.int (nI j) :: .ref a :: st) h Q ↔ gm_W E d 26 73 lv (gm_fv h a j :: st) h Q := gw_rd m26 f26_72 rfl rfl rfl rfl (gs_ld (P := fun t => t == 0) hk.2 (by have := hk.1; simp [this] <;> omega) hj hl)
theorem f26_73 : gm_ft 26 73 = some (.iload_n 3, 1) := by decide +kernel
theorem r26_73 {E : Nat → Value} {d : Nat} {st : List Value} {h : gm_H} {Q : gm_R → gm_H → Prop} {a0 a1 a2 a4 a5 a6 a7 : Value} {x : Int32} : gm_W E d 26 73 [a0, a1, a2, .int x, a4, a5, a6, a7] st h Q ↔ gm_W E d 26 74 [a0, a1, a2, .int x, a4, a5, a6, a7] (.int x :: st) h Q := gw_loc m26 f26_73 rfl rfl
theorem f26_74 : gm_ft 26 74 = some (.iload_n 2, 1) := by decide +kernel
theorem r26_74 {E : Nat → Value} {d : Nat} {st : List Value} {h : gm_H} {Q : gm_R → gm_H → Prop} {a0 a1 a3 a4 a5 a6 a7 : Value} {x : Int32} : gm_W E d 26 74 [a0, a1, .int x, a3, a4, a5, a6, a7] st h Q ↔ gm_W E d 26 75 [a0, a1, .int x, a3, a4, a5, a6, a7] (.int x :: st) h Q := gw_loc m26 f26_74 rfl rfl
theorem f26_75 : gm_ft 26 75 = some (.invokevirtual 204, 3) := by decide +kernel
theorem c26_75 {E : Nat → Value} {d : Nat} {st : List Value} {h : gm_H} {Q : gm_R → gm_H → Prop} {lv : List Value} {b0 : Int32} {b1 : Int32} {b2 : Int32} {a : Nat} {Qc : gm_R → gm_H → Prop} (hs : (st.map fun v => v.category).sum ≤ 8) (hr : gm_kd h a = 5) (hd : 1 ≤ d) (hc : gm_Ca E (d - 1) 19 [.ref a, .int b0, .int b1, .int b2] h Qc) (kn : ∀ (v9 : Option Value) (h9 : gm_H), Qc (.inl v9) h9 → gm_W E d 26 78 lv (v9.toList ++ st) h9 Q) (kx : ∀ (x9 : Nat) (h9 : gm_H), Qc (.inr x9) h9 → Q (.inr x9) h9) : gm_W E d 26 75 lv (.int b2 :: .int b1 :: .int b0 :: .ref a :: st) h Q := gw_call (gn_call m26 f26_75 rfl rfl rfl rfl rfl rfl rfl (gs_virt (bs := [.int b2, .int b1, .int b0]) (w := 901) (L := 5) rfl rfl rfl rfl hs (by simp [gm_en1]) hr (by decide)) (by decide)) m26 rfl rfl hd hc kn kx
theorem f26_78 : gm_ft 26 78 = some (.ifCond .ne 4, 3) := by decide +kernel
theorem r26_78 {E : Nat → Value} {d : Nat} {st : List Value} {h : gm_H} {Q : gm_R → gm_H → Prop} {lv : List Value} {x : Int32} : gm_W E d 26 78 lv (.int x :: st) h Q ↔ (if x = 0 then gm_W E d 26 81 lv st h Q else gm_W E d 26 82 lv st h Q) := (gw_br m26 f26_78 rfl rfl rfl rfl).trans gw_ifn
theorem f26_81 : gm_ft 26 81 = some (.return_, 1) := by decide +kernel
theorem r26_81 {E : Nat → Value} {d : Nat} {h : gm_H} {Q : gm_R → gm_H → Prop} {lv : List Value} : gm_W E d 26 81 lv [] h Q ↔ Q (.inl none) h := gw_ret m26 f26_81 rfl rfl rfl rfl rfl rfl rfl rfl rfl
theorem f26_82 : gm_ft 26 82 = some (.aload_n 0, 1) := by decide +kernel
theorem r26_82 {E : Nat → Value} {d : Nat} {st : List Value} {h : gm_H} {Q : gm_R → gm_H → Prop} {a1 a2 a3 a4 a5 a6 a7 : Value} {x : Nat} : gm_W E d 26 82 [.ref x, a1, a2, a3, a4, a5, a6, a7] st h Q ↔ gm_W E d 26 83 [.ref x, a1, a2, a3, a4, a5, a6, a7] (.ref x :: st) h Q := gw_loc m26 f26_82 rfl rfl
theorem r26_82n {E : Nat → Value} {d : Nat} {st : List Value} {h : gm_H} {Q : gm_R → gm_H → Prop} {a1 a2 a3 a4 a5 a6 a7 : Value}  : gm_W E d 26 82 [.null, a1, a2, a3, a4, a5, a6, a7] st h Q ↔ gm_W E d 26 83 [.null, a1, a2, a3, a4, a5, a6, a7] (.null :: st) h Q := gw_loc m26 f26_82 rfl rfl
theorem f26_83 : gm_ft 26 83 = some (.getfield 72, 3) := by decide +kernel
theorem r26_83 {E : Nat → Value} {d : Nat} {st : List Value} {h : gm_H} {Q : gm_R → gm_H → Prop} {lv : List Value} {a : Nat} (hk : gm_kd h a = 5) : gm_W E d 26 83 lv (.ref a :: st) h Q ↔ gm_W E d 26 86 lv (gm_fv h a 32 :: st) h Q := gw_rd m26 f26_83 rfl rfl rfl rfl (gs_get k5_72 hk (by decide))
theorem f26_86 : gm_ft 26 86 = some (.iload_n 2, 1) := by decide +kernel
theorem r26_86 {E : Nat → Value} {d : Nat} {st : List Value} {h : gm_H} {Q : gm_R → gm_H → Prop} {a0 a1 a3 a4 a5 a6 a7 : Value} {x : Int32} : gm_W E d 26 86 [a0, a1, .int x, a3, a4, a5, a6, a7] st h Q ↔ gm_W E d 26 87 [a0, a1, .int x, a3, a4, a5, a6, a7] (.int x :: st) h Q := gw_loc m26 f26_86 rfl rfl
theorem f26_87 : gm_ft 26 87 = some (.iaload, 1) := by decide +kernel
theorem r26_87 {E : Nat → Value} {d : Nat} {st : List Value} {h : gm_H} {Q : gm_R → gm_H → Prop} {lv : List Value} {a j : Nat} (hk : gm_kd h a % 100 = 0 ∧ 100 ≤ gm_kd h a ∧ gm_kd h a < 900) (hj : j < gm_ln h a) (hl : gm_ln h a < 2 ^ 31) : gm_W E d 26 87 lv (.int (nI j) :: .ref a :: st) h Q ↔ gm_W E d 26 88 lv (gm_fv h a j :: st) h Q := gw_rd m26 f26_87 rfl rfl rfl rfl (gs_ld (P := fun t => t == 0) hk.2 (by have := hk.1; simp [this] <;> omega) hj hl)
theorem f26_88 : gm_ft 26 88 = some (.iconst 1, 1) := by decide +kernel
theorem r26_88 {E : Nat → Value} {d : Nat} {st : List Value} {h : gm_H} {Q : gm_R → gm_H → Prop} {lv : List Value} : gm_W E d 26 88 lv st h Q ↔ gm_W E d 26 89 lv (.int (1 : Int32) :: st) h Q := gw_pure m26 f26_88 rfl
theorem f26_89 : gm_ft 26 89 = some (.if_icmp .ne 7, 3) := by decide +kernel
theorem r26_89 {E : Nat → Value} {d : Nat} {st : List Value} {h : gm_H} {Q : gm_R → gm_H → Prop} {lv : List Value} {x y : Int32} : gm_W E d 26 89 lv (.int y :: .int x :: st) h Q ↔ (if x = y then gm_W E d 26 92 lv st h Q else gm_W E d 26 96 lv st h Q) := (gw_br m26 f26_89 rfl rfl rfl rfl).trans gw_ifn
theorem f26_92 : gm_ft 26 92 = some (.iconst 1, 1) := by decide +kernel
theorem r26_92 {E : Nat → Value} {d : Nat} {st : List Value} {h : gm_H} {Q : gm_R → gm_H → Prop} {lv : List Value} : gm_W E d 26 92 lv st h Q ↔ gm_W E d 26 93 lv (.int (1 : Int32) :: st) h Q := gw_pure m26 f26_92 rfl
theorem f26_93 : gm_ft 26 93 = some (.goto 4, 3) := by decide +kernel
theorem r26_93 {E : Nat → Value} {d : Nat} {st : List Value} {h : gm_H} {Q : gm_R → gm_H → Prop} {lv : List Value} : gm_W E d 26 93 lv st h Q ↔ gm_W E d 26 97 lv st h Q := gw_brT m26 f26_93 rfl rfl rfl rfl
theorem f26_96 : gm_ft 26 96 = some (.iconst 0, 1) := by decide +kernel
theorem r26_96 {E : Nat → Value} {d : Nat} {st : List Value} {h : gm_H} {Q : gm_R → gm_H → Prop} {lv : List Value} : gm_W E d 26 96 lv st h Q ↔ gm_W E d 26 97 lv (.int (0 : Int32) :: st) h Q := gw_pure m26 f26_96 rfl
theorem f26_97 : gm_ft 26 97 = some (.istore 4, 2) := by decide +kernel
theorem r26_97 {E : Nat → Value} {d : Nat} {st : List Value} {h : gm_H} {Q : gm_R → gm_H → Prop} {a0 a1 a2 a3 a4 a5 a6 a7 : Value} {x : Int32} : gm_W E d 26 97 [a0, a1, a2, a3, a4, a5, a6, a7] (.int x :: st) h Q ↔ gm_W E d 26 99 [a0, a1, a2, gm_k a3, .int x, a5, a6, a7] st h Q := gw_loc m26 f26_97 rfl rfl
theorem f26_99 : gm_ft 26 99 = some (.aload_n 0, 1) := by decide +kernel
theorem r26_99 {E : Nat → Value} {d : Nat} {st : List Value} {h : gm_H} {Q : gm_R → gm_H → Prop} {a1 a2 a3 a4 a5 a6 a7 : Value} {x : Nat} : gm_W E d 26 99 [.ref x, a1, a2, a3, a4, a5, a6, a7] st h Q ↔ gm_W E d 26 100 [.ref x, a1, a2, a3, a4, a5, a6, a7] (.ref x :: st) h Q := gw_loc m26 f26_99 rfl rfl
theorem r26_99n {E : Nat → Value} {d : Nat} {st : List Value} {h : gm_H} {Q : gm_R → gm_H → Prop} {a1 a2 a3 a4 a5 a6 a7 : Value}  : gm_W E d 26 99 [.null, a1, a2, a3, a4, a5, a6, a7] st h Q ↔ gm_W E d 26 100 [.null, a1, a2, a3, a4, a5, a6, a7] (.null :: st) h Q := gw_loc m26 f26_99 rfl rfl
theorem f26_100 : gm_ft 26 100 = some (.iload 4, 2) := by decide +kernel
theorem r26_100 {E : Nat → Value} {d : Nat} {st : List Value} {h : gm_H} {Q : gm_R → gm_H → Prop} {a0 a1 a2 a3 a5 a6 a7 : Value} {x : Int32} : gm_W E d 26 100 [a0, a1, a2, a3, .int x, a5, a6, a7] st h Q ↔ gm_W E d 26 102 [a0, a1, a2, a3, .int x, a5, a6, a7] (.int x :: st) h Q := gw_loc m26 f26_100 rfl rfl
theorem f26_102 : gm_ft 26 102 = some (.ifCond .eq 7, 3) := by decide +kernel
theorem r26_102 {E : Nat → Value} {d : Nat} {st : List Value} {h : gm_H} {Q : gm_R → gm_H → Prop} {lv : List Value} {x : Int32} : gm_W E d 26 102 lv (.int x :: st) h Q ↔ (if x = 0 then gm_W E d 26 109 lv st h Q else gm_W E d 26 105 lv st h Q) := (gw_br m26 f26_102 rfl rfl rfl rfl).trans gw_if
theorem f26_105 : gm_ft 26 105 = some (.iconst 2, 1) := by decide +kernel
theorem r26_105 {E : Nat → Value} {d : Nat} {st : List Value} {h : gm_H} {Q : gm_R → gm_H → Prop} {lv : List Value} : gm_W E d 26 105 lv st h Q ↔ gm_W E d 26 106 lv (.int (2 : Int32) :: st) h Q := gw_pure m26 f26_105 rfl
theorem f26_106 : gm_ft 26 106 = some (.goto 4, 3) := by decide +kernel
theorem r26_106 {E : Nat → Value} {d : Nat} {st : List Value} {h : gm_H} {Q : gm_R → gm_H → Prop} {lv : List Value} : gm_W E d 26 106 lv st h Q ↔ gm_W E d 26 110 lv st h Q := gw_brT m26 f26_106 rfl rfl rfl rfl
theorem f26_109 : gm_ft 26 109 = some (.iconst 3, 1) := by decide +kernel
theorem r26_109 {E : Nat → Value} {d : Nat} {st : List Value} {h : gm_H} {Q : gm_R → gm_H → Prop} {lv : List Value} : gm_W E d 26 109 lv st h Q ↔ gm_W E d 26 110 lv (.int (3 : Int32) :: st) h Q := gw_pure m26 f26_109 rfl
theorem f26_110 : gm_ft 26 110 = some (.iconst (-1), 1) := by decide +kernel
theorem r26_110 {E : Nat → Value} {d : Nat} {st : List Value} {h : gm_H} {Q : gm_R → gm_H → Prop} {lv : List Value} : gm_W E d 26 110 lv st h Q ↔ gm_W E d 26 111 lv (.int (-1 : Int32) :: st) h Q := gw_pure m26 f26_110 rfl
theorem f26_111 : gm_ft 26 111 = some (.iload_n 3, 1) := by decide +kernel
theorem r26_111 {E : Nat → Value} {d : Nat} {st : List Value} {h : gm_H} {Q : gm_R → gm_H → Prop} {a0 a1 a2 a4 a5 a6 a7 : Value} {x : Int32} : gm_W E d 26 111 [a0, a1, a2, .int x, a4, a5, a6, a7] st h Q ↔ gm_W E d 26 112 [a0, a1, a2, .int x, a4, a5, a6, a7] (.int x :: st) h Q := gw_loc m26 f26_111 rfl rfl
theorem f26_112 : gm_ft 26 112 = some (.iload 4, 2) := by decide +kernel
theorem r26_112 {E : Nat → Value} {d : Nat} {st : List Value} {h : gm_H} {Q : gm_R → gm_H → Prop} {a0 a1 a2 a3 a5 a6 a7 : Value} {x : Int32} : gm_W E d 26 112 [a0, a1, a2, a3, .int x, a5, a6, a7] st h Q ↔ gm_W E d 26 114 [a0, a1, a2, a3, .int x, a5, a6, a7] (.int x :: st) h Q := gw_loc m26 f26_112 rfl rfl
theorem f26_114 : gm_ft 26 114 = some (.ifCond .eq 10, 3) := by decide +kernel
theorem r26_114 {E : Nat → Value} {d : Nat} {st : List Value} {h : gm_H} {Q : gm_R → gm_H → Prop} {lv : List Value} {x : Int32} : gm_W E d 26 114 lv (.int x :: st) h Q ↔ (if x = 0 then gm_W E d 26 124 lv st h Q else gm_W E d 26 117 lv st h Q) := (gw_br m26 f26_114 rfl rfl rfl rfl).trans gw_if
theorem f26_117 : gm_ft 26 117 = some (.aload_n 0, 1) := by decide +kernel
theorem r26_117 {E : Nat → Value} {d : Nat} {st : List Value} {h : gm_H} {Q : gm_R → gm_H → Prop} {a1 a2 a3 a4 a5 a6 a7 : Value} {x : Nat} : gm_W E d 26 117 [.ref x, a1, a2, a3, a4, a5, a6, a7] st h Q ↔ gm_W E d 26 118 [.ref x, a1, a2, a3, a4, a5, a6, a7] (.ref x :: st) h Q := gw_loc m26 f26_117 rfl rfl
theorem r26_117n {E : Nat → Value} {d : Nat} {st : List Value} {h : gm_H} {Q : gm_R → gm_H → Prop} {a1 a2 a3 a4 a5 a6 a7 : Value}  : gm_W E d 26 117 [.null, a1, a2, a3, a4, a5, a6, a7] st h Q ↔ gm_W E d 26 118 [.null, a1, a2, a3, a4, a5, a6, a7] (.null :: st) h Q := gw_loc m26 f26_117 rfl rfl
theorem f26_118 : gm_ft 26 118 = some (.getfield 148, 3) := by decide +kernel
theorem r26_118 {E : Nat → Value} {d : Nat} {st : List Value} {h : gm_H} {Q : gm_R → gm_H → Prop} {lv : List Value} {a : Nat} (hk : gm_kd h a = 5) : gm_W E d 26 118 lv (.ref a :: st) h Q ↔ gm_W E d 26 121 lv (gm_fv h a 6 :: st) h Q := gw_rd m26 f26_118 rfl rfl rfl rfl (gs_get k5_148 hk (by decide))
theorem f26_121 : gm_ft 26 121 = some (.goto 7, 3) := by decide +kernel
theorem r26_121 {E : Nat → Value} {d : Nat} {st : List Value} {h : gm_H} {Q : gm_R → gm_H → Prop} {lv : List Value} : gm_W E d 26 121 lv st h Q ↔ gm_W E d 26 128 lv st h Q := gw_brT m26 f26_121 rfl rfl rfl rfl
theorem f26_124 : gm_ft 26 124 = some (.aload_n 0, 1) := by decide +kernel
theorem r26_124 {E : Nat → Value} {d : Nat} {st : List Value} {h : gm_H} {Q : gm_R → gm_H → Prop} {a1 a2 a3 a4 a5 a6 a7 : Value} {x : Nat} : gm_W E d 26 124 [.ref x, a1, a2, a3, a4, a5, a6, a7] st h Q ↔ gm_W E d 26 125 [.ref x, a1, a2, a3, a4, a5, a6, a7] (.ref x :: st) h Q := gw_loc m26 f26_124 rfl rfl
theorem r26_124n {E : Nat → Value} {d : Nat} {st : List Value} {h : gm_H} {Q : gm_R → gm_H → Prop} {a1 a2 a3 a4 a5 a6 a7 : Value}  : gm_W E d 26 124 [.null, a1, a2, a3, a4, a5, a6, a7] st h Q ↔ gm_W E d 26 125 [.null, a1, a2, a3, a4, a5, a6, a7] (.null :: st) h Q := gw_loc m26 f26_124 rfl rfl
theorem f26_125 : gm_ft 26 125 = some (.getfield 163, 3) := by decide +kernel
theorem r26_125 {E : Nat → Value} {d : Nat} {st : List Value} {h : gm_H} {Q : gm_R → gm_H → Prop} {lv : List Value} {a : Nat} (hk : gm_kd h a = 5) : gm_W E d 26 125 lv (.ref a :: st) h Q ↔ gm_W E d 26 128 lv (gm_fv h a 25 :: st) h Q := gw_rd m26 f26_125 rfl rfl rfl rfl (gs_get k5_163 hk (by decide))
theorem f26_128 : gm_ft 26 128 = some (.invokevirtual 196, 3) := by decide +kernel
theorem c26_128 {E : Nat → Value} {d : Nat} {st : List Value} {h : gm_H} {Q : gm_R → gm_H → Prop} {lv : List Value} {b0 : Int32} {b1 : Int32} {b2 : Int32} {b3 : Int32} {a : Nat} {Qc : gm_R → gm_H → Prop} (hs : (st.map fun v => v.category).sum ≤ 8) (hr : gm_kd h a = 5) (hd : 1 ≤ d) (hc : gm_Ca E (d - 1) 18 [.ref a, .int b0, .int b1, .int b2, .int b3] h Qc) (kn : ∀ (v9 : Option Value) (h9 : gm_H), Qc (.inl v9) h9 → gm_W E d 26 131 lv (v9.toList ++ st) h9 Q) (kx : ∀ (x9 : Nat) (h9 : gm_H), Qc (.inr x9) h9 → Q (.inr x9) h9) : gm_W E d 26 128 lv (.int b3 :: .int b2 :: .int b1 :: .int b0 :: .ref a :: st) h Q := gw_call (gn_call m26 f26_128 rfl rfl rfl rfl rfl rfl rfl (gs_virt (bs := [.int b3, .int b2, .int b1, .int b0]) (w := 893) (L := 5) rfl rfl rfl rfl hs (by simp [gm_en1]) hr (by decide)) (by decide)) m26 rfl rfl hd hc kn kx
theorem f26_131 : gm_ft 26 131 = some (.istore 5, 2) := by decide +kernel
theorem r26_131 {E : Nat → Value} {d : Nat} {st : List Value} {h : gm_H} {Q : gm_R → gm_H → Prop} {a0 a1 a2 a3 a4 a5 a6 a7 : Value} {x : Int32} : gm_W E d 26 131 [a0, a1, a2, a3, a4, a5, a6, a7] (.int x :: st) h Q ↔ gm_W E d 26 133 [a0, a1, a2, a3, gm_k a4, .int x, a6, a7] st h Q := gw_loc m26 f26_131 rfl rfl
theorem f26_133 : gm_ft 26 133 = some (.aload_n 0, 1) := by decide +kernel
theorem r26_133 {E : Nat → Value} {d : Nat} {st : List Value} {h : gm_H} {Q : gm_R → gm_H → Prop} {a1 a2 a3 a4 a5 a6 a7 : Value} {x : Nat} : gm_W E d 26 133 [.ref x, a1, a2, a3, a4, a5, a6, a7] st h Q ↔ gm_W E d 26 134 [.ref x, a1, a2, a3, a4, a5, a6, a7] (.ref x :: st) h Q := gw_loc m26 f26_133 rfl rfl
theorem r26_133n {E : Nat → Value} {d : Nat} {st : List Value} {h : gm_H} {Q : gm_R → gm_H → Prop} {a1 a2 a3 a4 a5 a6 a7 : Value}  : gm_W E d 26 133 [.null, a1, a2, a3, a4, a5, a6, a7] st h Q ↔ gm_W E d 26 134 [.null, a1, a2, a3, a4, a5, a6, a7] (.null :: st) h Q := gw_loc m26 f26_133 rfl rfl
theorem f26_134 : gm_ft 26 134 = some (.iconst 2, 1) := by decide +kernel
theorem r26_134 {E : Nat → Value} {d : Nat} {st : List Value} {h : gm_H} {Q : gm_R → gm_H → Prop} {lv : List Value} : gm_W E d 26 134 lv st h Q ↔ gm_W E d 26 135 lv (.int (2 : Int32) :: st) h Q := gw_pure m26 f26_134 rfl
theorem f26_135 : gm_ft 26 135 = some (.iload 5, 2) := by decide +kernel
theorem r26_135 {E : Nat → Value} {d : Nat} {st : List Value} {h : gm_H} {Q : gm_R → gm_H → Prop} {a0 a1 a2 a3 a4 a6 a7 : Value} {x : Int32} : gm_W E d 26 135 [a0, a1, a2, a3, a4, .int x, a6, a7] st h Q ↔ gm_W E d 26 137 [a0, a1, a2, a3, a4, .int x, a6, a7] (.int x :: st) h Q := gw_loc m26 f26_135 rfl rfl
theorem f26_137 : gm_ft 26 137 = some (.invokevirtual 189, 3) := by decide +kernel
theorem c26_137 {E : Nat → Value} {d : Nat} {st : List Value} {h : gm_H} {Q : gm_R → gm_H → Prop} {lv : List Value} {b0 : Int32} {b1 : Int32} {a : Nat} {Qc : gm_R → gm_H → Prop} (hs : (st.map fun v => v.category).sum ≤ 8) (hr : gm_kd h a = 5) (hd : 1 ≤ d) (hc : gm_Ca E (d - 1) 17 [.ref a, .int b0, .int b1] h Qc) (kn : ∀ (v9 : Option Value) (h9 : gm_H), Qc (.inl v9) h9 → gm_W E d 26 140 lv (v9.toList ++ st) h9 Q) (kx : ∀ (x9 : Nat) (h9 : gm_H), Qc (.inr x9) h9 → Q (.inr x9) h9) : gm_W E d 26 137 lv (.int b1 :: .int b0 :: .ref a :: st) h Q := gw_call (gn_call m26 f26_137 rfl rfl rfl rfl rfl rfl rfl (gs_virt (bs := [.int b1, .int b0]) (w := 885) (L := 3) rfl rfl rfl rfl hs (by simp [gm_en1]) hr (by decide)) (by decide)) m26 rfl rfl hd hc kn kx
theorem f26_140 : gm_ft 26 140 = some (.istore 6, 2) := by decide +kernel
theorem r26_140 {E : Nat → Value} {d : Nat} {st : List Value} {h : gm_H} {Q : gm_R → gm_H → Prop} {a0 a1 a2 a3 a4 a5 a6 a7 : Value} {x : Int32} : gm_W E d 26 140 [a0, a1, a2, a3, a4, a5, a6, a7] (.int x :: st) h Q ↔ gm_W E d 26 142 [a0, a1, a2, a3, a4, gm_k a5, .int x, a7] st h Q := gw_loc m26 f26_140 rfl rfl
theorem f26_142 : gm_ft 26 142 = some (.iload 4, 2) := by decide +kernel
theorem r26_142 {E : Nat → Value} {d : Nat} {st : List Value} {h : gm_H} {Q : gm_R → gm_H → Prop} {a0 a1 a2 a3 a5 a6 a7 : Value} {x : Int32} : gm_W E d 26 142 [a0, a1, a2, a3, .int x, a5, a6, a7] st h Q ↔ gm_W E d 26 144 [a0, a1, a2, a3, .int x, a5, a6, a7] (.int x :: st) h Q := gw_loc m26 f26_142 rfl rfl
theorem f26_144 : gm_ft 26 144 = some (.ifCond .eq 38, 3) := by decide +kernel
theorem r26_144 {E : Nat → Value} {d : Nat} {st : List Value} {h : gm_H} {Q : gm_R → gm_H → Prop} {lv : List Value} {x : Int32} : gm_W E d 26 144 lv (.int x :: st) h Q ↔ (if x = 0 then gm_W E d 26 182 lv st h Q else gm_W E d 26 147 lv st h Q) := (gw_br m26 f26_144 rfl rfl rfl rfl).trans gw_if
theorem f26_147 : gm_ft 26 147 = some (.iconst 0, 1) := by decide +kernel
theorem r26_147 {E : Nat → Value} {d : Nat} {st : List Value} {h : gm_H} {Q : gm_R → gm_H → Prop} {lv : List Value} : gm_W E d 26 147 lv st h Q ↔ gm_W E d 26 148 lv (.int (0 : Int32) :: st) h Q := gw_pure m26 f26_147 rfl
theorem f26_148 : gm_ft 26 148 = some (.istore 7, 2) := by decide +kernel
theorem r26_148 {E : Nat → Value} {d : Nat} {st : List Value} {h : gm_H} {Q : gm_R → gm_H → Prop} {a0 a1 a2 a3 a4 a5 a6 a7 : Value} {x : Int32} : gm_W E d 26 148 [a0, a1, a2, a3, a4, a5, a6, a7] (.int x :: st) h Q ↔ gm_W E d 26 150 [a0, a1, a2, a3, a4, a5, gm_k a6, .int x] st h Q := gw_loc m26 f26_148 rfl rfl
theorem f26_150 : gm_ft 26 150 = some (.iload 7, 2) := by decide +kernel
theorem r26_150 {E : Nat → Value} {d : Nat} {st : List Value} {h : gm_H} {Q : gm_R → gm_H → Prop} {a0 a1 a2 a3 a4 a5 a6 : Value} {x : Int32} : gm_W E d 26 150 [a0, a1, a2, a3, a4, a5, a6, .int x] st h Q ↔ gm_W E d 26 152 [a0, a1, a2, a3, a4, a5, a6, .int x] (.int x :: st) h Q := gw_loc m26 f26_150 rfl rfl
theorem f26_152 : gm_ft 26 152 = some (.iload_n 3, 1) := by decide +kernel
theorem r26_152 {E : Nat → Value} {d : Nat} {st : List Value} {h : gm_H} {Q : gm_R → gm_H → Prop} {a0 a1 a2 a4 a5 a6 a7 : Value} {x : Int32} : gm_W E d 26 152 [a0, a1, a2, .int x, a4, a5, a6, a7] st h Q ↔ gm_W E d 26 153 [a0, a1, a2, .int x, a4, a5, a6, a7] (.int x :: st) h Q := gw_loc m26 f26_152 rfl rfl
theorem f26_153 : gm_ft 26 153 = some (.if_icmp .ge 15, 3) := by decide +kernel
theorem r26_153 {E : Nat → Value} {d : Nat} {st : List Value} {h : gm_H} {Q : gm_R → gm_H → Prop} {lv : List Value} {x y : Int32} : gm_W E d 26 153 lv (.int y :: .int x :: st) h Q ↔ (if y ≤ x then gm_W E d 26 168 lv st h Q else gm_W E d 26 156 lv st h Q) := (gw_br m26 f26_153 rfl rfl rfl rfl).trans gw_if
theorem f26_156 : gm_ft 26 156 = some (.aload_n 0, 1) := by decide +kernel
theorem r26_156 {E : Nat → Value} {d : Nat} {st : List Value} {h : gm_H} {Q : gm_R → gm_H → Prop} {a1 a2 a3 a4 a5 a6 a7 : Value} {x : Nat} : gm_W E d 26 156 [.ref x, a1, a2, a3, a4, a5, a6, a7] st h Q ↔ gm_W E d 26 157 [.ref x, a1, a2, a3, a4, a5, a6, a7] (.ref x :: st) h Q := gw_loc m26 f26_156 rfl rfl
theorem r26_156n {E : Nat → Value} {d : Nat} {st : List Value} {h : gm_H} {Q : gm_R → gm_H → Prop} {a1 a2 a3 a4 a5 a6 a7 : Value}  : gm_W E d 26 156 [.null, a1, a2, a3, a4, a5, a6, a7] st h Q ↔ gm_W E d 26 157 [.null, a1, a2, a3, a4, a5, a6, a7] (.null :: st) h Q := gw_loc m26 f26_156 rfl rfl
theorem f26_157 : gm_ft 26 157 = some (.iconst 4, 1) := by decide +kernel
theorem r26_157 {E : Nat → Value} {d : Nat} {st : List Value} {h : gm_H} {Q : gm_R → gm_H → Prop} {lv : List Value} : gm_W E d 26 157 lv st h Q ↔ gm_W E d 26 158 lv (.int (4 : Int32) :: st) h Q := gw_pure m26 f26_157 rfl
theorem f26_158 : gm_ft 26 158 = some (.invokevirtual 159, 3) := by decide +kernel
theorem c26_158 {E : Nat → Value} {d : Nat} {st : List Value} {h : gm_H} {Q : gm_R → gm_H → Prop} {lv : List Value} {b0 : Int32} {a : Nat} {Qc : gm_R → gm_H → Prop} (hs : (st.map fun v => v.category).sum ≤ 8) (hr : gm_kd h a = 5) (hd : 1 ≤ d) (hc : gm_Ca E (d - 1) 12 [.ref a, .int b0] h Qc) (kn : ∀ (v9 : Option Value) (h9 : gm_H), Qc (.inl v9) h9 → gm_W E d 26 161 lv (v9.toList ++ st) h9 Q) (kx : ∀ (x9 : Nat) (h9 : gm_H), Qc (.inr x9) h9 → Q (.inr x9) h9) : gm_W E d 26 158 lv (.int b0 :: .ref a :: st) h Q := gw_call (gn_call m26 f26_158 rfl rfl rfl rfl rfl rfl rfl (gs_virt (bs := [.int b0]) (w := 880) (L := 5) rfl rfl rfl rfl hs (by simp [gm_en1]) hr (by decide)) (by decide)) m26 rfl rfl hd hc kn kx
theorem f26_161 : gm_ft 26 161 = some (.pop2, 1) := by decide +kernel
theorem r26_161 {E : Nat → Value} {d : Nat} {st : List Value} {h : gm_H} {Q : gm_R → gm_H → Prop} {lv : List Value} {x : Int64} : gm_W E d 26 161 lv (.long x :: st) h Q ↔ gm_W E d 26 162 lv st h Q := gw_pure m26 f26_161 rfl
theorem f26_162 : gm_ft 26 162 = some (.iinc 7 1, 3) := by decide +kernel
theorem r26_162 {E : Nat → Value} {d : Nat} {st : List Value} {h : gm_H} {Q : gm_R → gm_H → Prop} {a0 a1 a2 a3 a4 a5 a6 : Value} {x : Int32} : gm_W E d 26 162 [a0, a1, a2, a3, a4, a5, a6, .int x] st h Q ↔ gm_W E d 26 165 [a0, a1, a2, a3, a4, a5, gm_k a6, .int (x + (1 : Int32))] st h Q := gw_loc m26 f26_162 rfl rfl
theorem f26_165 : gm_ft 26 165 = some (.goto (-15), 3) := by decide +kernel
theorem r26_165 {E : Nat → Value} {d : Nat} {st : List Value} {h : gm_H} {Q : gm_R → gm_H → Prop} {lv : List Value} : gm_W E d 26 165 lv st h Q ↔ gm_W E d 26 150 lv st h Q := gw_brT m26 f26_165 rfl rfl rfl rfl
theorem f26_168 : gm_ft 26 168 = some (.aload_n 0, 1) := by decide +kernel
theorem r26_168 {E : Nat → Value} {d : Nat} {st : List Value} {h : gm_H} {Q : gm_R → gm_H → Prop} {a1 a2 a3 a4 a5 a6 a7 : Value} {x : Nat} : gm_W E d 26 168 [.ref x, a1, a2, a3, a4, a5, a6, a7] st h Q ↔ gm_W E d 26 169 [.ref x, a1, a2, a3, a4, a5, a6, a7] (.ref x :: st) h Q := gw_loc m26 f26_168 rfl rfl
theorem r26_168n {E : Nat → Value} {d : Nat} {st : List Value} {h : gm_H} {Q : gm_R → gm_H → Prop} {a1 a2 a3 a4 a5 a6 a7 : Value}  : gm_W E d 26 168 [.null, a1, a2, a3, a4, a5, a6, a7] st h Q ↔ gm_W E d 26 169 [.null, a1, a2, a3, a4, a5, a6, a7] (.null :: st) h Q := gw_loc m26 f26_168 rfl rfl
theorem f26_169 : gm_ft 26 169 = some (.getfield 145, 3) := by decide +kernel
theorem r26_169 {E : Nat → Value} {d : Nat} {st : List Value} {h : gm_H} {Q : gm_R → gm_H → Prop} {lv : List Value} {a : Nat} (hk : gm_kd h a = 5) : gm_W E d 26 169 lv (.ref a :: st) h Q ↔ gm_W E d 26 172 lv (gm_fv h a 8 :: st) h Q := gw_rd m26 f26_169 rfl rfl rfl rfl (gs_get k5_145 hk (by decide))
theorem f26_172 : gm_ft 26 172 = some (.ifCond .ne 9, 3) := by decide +kernel
theorem r26_172 {E : Nat → Value} {d : Nat} {st : List Value} {h : gm_H} {Q : gm_R → gm_H → Prop} {lv : List Value} {x : Int32} : gm_W E d 26 172 lv (.int x :: st) h Q ↔ (if x = 0 then gm_W E d 26 175 lv st h Q else gm_W E d 26 181 lv st h Q) := (gw_br m26 f26_172 rfl rfl rfl rfl).trans gw_ifn
theorem f26_175 : gm_ft 26 175 = some (.aload_n 0, 1) := by decide +kernel
theorem r26_175 {E : Nat → Value} {d : Nat} {st : List Value} {h : gm_H} {Q : gm_R → gm_H → Prop} {a1 a2 a3 a4 a5 a6 a7 : Value} {x : Nat} : gm_W E d 26 175 [.ref x, a1, a2, a3, a4, a5, a6, a7] st h Q ↔ gm_W E d 26 176 [.ref x, a1, a2, a3, a4, a5, a6, a7] (.ref x :: st) h Q := gw_loc m26 f26_175 rfl rfl
theorem r26_175n {E : Nat → Value} {d : Nat} {st : List Value} {h : gm_H} {Q : gm_R → gm_H → Prop} {a1 a2 a3 a4 a5 a6 a7 : Value}  : gm_W E d 26 175 [.null, a1, a2, a3, a4, a5, a6, a7] st h Q ↔ gm_W E d 26 176 [.null, a1, a2, a3, a4, a5, a6, a7] (.null :: st) h Q := gw_loc m26 f26_175 rfl rfl
theorem f26_176 : gm_ft 26 176 = some (.iload 5, 2) := by decide +kernel
theorem r26_176 {E : Nat → Value} {d : Nat} {st : List Value} {h : gm_H} {Q : gm_R → gm_H → Prop} {a0 a1 a2 a3 a4 a6 a7 : Value} {x : Int32} : gm_W E d 26 176 [a0, a1, a2, a3, a4, .int x, a6, a7] st h Q ↔ gm_W E d 26 178 [a0, a1, a2, a3, a4, .int x, a6, a7] (.int x :: st) h Q := gw_loc m26 f26_176 rfl rfl
theorem f26_178 : gm_ft 26 178 = some (.invokevirtual 182, 3) := by decide +kernel
theorem c26_178 {E : Nat → Value} {d : Nat} {st : List Value} {h : gm_H} {Q : gm_R → gm_H → Prop} {lv : List Value} {b0 : Int32} {a : Nat} {Qc : gm_R → gm_H → Prop} (hs : (st.map fun v => v.category).sum ≤ 8) (hr : gm_kd h a = 5) (hd : 1 ≤ d) (hc : gm_Ca E (d - 1) 16 [.ref a, .int b0] h Qc) (kn : ∀ (v9 : Option Value) (h9 : gm_H), Qc (.inl v9) h9 → gm_W E d 26 181 lv (v9.toList ++ st) h9 Q) (kx : ∀ (x9 : Nat) (h9 : gm_H), Qc (.inr x9) h9 → Q (.inr x9) h9) : gm_W E d 26 178 lv (.int b0 :: .ref a :: st) h Q := gw_call (gn_call m26 f26_178 rfl rfl rfl rfl rfl rfl rfl (gs_virt (bs := [.int b0]) (w := 872) (L := 2) rfl rfl rfl rfl hs (by simp [gm_en1]) hr (by decide)) (by decide)) m26 rfl rfl hd hc kn kx
theorem f26_181 : gm_ft 26 181 = some (.return_, 1) := by decide +kernel
theorem r26_181 {E : Nat → Value} {d : Nat} {h : gm_H} {Q : gm_R → gm_H → Prop} {lv : List Value} : gm_W E d 26 181 lv [] h Q ↔ Q (.inl none) h := gw_ret m26 f26_181 rfl rfl rfl rfl rfl rfl rfl rfl rfl
theorem f26_182 : gm_ft 26 182 = some (.iconst 0, 1) := by decide +kernel
theorem r26_182 {E : Nat → Value} {d : Nat} {st : List Value} {h : gm_H} {Q : gm_R → gm_H → Prop} {lv : List Value} : gm_W E d 26 182 lv st h Q ↔ gm_W E d 26 183 lv (.int (0 : Int32) :: st) h Q := gw_pure m26 f26_182 rfl
theorem f26_183 : gm_ft 26 183 = some (.istore 7, 2) := by decide +kernel
theorem r26_183 {E : Nat → Value} {d : Nat} {st : List Value} {h : gm_H} {Q : gm_R → gm_H → Prop} {a0 a1 a2 a3 a4 a5 a6 a7 : Value} {x : Int32} : gm_W E d 26 183 [a0, a1, a2, a3, a4, a5, a6, a7] (.int x :: st) h Q ↔ gm_W E d 26 185 [a0, a1, a2, a3, a4, a5, gm_k a6, .int x] st h Q := gw_loc m26 f26_183 rfl rfl
theorem f26_185 : gm_ft 26 185 = some (.iload 7, 2) := by decide +kernel
theorem r26_185 {E : Nat → Value} {d : Nat} {st : List Value} {h : gm_H} {Q : gm_R → gm_H → Prop} {a0 a1 a2 a3 a4 a5 a6 : Value} {x : Int32} : gm_W E d 26 185 [a0, a1, a2, a3, a4, a5, a6, .int x] st h Q ↔ gm_W E d 26 187 [a0, a1, a2, a3, a4, a5, a6, .int x] (.int x :: st) h Q := gw_loc m26 f26_185 rfl rfl
theorem f26_187 : gm_ft 26 187 = some (.iload_n 3, 1) := by decide +kernel
theorem r26_187 {E : Nat → Value} {d : Nat} {st : List Value} {h : gm_H} {Q : gm_R → gm_H → Prop} {a0 a1 a2 a4 a5 a6 a7 : Value} {x : Int32} : gm_W E d 26 187 [a0, a1, a2, .int x, a4, a5, a6, a7] st h Q ↔ gm_W E d 26 188 [a0, a1, a2, .int x, a4, a5, a6, a7] (.int x :: st) h Q := gw_loc m26 f26_187 rfl rfl
theorem f26_188 : gm_ft 26 188 = some (.if_icmp .ge 24, 3) := by decide +kernel
theorem r26_188 {E : Nat → Value} {d : Nat} {st : List Value} {h : gm_H} {Q : gm_R → gm_H → Prop} {lv : List Value} {x y : Int32} : gm_W E d 26 188 lv (.int y :: .int x :: st) h Q ↔ (if y ≤ x then gm_W E d 26 212 lv st h Q else gm_W E d 26 191 lv st h Q) := (gw_br m26 f26_188 rfl rfl rfl rfl).trans gw_if
theorem f26_191 : gm_ft 26 191 = some (.aload_n 0, 1) := by decide +kernel
theorem r26_191 {E : Nat → Value} {d : Nat} {st : List Value} {h : gm_H} {Q : gm_R → gm_H → Prop} {a1 a2 a3 a4 a5 a6 a7 : Value} {x : Nat} : gm_W E d 26 191 [.ref x, a1, a2, a3, a4, a5, a6, a7] st h Q ↔ gm_W E d 26 192 [.ref x, a1, a2, a3, a4, a5, a6, a7] (.ref x :: st) h Q := gw_loc m26 f26_191 rfl rfl
theorem r26_191n {E : Nat → Value} {d : Nat} {st : List Value} {h : gm_H} {Q : gm_R → gm_H → Prop} {a1 a2 a3 a4 a5 a6 a7 : Value}  : gm_W E d 26 191 [.null, a1, a2, a3, a4, a5, a6, a7] st h Q ↔ gm_W E d 26 192 [.null, a1, a2, a3, a4, a5, a6, a7] (.null :: st) h Q := gw_loc m26 f26_191 rfl rfl
theorem f26_192 : gm_ft 26 192 = some (.getfield 54, 3) := by decide +kernel
theorem r26_192 {E : Nat → Value} {d : Nat} {st : List Value} {h : gm_H} {Q : gm_R → gm_H → Prop} {lv : List Value} {a : Nat} (hk : gm_kd h a = 5) : gm_W E d 26 192 lv (.ref a :: st) h Q ↔ gm_W E d 26 195 lv (gm_fv h a 24 :: st) h Q := gw_rd m26 f26_192 rfl rfl rfl rfl (gs_get k5_54 hk (by decide))
theorem f26_195 : gm_ft 26 195 = some (.aload_n 0, 1) := by decide +kernel
theorem r26_195 {E : Nat → Value} {d : Nat} {st : List Value} {h : gm_H} {Q : gm_R → gm_H → Prop} {a1 a2 a3 a4 a5 a6 a7 : Value} {x : Nat} : gm_W E d 26 195 [.ref x, a1, a2, a3, a4, a5, a6, a7] st h Q ↔ gm_W E d 26 196 [.ref x, a1, a2, a3, a4, a5, a6, a7] (.ref x :: st) h Q := gw_loc m26 f26_195 rfl rfl
theorem r26_195n {E : Nat → Value} {d : Nat} {st : List Value} {h : gm_H} {Q : gm_R → gm_H → Prop} {a1 a2 a3 a4 a5 a6 a7 : Value}  : gm_W E d 26 195 [.null, a1, a2, a3, a4, a5, a6, a7] st h Q ↔ gm_W E d 26 196 [.null, a1, a2, a3, a4, a5, a6, a7] (.null :: st) h Q := gw_loc m26 f26_195 rfl rfl
theorem f26_196 : gm_ft 26 196 = some (.getfield 163, 3) := by decide +kernel
theorem r26_196 {E : Nat → Value} {d : Nat} {st : List Value} {h : gm_H} {Q : gm_R → gm_H → Prop} {lv : List Value} {a : Nat} (hk : gm_kd h a = 5) : gm_W E d 26 196 lv (.ref a :: st) h Q ↔ gm_W E d 26 199 lv (gm_fv h a 25 :: st) h Q := gw_rd m26 f26_196 rfl rfl rfl rfl (gs_get k5_163 hk (by decide))
theorem f26_199 : gm_ft 26 199 = some (.iload 7, 2) := by decide +kernel
theorem r26_199 {E : Nat → Value} {d : Nat} {st : List Value} {h : gm_H} {Q : gm_R → gm_H → Prop} {a0 a1 a2 a3 a4 a5 a6 : Value} {x : Int32} : gm_W E d 26 199 [a0, a1, a2, a3, a4, a5, a6, .int x] st h Q ↔ gm_W E d 26 201 [a0, a1, a2, a3, a4, a5, a6, .int x] (.int x :: st) h Q := gw_loc m26 f26_199 rfl rfl
theorem f26_201 : gm_ft 26 201 = some (.iadd, 1) := by decide +kernel
theorem r26_201 {E : Nat → Value} {d : Nat} {st : List Value} {h : gm_H} {Q : gm_R → gm_H → Prop} {lv : List Value} {x y : Int32} : gm_W E d 26 201 lv (.int y :: .int x :: st) h Q ↔ gm_W E d 26 202 lv (.int (x + y) :: st) h Q := gw_pure m26 f26_201 rfl
theorem f26_202 : gm_ft 26 202 = some (.ldc2_w 212, 3) := by decide +kernel
theorem r26_202 {E : Nat → Value} {d : Nat} {st : List Value} {h : gm_H} {Q : gm_R → gm_H → Prop} {lv : List Value} : gm_W E d 26 202 lv st h Q ↔ gm_W E d 26 205 lv (.long (-2 : Int64) :: st) h Q := gw_rd m26 f26_202 rfl rfl rfl rfl rfl
theorem f26_205 : gm_ft 26 205 = some (.lastore, 1) := by decide +kernel
theorem r26_205 {E : Nat → Value} {d : Nat} {st : List Value} {h : gm_H} {Q : gm_R → gm_H → Prop} {lv : List Value} {a j : Nat} {x : Int64} (hk : gm_kd h a = 201) (hj : j < gm_ln h a) (hl : gm_ln h a < 2 ^ 31) : gm_W E d 26 205 lv (.long x :: .int (nI j) :: .ref a :: st) h Q ↔ gm_W E d 26 206 lv st (gm_sf h a j (.long x)) Q := gw_wr m26 f26_205 rfl rfl rfl rfl rfl (gs_st hk (by decide) hj hl)
theorem f26_206 : gm_ft 26 206 = some (.iinc 7 1, 3) := by decide +kernel
theorem r26_206 {E : Nat → Value} {d : Nat} {st : List Value} {h : gm_H} {Q : gm_R → gm_H → Prop} {a0 a1 a2 a3 a4 a5 a6 : Value} {x : Int32} : gm_W E d 26 206 [a0, a1, a2, a3, a4, a5, a6, .int x] st h Q ↔ gm_W E d 26 209 [a0, a1, a2, a3, a4, a5, gm_k a6, .int (x + (1 : Int32))] st h Q := gw_loc m26 f26_206 rfl rfl
theorem f26_209 : gm_ft 26 209 = some (.goto (-24), 3) := by decide +kernel
theorem r26_209 {E : Nat → Value} {d : Nat} {st : List Value} {h : gm_H} {Q : gm_R → gm_H → Prop} {lv : List Value} : gm_W E d 26 209 lv st h Q ↔ gm_W E d 26 185 lv st h Q := gw_brT m26 f26_209 rfl rfl rfl rfl
theorem f26_212 : gm_ft 26 212 = some (.aload_n 0, 1) := by decide +kernel
theorem r26_212 {E : Nat → Value} {d : Nat} {st : List Value} {h : gm_H} {Q : gm_R → gm_H → Prop} {a1 a2 a3 a4 a5 a6 a7 : Value} {x : Nat} : gm_W E d 26 212 [.ref x, a1, a2, a3, a4, a5, a6, a7] st h Q ↔ gm_W E d 26 213 [.ref x, a1, a2, a3, a4, a5, a6, a7] (.ref x :: st) h Q := gw_loc m26 f26_212 rfl rfl
theorem r26_212n {E : Nat → Value} {d : Nat} {st : List Value} {h : gm_H} {Q : gm_R → gm_H → Prop} {a1 a2 a3 a4 a5 a6 a7 : Value}  : gm_W E d 26 212 [.null, a1, a2, a3, a4, a5, a6, a7] st h Q ↔ gm_W E d 26 213 [.null, a1, a2, a3, a4, a5, a6, a7] (.null :: st) h Q := gw_loc m26 f26_212 rfl rfl
theorem f26_213 : gm_ft 26 213 = some (.dup, 1) := by decide +kernel
theorem r26_213 {E : Nat → Value} {d : Nat} {st : List Value} {h : gm_H} {Q : gm_R → gm_H → Prop} {lv : List Value} {a : Nat} : gm_W E d 26 213 lv (.ref a :: st) h Q ↔ gm_W E d 26 214 lv (.ref a :: .ref a :: st) h Q := gw_pure m26 f26_213 rfl
theorem r26_213i {E : Nat → Value} {d : Nat} {st : List Value} {h : gm_H} {Q : gm_R → gm_H → Prop} {lv : List Value} {x : Int32} : gm_W E d 26 213 lv (.int x :: st) h Q ↔ gm_W E d 26 214 lv (.int x :: .int x :: st) h Q := gw_pure m26 f26_213 rfl
theorem f26_214 : gm_ft 26 214 = some (.getfield 163, 3) := by decide +kernel
theorem r26_214 {E : Nat → Value} {d : Nat} {st : List Value} {h : gm_H} {Q : gm_R → gm_H → Prop} {lv : List Value} {a : Nat} (hk : gm_kd h a = 5) : gm_W E d 26 214 lv (.ref a :: st) h Q ↔ gm_W E d 26 217 lv (gm_fv h a 25 :: st) h Q := gw_rd m26 f26_214 rfl rfl rfl rfl (gs_get k5_163 hk (by decide))
theorem f26_217 : gm_ft 26 217 = some (.iload_n 3, 1) := by decide +kernel
theorem r26_217 {E : Nat → Value} {d : Nat} {st : List Value} {h : gm_H} {Q : gm_R → gm_H → Prop} {a0 a1 a2 a4 a5 a6 a7 : Value} {x : Int32} : gm_W E d 26 217 [a0, a1, a2, .int x, a4, a5, a6, a7] st h Q ↔ gm_W E d 26 218 [a0, a1, a2, .int x, a4, a5, a6, a7] (.int x :: st) h Q := gw_loc m26 f26_217 rfl rfl
theorem f26_218 : gm_ft 26 218 = some (.iadd, 1) := by decide +kernel
theorem r26_218 {E : Nat → Value} {d : Nat} {st : List Value} {h : gm_H} {Q : gm_R → gm_H → Prop} {lv : List Value} {x y : Int32} : gm_W E d 26 218 lv (.int y :: .int x :: st) h Q ↔ gm_W E d 26 219 lv (.int (x + y) :: st) h Q := gw_pure m26 f26_218 rfl
theorem f26_219 : gm_ft 26 219 = some (.putfield 163, 3) := by decide +kernel
theorem r26_219 {E : Nat → Value} {d : Nat} {st : List Value} {h : gm_H} {Q : gm_R → gm_H → Prop} {lv : List Value} {a : Nat} {x : Int32} (hk : gm_kd h a = 5) : gm_W E d 26 219 lv (.int x :: .ref a :: st) h Q ↔ gm_W E d 26 222 lv st (gm_sf h a 25 (.int x)) Q := gw_wr m26 f26_219 rfl rfl rfl rfl rfl (gs_put k5_163 hk (by decide) (by decide) ⟨rfl, rfl⟩ (by decide))
theorem f26_222 : gm_ft 26 222 = some (.aload_n 0, 1) := by decide +kernel
theorem r26_222 {E : Nat → Value} {d : Nat} {st : List Value} {h : gm_H} {Q : gm_R → gm_H → Prop} {a1 a2 a3 a4 a5 a6 a7 : Value} {x : Nat} : gm_W E d 26 222 [.ref x, a1, a2, a3, a4, a5, a6, a7] st h Q ↔ gm_W E d 26 223 [.ref x, a1, a2, a3, a4, a5, a6, a7] (.ref x :: st) h Q := gw_loc m26 f26_222 rfl rfl
theorem r26_222n {E : Nat → Value} {d : Nat} {st : List Value} {h : gm_H} {Q : gm_R → gm_H → Prop} {a1 a2 a3 a4 a5 a6 a7 : Value}  : gm_W E d 26 222 [.null, a1, a2, a3, a4, a5, a6, a7] st h Q ↔ gm_W E d 26 223 [.null, a1, a2, a3, a4, a5, a6, a7] (.null :: st) h Q := gw_loc m26 f26_222 rfl rfl
theorem f26_223 : gm_ft 26 223 = some (.getfield 102, 3) := by decide +kernel
theorem r26_223 {E : Nat → Value} {d : Nat} {st : List Value} {h : gm_H} {Q : gm_R → gm_H → Prop} {lv : List Value} {a : Nat} (hk : gm_kd h a = 5) : gm_W E d 26 223 lv (.ref a :: st) h Q ↔ gm_W E d 26 226 lv (gm_fv h a 43 :: st) h Q := gw_rd m26 f26_223 rfl rfl rfl rfl (gs_get k5_102 hk (by decide))
theorem f26_226 : gm_ft 26 226 = some (.iload_n 1, 1) := by decide +kernel
theorem r26_226 {E : Nat → Value} {d : Nat} {st : List Value} {h : gm_H} {Q : gm_R → gm_H → Prop} {a0 a2 a3 a4 a5 a6 a7 : Value} {x : Int32} : gm_W E d 26 226 [a0, .int x, a2, a3, a4, a5, a6, a7] st h Q ↔ gm_W E d 26 227 [a0, .int x, a2, a3, a4, a5, a6, a7] (.int x :: st) h Q := gw_loc m26 f26_226 rfl rfl
theorem f26_227 : gm_ft 26 227 = some (.iload 5, 2) := by decide +kernel
theorem r26_227 {E : Nat → Value} {d : Nat} {st : List Value} {h : gm_H} {Q : gm_R → gm_H → Prop} {a0 a1 a2 a3 a4 a6 a7 : Value} {x : Int32} : gm_W E d 26 227 [a0, a1, a2, a3, a4, .int x, a6, a7] st h Q ↔ gm_W E d 26 229 [a0, a1, a2, a3, a4, .int x, a6, a7] (.int x :: st) h Q := gw_loc m26 f26_227 rfl rfl
theorem f26_229 : gm_ft 26 229 = some (.iastore, 1) := by decide +kernel
theorem r26_229 {E : Nat → Value} {d : Nat} {st : List Value} {h : gm_H} {Q : gm_R → gm_H → Prop} {lv : List Value} {a j : Nat} {x : Int32} (hk : gm_kd h a = 200) (hj : j < gm_ln h a) (hl : gm_ln h a < 2 ^ 31) : gm_W E d 26 229 lv (.int x :: .int (nI j) :: .ref a :: st) h Q ↔ gm_W E d 26 230 lv st (gm_sf h a j (.int x)) Q := gw_wr m26 f26_229 rfl rfl rfl rfl rfl (gs_st hk (by decide) hj hl)
theorem f26_230 : gm_ft 26 230 = some (.aload_n 0, 1) := by decide +kernel
theorem r26_230 {E : Nat → Value} {d : Nat} {st : List Value} {h : gm_H} {Q : gm_R → gm_H → Prop} {a1 a2 a3 a4 a5 a6 a7 : Value} {x : Nat} : gm_W E d 26 230 [.ref x, a1, a2, a3, a4, a5, a6, a7] st h Q ↔ gm_W E d 26 231 [.ref x, a1, a2, a3, a4, a5, a6, a7] (.ref x :: st) h Q := gw_loc m26 f26_230 rfl rfl
theorem r26_230n {E : Nat → Value} {d : Nat} {st : List Value} {h : gm_H} {Q : gm_R → gm_H → Prop} {a1 a2 a3 a4 a5 a6 a7 : Value}  : gm_W E d 26 230 [.null, a1, a2, a3, a4, a5, a6, a7] st h Q ↔ gm_W E d 26 231 [.null, a1, a2, a3, a4, a5, a6, a7] (.null :: st) h Q := gw_loc m26 f26_230 rfl rfl
theorem f26_231 : gm_ft 26 231 = some (.getfield 105, 3) := by decide +kernel
theorem r26_231 {E : Nat → Value} {d : Nat} {st : List Value} {h : gm_H} {Q : gm_R → gm_H → Prop} {lv : List Value} {a : Nat} (hk : gm_kd h a = 5) : gm_W E d 26 231 lv (.ref a :: st) h Q ↔ gm_W E d 26 234 lv (gm_fv h a 44 :: st) h Q := gw_rd m26 f26_231 rfl rfl rfl rfl (gs_get k5_105 hk (by decide))
theorem f26_234 : gm_ft 26 234 = some (.iload_n 1, 1) := by decide +kernel
theorem r26_234 {E : Nat → Value} {d : Nat} {st : List Value} {h : gm_H} {Q : gm_R → gm_H → Prop} {a0 a2 a3 a4 a5 a6 a7 : Value} {x : Int32} : gm_W E d 26 234 [a0, .int x, a2, a3, a4, a5, a6, a7] st h Q ↔ gm_W E d 26 235 [a0, .int x, a2, a3, a4, a5, a6, a7] (.int x :: st) h Q := gw_loc m26 f26_234 rfl rfl
theorem f26_235 : gm_ft 26 235 = some (.iconst 0, 1) := by decide +kernel
theorem r26_235 {E : Nat → Value} {d : Nat} {st : List Value} {h : gm_H} {Q : gm_R → gm_H → Prop} {lv : List Value} : gm_W E d 26 235 lv st h Q ↔ gm_W E d 26 236 lv (.int (0 : Int32) :: st) h Q := gw_pure m26 f26_235 rfl
theorem f26_236 : gm_ft 26 236 = some (.iastore, 1) := by decide +kernel
theorem r26_236 {E : Nat → Value} {d : Nat} {st : List Value} {h : gm_H} {Q : gm_R → gm_H → Prop} {lv : List Value} {a j : Nat} {x : Int32} (hk : gm_kd h a = 200) (hj : j < gm_ln h a) (hl : gm_ln h a < 2 ^ 31) : gm_W E d 26 236 lv (.int x :: .int (nI j) :: .ref a :: st) h Q ↔ gm_W E d 26 237 lv st (gm_sf h a j (.int x)) Q := gw_wr m26 f26_236 rfl rfl rfl rfl rfl (gs_st hk (by decide) hj hl)
theorem f26_237 : gm_ft 26 237 = some (.aload_n 0, 1) := by decide +kernel
theorem r26_237 {E : Nat → Value} {d : Nat} {st : List Value} {h : gm_H} {Q : gm_R → gm_H → Prop} {a1 a2 a3 a4 a5 a6 a7 : Value} {x : Nat} : gm_W E d 26 237 [.ref x, a1, a2, a3, a4, a5, a6, a7] st h Q ↔ gm_W E d 26 238 [.ref x, a1, a2, a3, a4, a5, a6, a7] (.ref x :: st) h Q := gw_loc m26 f26_237 rfl rfl
theorem r26_237n {E : Nat → Value} {d : Nat} {st : List Value} {h : gm_H} {Q : gm_R → gm_H → Prop} {a1 a2 a3 a4 a5 a6 a7 : Value}  : gm_W E d 26 237 [.null, a1, a2, a3, a4, a5, a6, a7] st h Q ↔ gm_W E d 26 238 [.null, a1, a2, a3, a4, a5, a6, a7] (.null :: st) h Q := gw_loc m26 f26_237 rfl rfl
theorem f26_238 : gm_ft 26 238 = some (.getfield 96, 3) := by decide +kernel
theorem r26_238 {E : Nat → Value} {d : Nat} {st : List Value} {h : gm_H} {Q : gm_R → gm_H → Prop} {lv : List Value} {a : Nat} (hk : gm_kd h a = 5) : gm_W E d 26 238 lv (.ref a :: st) h Q ↔ gm_W E d 26 241 lv (gm_fv h a 41 :: st) h Q := gw_rd m26 f26_238 rfl rfl rfl rfl (gs_get k5_96 hk (by decide))
theorem f26_241 : gm_ft 26 241 = some (.iload_n 1, 1) := by decide +kernel
theorem r26_241 {E : Nat → Value} {d : Nat} {st : List Value} {h : gm_H} {Q : gm_R → gm_H → Prop} {a0 a2 a3 a4 a5 a6 a7 : Value} {x : Int32} : gm_W E d 26 241 [a0, .int x, a2, a3, a4, a5, a6, a7] st h Q ↔ gm_W E d 26 242 [a0, .int x, a2, a3, a4, a5, a6, a7] (.int x :: st) h Q := gw_loc m26 f26_241 rfl rfl
theorem f26_242 : gm_ft 26 242 = some (.iconst 4, 1) := by decide +kernel
theorem r26_242 {E : Nat → Value} {d : Nat} {st : List Value} {h : gm_H} {Q : gm_R → gm_H → Prop} {lv : List Value} : gm_W E d 26 242 lv st h Q ↔ gm_W E d 26 243 lv (.int (4 : Int32) :: st) h Q := gw_pure m26 f26_242 rfl
theorem f26_243 : gm_ft 26 243 = some (.iastore, 1) := by decide +kernel
theorem r26_243 {E : Nat → Value} {d : Nat} {st : List Value} {h : gm_H} {Q : gm_R → gm_H → Prop} {lv : List Value} {a j : Nat} {x : Int32} (hk : gm_kd h a = 200) (hj : j < gm_ln h a) (hl : gm_ln h a < 2 ^ 31) : gm_W E d 26 243 lv (.int x :: .int (nI j) :: .ref a :: st) h Q ↔ gm_W E d 26 244 lv st (gm_sf h a j (.int x)) Q := gw_wr m26 f26_243 rfl rfl rfl rfl rfl (gs_st hk (by decide) hj hl)
theorem f26_244 : gm_ft 26 244 = some (.aload_n 0, 1) := by decide +kernel
theorem r26_244 {E : Nat → Value} {d : Nat} {st : List Value} {h : gm_H} {Q : gm_R → gm_H → Prop} {a1 a2 a3 a4 a5 a6 a7 : Value} {x : Nat} : gm_W E d 26 244 [.ref x, a1, a2, a3, a4, a5, a6, a7] st h Q ↔ gm_W E d 26 245 [.ref x, a1, a2, a3, a4, a5, a6, a7] (.ref x :: st) h Q := gw_loc m26 f26_244 rfl rfl
theorem r26_244n {E : Nat → Value} {d : Nat} {st : List Value} {h : gm_H} {Q : gm_R → gm_H → Prop} {a1 a2 a3 a4 a5 a6 a7 : Value}  : gm_W E d 26 244 [.null, a1, a2, a3, a4, a5, a6, a7] st h Q ↔ gm_W E d 26 245 [.null, a1, a2, a3, a4, a5, a6, a7] (.null :: st) h Q := gw_loc m26 f26_244 rfl rfl
theorem f26_245 : gm_ft 26 245 = some (.iload_n 1, 1) := by decide +kernel
theorem r26_245 {E : Nat → Value} {d : Nat} {st : List Value} {h : gm_H} {Q : gm_R → gm_H → Prop} {a0 a2 a3 a4 a5 a6 a7 : Value} {x : Int32} : gm_W E d 26 245 [a0, .int x, a2, a3, a4, a5, a6, a7] st h Q ↔ gm_W E d 26 246 [a0, .int x, a2, a3, a4, a5, a6, a7] (.int x :: st) h Q := gw_loc m26 f26_245 rfl rfl
theorem f26_246 : gm_ft 26 246 = some (.invokevirtual 216, 3) := by decide +kernel
theorem c26_246 {E : Nat → Value} {d : Nat} {st : List Value} {h : gm_H} {Q : gm_R → gm_H → Prop} {lv : List Value} {b0 : Int32} {a : Nat} {Qc : gm_R → gm_H → Prop} (hs : (st.map fun v => v.category).sum ≤ 8) (hr : gm_kd h a = 5) (hd : 1 ≤ d) (hc : gm_Ca E (d - 1) 27 [.ref a, .int b0] h Qc) (kn : ∀ (v9 : Option Value) (h9 : gm_H), Qc (.inl v9) h9 → gm_W E d 26 249 lv (v9.toList ++ st) h9 Q) (kx : ∀ (x9 : Nat) (h9 : gm_H), Qc (.inr x9) h9 → Q (.inr x9) h9) : gm_W E d 26 246 lv (.int b0 :: .ref a :: st) h Q := gw_call (gn_call m26 f26_246 rfl rfl rfl rfl rfl rfl rfl (gs_virt (bs := [.int b0]) (w := 919) (L := 2) rfl rfl rfl rfl hs (by simp [gm_en1]) hr (by decide)) (by decide)) m26 rfl rfl hd hc kn kx
theorem f26_249 : gm_ft 26 249 = some (.return_, 1) := by decide +kernel
theorem r26_249 {E : Nat → Value} {d : Nat} {h : gm_H} {Q : gm_R → gm_H → Prop} {lv : List Value} : gm_W E d 26 249 lv [] h Q ↔ Q (.inl none) h := gw_ret m26 f26_249 rfl rfl rfl rfl rfl rfl rfl rfl rfl
