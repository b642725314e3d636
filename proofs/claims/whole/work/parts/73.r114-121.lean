/-! GraphReaderModel.endInstance(I)V -/
theorem m114 : gm_mt[114]? = some (⟨"GraphReaderModel", "endInstance", "(I)V"⟩, prog_7_method_24_code, 4, none, [], 5, 2) := rfl
theorem f114_0 : gm_ft 114 0 = some (.aload_n 0, 1) := by decide +kernel
theorem r114_0 {E : Nat → Value} {d : Nat} {st : List Value} {h : gm_H} {r : gm_R × gm_H} {a1 a2 a3 : Value} {x : Nat} : gm_Go E d 114 0 [.ref x, a1, a2, a3] st h r ↔ gm_Go E d 114 1 [.ref x, a1, a2, a3] (.ref x :: st) h r := gr_loc m114 f114_0 rfl rfl
theorem r114_0n {E : Nat → Value} {d : Nat} {st : List Value} {h : gm_H} {r : gm_R × gm_H} {a1 a2 a3 : Value}  : gm_Go E d 114 0 [.null, a1, a2, a3] st h r ↔ gm_Go E d 114 1 [.null, a1, a2, a3] (.null :: st) h r := gr_loc m114 f114_0 rfl rfl
theorem f114_1 : gm_ft 114 1 = some (.getfield 102, 3) := by decide +kernel
theorem r114_1 {E : Nat → Value} {d : Nat} {st : List Value} {h : gm_H} {r : gm_R × gm_H} {lv : List Value} {a : Nat} {vs : List Value} {v : Value} (hr : gm_rd h a = some (5, vs)) (hv : vs[43]? = some v) : gm_Go E d 114 1 lv (.ref a :: st) h r ↔ gm_Go E d 114 4 lv (v :: st) h r := gr_rd m114 f114_1 rfl rfl rfl rfl (gf_get k5_102 hr hv)
theorem f114_4 : gm_ft 114 4 = some (.iload_n 1, 1) := by decide +kernel
theorem r114_4 {E : Nat → Value} {d : Nat} {st : List Value} {h : gm_H} {r : gm_R × gm_H} {a0 a2 a3 : Value} {x : Int32} : gm_Go E d 114 4 [a0, .int x, a2, a3] st h r ↔ gm_Go E d 114 5 [a0, .int x, a2, a3] (.int x :: st) h r := gr_loc m114 f114_4 rfl rfl
theorem f114_5 : gm_ft 114 5 = some (.iaload, 1) := by decide +kernel
theorem r114_5 {E : Nat → Value} {d : Nat} {st : List Value} {h : gm_H} {r : gm_R × gm_H} {lv : List Value} {a k j : Nat} {vs : List Value} {v : Value} (hr : gm_rd h a = some (k, vs)) (hk : 100 ≤ k ∧ (fun t => t == 0) (k % 100) = true) (hj : j < 2 ^ 31) (hv : vs[j]? = some v) : gm_Go E d 114 5 lv (.int (nI j) :: .ref a :: st) h r ↔ gm_Go E d 114 6 lv (v :: st) h r := gr_rd m114 f114_5 rfl rfl rfl rfl (ga_ld (P := fun t => t == 0) hr hk hj hv)
theorem f114_6 : gm_ft 114 6 = some (.istore_n 2, 1) := by decide +kernel
theorem r114_6 {E : Nat → Value} {d : Nat} {st : List Value} {h : gm_H} {r : gm_R × gm_H} {a0 a1 a2 a3 : Value} {x : Int32} : gm_Go E d 114 6 [a0, a1, a2, a3] (.int x :: st) h r ↔ gm_Go E d 114 7 [a0, gm_k a1, .int x, a3] st h r := gr_loc m114 f114_6 rfl rfl
theorem f114_7 : gm_ft 114 7 = some (.aload_n 0, 1) := by decide +kernel
theorem r114_7 {E : Nat → Value} {d : Nat} {st : List Value} {h : gm_H} {r : gm_R × gm_H} {a1 a2 a3 : Value} {x : Nat} : gm_Go E d 114 7 [.ref x, a1, a2, a3] st h r ↔ gm_Go E d 114 8 [.ref x, a1, a2, a3] (.ref x :: st) h r := gr_loc m114 f114_7 rfl rfl
theorem r114_7n {E : Nat → Value} {d : Nat} {st : List Value} {h : gm_H} {r : gm_R × gm_H} {a1 a2 a3 : Value}  : gm_Go E d 114 7 [.null, a1, a2, a3] st h r ↔ gm_Go E d 114 8 [.null, a1, a2, a3] (.null :: st) h r := gr_loc m114 f114_7 rfl rfl
theorem f114_8 : gm_ft 114 8 = some (.getfield 42, 3) := by decide +kernel
theorem r114_8 {E : Nat → Value} {d : Nat} {st : List Value} {h : gm_H} {r : gm_R × gm_H} {lv : List Value} {a : Nat} {vs : List Value} {v : Value} (hr : gm_rd h a = some (5, vs)) (hv : vs[19]? = some v) : gm_Go E d 114 8 lv (.ref a :: st) h r ↔ gm_Go E d 114 11 lv (v :: st) h r := gr_rd m114 f114_8 rfl rfl rfl rfl (gf_get k5_42 hr hv)
theorem f114_11 : gm_ft 114 11 = some (.iload_n 2, 1) := by decide +kernel
theorem r114_11 {E : Nat → Value} {d : Nat} {st : List Value} {h : gm_H} {r : gm_R × gm_H} {a0 a1 a3 : Value} {x : Int32} : gm_Go E d 114 11 [a0, a1, .int x, a3] st h r ↔ gm_Go E d 114 12 [a0, a1, .int x, a3] (.int x :: st) h r := gr_loc m114 f114_11 rfl rfl
theorem f114_12 : gm_ft 114 12 = some (.iaload, 1) := by decide +kernel
theorem r114_12 {E : Nat → Value} {d : Nat} {st : List Value} {h : gm_H} {r : gm_R × gm_H} {lv : List Value} {a k j : Nat} {vs : List Value} {v : Value} (hr : gm_rd h a = some (k, vs)) (hk : 100 ≤ k ∧ (fun t => t == 0) (k % 100) = true) (hj : j < 2 ^ 31) (hv : vs[j]? = some v) : gm_Go E d 114 12 lv (.int (nI j) :: .ref a :: st) h r ↔ gm_Go E d 114 13 lv (v :: st) h r := gr_rd m114 f114_12 rfl rfl rfl rfl (ga_ld (P := fun t => t == 0) hr hk hj hv)
theorem f114_13 : gm_ft 114 13 = some (.istore_n 3, 1) := by decide +kernel
theorem r114_13 {E : Nat → Value} {d : Nat} {st : List Value} {h : gm_H} {r : gm_R × gm_H} {a0 a1 a2 a3 : Value} {x : Int32} : gm_Go E d 114 13 [a0, a1, a2, a3] (.int x :: st) h r ↔ gm_Go E d 114 14 [a0, a1, gm_k a2, .int x] st h r := gr_loc m114 f114_13 rfl rfl
theorem f114_14 : gm_ft 114 14 = some (.aload_n 0, 1) := by decide +kernel
theorem r114_14 {E : Nat → Value} {d : Nat} {st : List Value} {h : gm_H} {r : gm_R × gm_H} {a1 a2 a3 : Value} {x : Nat} : gm_Go E d 114 14 [.ref x, a1, a2, a3] st h r ↔ gm_Go E d 114 15 [.ref x, a1, a2, a3] (.ref x :: st) h r := gr_loc m114 f114_14 rfl rfl
theorem r114_14n {E : Nat → Value} {d : Nat} {st : List Value} {h : gm_H} {r : gm_R × gm_H} {a1 a2 a3 : Value}  : gm_Go E d 114 14 [.null, a1, a2, a3] st h r ↔ gm_Go E d 114 15 [.null, a1, a2, a3] (.null :: st) h r := gr_loc m114 f114_14 rfl rfl
theorem f114_15 : gm_ft 114 15 = some (.getfield 13, 3) := by decide +kernel
theorem r114_15 {E : Nat → Value} {d : Nat} {st : List Value} {h : gm_H} {r : gm_R × gm_H} {lv : List Value} {a : Nat} {vs : List Value} {v : Value} (hr : gm_rd h a = some (5, vs)) (hv : vs[10]? = some v) : gm_Go E d 114 15 lv (.ref a :: st) h r ↔ gm_Go E d 114 18 lv (v :: st) h r := gr_rd m114 f114_15 rfl rfl rfl rfl (gf_get k5_13 hr hv)
theorem f114_18 : gm_ft 114 18 = some (.iload_n 3, 1) := by decide +kernel
theorem r114_18 {E : Nat → Value} {d : Nat} {st : List Value} {h : gm_H} {r : gm_R × gm_H} {a0 a1 a2 : Value} {x : Int32} : gm_Go E d 114 18 [a0, a1, a2, .int x] st h r ↔ gm_Go E d 114 19 [a0, a1, a2, .int x] (.int x :: st) h r := gr_loc m114 f114_18 rfl rfl
theorem f114_19 : gm_ft 114 19 = some (.iaload, 1) := by decide +kernel
theorem r114_19 {E : Nat → Value} {d : Nat} {st : List Value} {h : gm_H} {r : gm_R × gm_H} {lv : List Value} {a k j : Nat} {vs : List Value} {v : Value} (hr : gm_rd h a = some (k, vs)) (hk : 100 ≤ k ∧ (fun t => t == 0) (k % 100) = true) (hj : j < 2 ^ 31) (hv : vs[j]? = some v) : gm_Go E d 114 19 lv (.int (nI j) :: .ref a :: st) h r ↔ gm_Go E d 114 20 lv (v :: st) h r := gr_rd m114 f114_19 rfl rfl rfl rfl (ga_ld (P := fun t => t == 0) hr hk hj hv)
theorem f114_20 : gm_ft 114 20 = some (.iconst 4, 1) := by decide +kernel
theorem r114_20 {E : Nat → Value} {d : Nat} {st : List Value} {h : gm_H} {r : gm_R × gm_H} {lv : List Value} : gm_Go E d 114 20 lv st h r ↔ gm_Go E d 114 21 lv (.int (4 : Int32) :: st) h r := gr_pure m114 f114_20 rfl
theorem f114_21 : gm_ft 114 21 = some (.if_icmp .ne 47, 3) := by decide +kernel
theorem r114_21 {E : Nat → Value} {d : Nat} {st : List Value} {h : gm_H} {r : gm_R × gm_H} {lv : List Value} {x y : Int32} : gm_Go E d 114 21 lv (.int y :: .int x :: st) h r ↔ (if x = y then gm_Go E d 114 24 lv st h r else gm_Go E d 114 68 lv st h r) := (gr_br m114 f114_21 rfl rfl rfl rfl).trans gr_ifn
theorem f114_24 : gm_ft 114 24 = some (.aload_n 0, 1) := by decide +kernel
theorem r114_24 {E : Nat → Value} {d : Nat} {st : List Value} {h : gm_H} {r : gm_R × gm_H} {a1 a2 a3 : Value} {x : Nat} : gm_Go E d 114 24 [.ref x, a1, a2, a3] st h r ↔ gm_Go E d 114 25 [.ref x, a1, a2, a3] (.ref x :: st) h r := gr_loc m114 f114_24 rfl rfl
theorem r114_24n {E : Nat → Value} {d : Nat} {st : List Value} {h : gm_H} {r : gm_R × gm_H} {a1 a2 a3 : Value}  : gm_Go E d 114 24 [.null, a1, a2, a3] st h r ↔ gm_Go E d 114 25 [.null, a1, a2, a3] (.null :: st) h r := gr_loc m114 f114_24 rfl rfl
theorem f114_25 : gm_ft 114 25 = some (.getfield 23, 3) := by decide +kernel
theorem r114_25 {E : Nat → Value} {d : Nat} {st : List Value} {h : gm_H} {r : gm_R × gm_H} {lv : List Value} {a : Nat} {vs : List Value} {v : Value} (hr : gm_rd h a = some (5, vs)) (hv : vs[13]? = some v) : gm_Go E d 114 25 lv (.ref a :: st) h r ↔ gm_Go E d 114 28 lv (v :: st) h r := gr_rd m114 f114_25 rfl rfl rfl rfl (gf_get k5_23 hr hv)
theorem f114_28 : gm_ft 114 28 = some (.iload_n 3, 1) := by decide +kernel
theorem r114_28 {E : Nat → Value} {d : Nat} {st : List Value} {h : gm_H} {r : gm_R × gm_H} {a0 a1 a2 : Value} {x : Int32} : gm_Go E d 114 28 [a0, a1, a2, .int x] st h r ↔ gm_Go E d 114 29 [a0, a1, a2, .int x] (.int x :: st) h r := gr_loc m114 f114_28 rfl rfl
theorem f114_29 : gm_ft 114 29 = some (.iaload, 1) := by decide +kernel
theorem r114_29 {E : Nat → Value} {d : Nat} {st : List Value} {h : gm_H} {r : gm_R × gm_H} {lv : List Value} {a k j : Nat} {vs : List Value} {v : Value} (hr : gm_rd h a = some (k, vs)) (hk : 100 ≤ k ∧ (fun t => t == 0) (k % 100) = true) (hj : j < 2 ^ 31) (hv : vs[j]? = some v) : gm_Go E d 114 29 lv (.int (nI j) :: .ref a :: st) h r ↔ gm_Go E d 114 30 lv (v :: st) h r := gr_rd m114 f114_29 rfl rfl rfl rfl (ga_ld (P := fun t => t == 0) hr hk hj hv)
theorem f114_30 : gm_ft 114 30 = some (.ifCond .le 38, 3) := by decide +kernel
theorem r114_30 {E : Nat → Value} {d : Nat} {st : List Value} {h : gm_H} {r : gm_R × gm_H} {lv : List Value} {x : Int32} : gm_Go E d 114 30 lv (.int x :: st) h r ↔ (if x ≤ 0 then gm_Go E d 114 68 lv st h r else gm_Go E d 114 33 lv st h r) := (gr_br m114 f114_30 rfl rfl rfl rfl).trans gr_if
theorem f114_33 : gm_ft 114 33 = some (.aload_n 0, 1) := by decide +kernel
theorem r114_33 {E : Nat → Value} {d : Nat} {st : List Value} {h : gm_H} {r : gm_R × gm_H} {a1 a2 a3 : Value} {x : Nat} : gm_Go E d 114 33 [.ref x, a1, a2, a3] st h r ↔ gm_Go E d 114 34 [.ref x, a1, a2, a3] (.ref x :: st) h r := gr_loc m114 f114_33 rfl rfl
theorem r114_33n {E : Nat → Value} {d : Nat} {st : List Value} {h : gm_H} {r : gm_R × gm_H} {a1 a2 a3 : Value}  : gm_Go E d 114 33 [.null, a1, a2, a3] st h r ↔ gm_Go E d 114 34 [.null, a1, a2, a3] (.null :: st) h r := gr_loc m114 f114_33 rfl rfl
theorem f114_34 : gm_ft 114 34 = some (.getfield 29, 3) := by decide +kernel
theorem r114_34 {E : Nat → Value} {d : Nat} {st : List Value} {h : gm_H} {r : gm_R × gm_H} {lv : List Value} {a : Nat} {vs : List Value} {v : Value} (hr : gm_rd h a = some (5, vs)) (hv : vs[15]? = some v) : gm_Go E d 114 34 lv (.ref a :: st) h r ↔ gm_Go E d 114 37 lv (v :: st) h r := gr_rd m114 f114_34 rfl rfl rfl rfl (gf_get k5_29 hr hv)
theorem f114_37 : gm_ft 114 37 = some (.iconst 4, 1) := by decide +kernel
theorem r114_37 {E : Nat → Value} {d : Nat} {st : List Value} {h : gm_H} {r : gm_R × gm_H} {lv : List Value} : gm_Go E d 114 37 lv st h r ↔ gm_Go E d 114 38 lv (.int (4 : Int32) :: st) h r := gr_pure m114 f114_37 rfl
theorem f114_38 : gm_ft 114 38 = some (.iload_n 3, 1) := by decide +kernel
theorem r114_38 {E : Nat → Value} {d : Nat} {st : List Value} {h : gm_H} {r : gm_R × gm_H} {a0 a1 a2 : Value} {x : Int32} : gm_Go E d 114 38 [a0, a1, a2, .int x] st h r ↔ gm_Go E d 114 39 [a0, a1, a2, .int x] (.int x :: st) h r := gr_loc m114 f114_38 rfl rfl
theorem f114_39 : gm_ft 114 39 = some (.imul, 1) := by decide +kernel
theorem r114_39 {E : Nat → Value} {d : Nat} {st : List Value} {h : gm_H} {r : gm_R × gm_H} {lv : List Value} {x y : Int32} : gm_Go E d 114 39 lv (.int y :: .int x :: st) h r ↔ gm_Go E d 114 40 lv (.int (x * y) :: st) h r := gr_pure m114 f114_39 rfl
theorem f114_40 : gm_ft 114 40 = some (.iaload, 1) := by decide +kernel
theorem r114_40 {E : Nat → Value} {d : Nat} {st : List Value} {h : gm_H} {r : gm_R × gm_H} {lv : List Value} {a k j : Nat} {vs : List Value} {v : Value} (hr : gm_rd h a = some (k, vs)) (hk : 100 ≤ k ∧ (fun t => t == 0) (k % 100) = true) (hj : j < 2 ^ 31) (hv : vs[j]? = some v) : gm_Go E d 114 40 lv (.int (nI j) :: .ref a :: st) h r ↔ gm_Go E d 114 41 lv (v :: st) h r := gr_rd m114 f114_40 rfl rfl rfl rfl (ga_ld (P := fun t => t == 0) hr hk hj hv)
theorem f114_41 : gm_ft 114 41 = some (.bipush 6, 2) := by decide +kernel
theorem r114_41 {E : Nat → Value} {d : Nat} {st : List Value} {h : gm_H} {r : gm_R × gm_H} {lv : List Value} : gm_Go E d 114 41 lv st h r ↔ gm_Go E d 114 43 lv (.int (6 : Int32) :: st) h r := gr_pure m114 f114_41 rfl
theorem f114_43 : gm_ft 114 43 = some (.if_icmp .ge 25, 3) := by decide +kernel
theorem r114_43 {E : Nat → Value} {d : Nat} {st : List Value} {h : gm_H} {r : gm_R × gm_H} {lv : List Value} {x y : Int32} : gm_Go E d 114 43 lv (.int y :: .int x :: st) h r ↔ (if y ≤ x then gm_Go E d 114 68 lv st h r else gm_Go E d 114 46 lv st h r) := (gr_br m114 f114_43 rfl rfl rfl rfl).trans gr_if
theorem f114_46 : gm_ft 114 46 = some (.aload_n 0, 1) := by decide +kernel
theorem r114_46 {E : Nat → Value} {d : Nat} {st : List Value} {h : gm_H} {r : gm_R × gm_H} {a1 a2 a3 : Value} {x : Nat} : gm_Go E d 114 46 [.ref x, a1, a2, a3] st h r ↔ gm_Go E d 114 47 [.ref x, a1, a2, a3] (.ref x :: st) h r := gr_loc m114 f114_46 rfl rfl
theorem r114_46n {E : Nat → Value} {d : Nat} {st : List Value} {h : gm_H} {r : gm_R × gm_H} {a1 a2 a3 : Value}  : gm_Go E d 114 46 [.null, a1, a2, a3] st h r ↔ gm_Go E d 114 47 [.null, a1, a2, a3] (.null :: st) h r := gr_loc m114 f114_46 rfl rfl
theorem f114_47 : gm_ft 114 47 = some (.getfield 54, 3) := by decide +kernel
theorem r114_47 {E : Nat → Value} {d : Nat} {st : List Value} {h : gm_H} {r : gm_R × gm_H} {lv : List Value} {a : Nat} {vs : List Value} {v : Value} (hr : gm_rd h a = some (5, vs)) (hv : vs[24]? = some v) : gm_Go E d 114 47 lv (.ref a :: st) h r ↔ gm_Go E d 114 50 lv (v :: st) h r := gr_rd m114 f114_47 rfl rfl rfl rfl (gf_get k5_54 hr hv)
theorem f114_50 : gm_ft 114 50 = some (.aload_n 0, 1) := by decide +kernel
theorem r114_50 {E : Nat → Value} {d : Nat} {st : List Value} {h : gm_H} {r : gm_R × gm_H} {a1 a2 a3 : Value} {x : Nat} : gm_Go E d 114 50 [.ref x, a1, a2, a3] st h r ↔ gm_Go E d 114 51 [.ref x, a1, a2, a3] (.ref x :: st) h r := gr_loc m114 f114_50 rfl rfl
theorem r114_50n {E : Nat → Value} {d : Nat} {st : List Value} {h : gm_H} {r : gm_R × gm_H} {a1 a2 a3 : Value}  : gm_Go E d 114 50 [.null, a1, a2, a3] st h r ↔ gm_Go E d 114 51 [.null, a1, a2, a3] (.null :: st) h r := gr_loc m114 f114_50 rfl rfl
theorem f114_51 : gm_ft 114 51 = some (.getfield 48, 3) := by decide +kernel
theorem r114_51 {E : Nat → Value} {d : Nat} {st : List Value} {h : gm_H} {r : gm_R × gm_H} {lv : List Value} {a : Nat} {vs : List Value} {v : Value} (hr : gm_rd h a = some (5, vs)) (hv : vs[21]? = some v) : gm_Go E d 114 51 lv (.ref a :: st) h r ↔ gm_Go E d 114 54 lv (v :: st) h r := gr_rd m114 f114_51 rfl rfl rfl rfl (gf_get k5_48 hr hv)
theorem f114_54 : gm_ft 114 54 = some (.iload_n 2, 1) := by decide +kernel
theorem r114_54 {E : Nat → Value} {d : Nat} {st : List Value} {h : gm_H} {r : gm_R × gm_H} {a0 a1 a3 : Value} {x : Int32} : gm_Go E d 114 54 [a0, a1, .int x, a3] st h r ↔ gm_Go E d 114 55 [a0, a1, .int x, a3] (.int x :: st) h r := gr_loc m114 f114_54 rfl rfl
theorem f114_55 : gm_ft 114 55 = some (.iaload, 1) := by decide +kernel
theorem r114_55 {E : Nat → Value} {d : Nat} {st : List Value} {h : gm_H} {r : gm_R × gm_H} {lv : List Value} {a k j : Nat} {vs : List Value} {v : Value} (hr : gm_rd h a = some (k, vs)) (hk : 100 ≤ k ∧ (fun t => t == 0) (k % 100) = true) (hj : j < 2 ^ 31) (hv : vs[j]? = some v) : gm_Go E d 114 55 lv (.int (nI j) :: .ref a :: st) h r ↔ gm_Go E d 114 56 lv (v :: st) h r := gr_rd m114 f114_55 rfl rfl rfl rfl (ga_ld (P := fun t => t == 0) hr hk hj hv)
theorem f114_56 : gm_ft 114 56 = some (.laload, 1) := by decide +kernel
theorem r114_56 {E : Nat → Value} {d : Nat} {st : List Value} {h : gm_H} {r : gm_R × gm_H} {lv : List Value} {a k j : Nat} {vs : List Value} {v : Value} (hr : gm_rd h a = some (k, vs)) (hk : 100 ≤ k ∧ (fun t => t == 1) (k % 100) = true) (hj : j < 2 ^ 31) (hv : vs[j]? = some v) : gm_Go E d 114 56 lv (.int (nI j) :: .ref a :: st) h r ↔ gm_Go E d 114 57 lv (v :: st) h r := gr_rd m114 f114_56 rfl rfl rfl rfl (ga_ld (P := fun t => t == 1) hr hk hj hv)
theorem f114_57 : gm_ft 114 57 = some (.lconst 0, 1) := by decide +kernel
theorem r114_57 {E : Nat → Value} {d : Nat} {st : List Value} {h : gm_H} {r : gm_R × gm_H} {lv : List Value} : gm_Go E d 114 57 lv st h r ↔ gm_Go E d 114 58 lv (.long 0 :: st) h r := gr_pure m114 f114_57 rfl
theorem f114_58 : gm_ft 114 58 = some (.lcmp, 1) := by decide +kernel
theorem r114_58 {E : Nat → Value} {d : Nat} {st : List Value} {h : gm_H} {r : gm_R × gm_H} {lv : List Value} {x y : Int64} : gm_Go E d 114 58 lv (.long y :: .long x :: st) h r ↔ gm_Go E d 114 59 lv (.int (lg_cmp x y) :: st) h r := gr_pure m114 f114_58 rfl
theorem f114_59 : gm_ft 114 59 = some (.ifCond .ge 9, 3) := by decide +kernel
theorem r114_59 {E : Nat → Value} {d : Nat} {st : List Value} {h : gm_H} {r : gm_R × gm_H} {lv : List Value} {x : Int32} : gm_Go E d 114 59 lv (.int x :: st) h r ↔ (if 0 ≤ x then gm_Go E d 114 68 lv st h r else gm_Go E d 114 62 lv st h r) := (gr_br m114 f114_59 rfl rfl rfl rfl).trans gr_if
theorem f114_62 : gm_ft 114 62 = some (.aload_n 0, 1) := by decide +kernel
theorem r114_62 {E : Nat → Value} {d : Nat} {st : List Value} {h : gm_H} {r : gm_R × gm_H} {a1 a2 a3 : Value} {x : Nat} : gm_Go E d 114 62 [.ref x, a1, a2, a3] st h r ↔ gm_Go E d 114 63 [.ref x, a1, a2, a3] (.ref x :: st) h r := gr_loc m114 f114_62 rfl rfl
theorem r114_62n {E : Nat → Value} {d : Nat} {st : List Value} {h : gm_H} {r : gm_R × gm_H} {a1 a2 a3 : Value}  : gm_Go E d 114 62 [.null, a1, a2, a3] st h r ↔ gm_Go E d 114 63 [.null, a1, a2, a3] (.null :: st) h r := gr_loc m114 f114_62 rfl rfl
theorem f114_63 : gm_ft 114 63 = some (.bipush (-6), 2) := by decide +kernel
theorem r114_63 {E : Nat → Value} {d : Nat} {st : List Value} {h : gm_H} {r : gm_R × gm_H} {lv : List Value} : gm_Go E d 114 63 lv st h r ↔ gm_Go E d 114 65 lv (.int (-6 : Int32) :: st) h r := gr_pure m114 f114_63 rfl
theorem f114_65 : gm_ft 114 65 = some (.invokevirtual 151, 3) := by decide +kernel
theorem n114_65 {st : List Value} {h : gm_H} {E : Nat → Value} {lv : List Value} {b0 : Value} {a : Nat} (hs : (st.map fun v => v.category).sum ≤ 8) (he : (gm_en1 [.ref a, b0]).length ≤ 2) {vs : List Value} (hr : gm_rd h a = some (5, vs)) : gm_next E 114 65 lv (b0 :: .ref a :: st) h = some (.inr (.inl (0, 98, [.ref a, b0], st))) := gn_call m114 f114_65 rfl rfl rfl rfl rfl rfl rfl (gc_virt (bs := [b0]) (w := 844) rfl rfl rfl rfl hs he hr) (by decide)
theorem f114_68 : gm_ft 114 68 = some (.aload_n 0, 1) := by decide +kernel
theorem r114_68 {E : Nat → Value} {d : Nat} {st : List Value} {h : gm_H} {r : gm_R × gm_H} {a1 a2 a3 : Value} {x : Nat} : gm_Go E d 114 68 [.ref x, a1, a2, a3] st h r ↔ gm_Go E d 114 69 [.ref x, a1, a2, a3] (.ref x :: st) h r := gr_loc m114 f114_68 rfl rfl
theorem r114_68n {E : Nat → Value} {d : Nat} {st : List Value} {h : gm_H} {r : gm_R × gm_H} {a1 a2 a3 : Value}  : gm_Go E d 114 68 [.null, a1, a2, a3] st h r ↔ gm_Go E d 114 69 [.null, a1, a2, a3] (.null :: st) h r := gr_loc m114 f114_68 rfl rfl
theorem f114_69 : gm_ft 114 69 = some (.getfield 145, 3) := by decide +kernel
theorem r114_69 {E : Nat → Value} {d : Nat} {st : List Value} {h : gm_H} {r : gm_R × gm_H} {lv : List Value} {a : Nat} {vs : List Value} {v : Value} (hr : gm_rd h a = some (5, vs)) (hv : vs[8]? = some v) : gm_Go E d 114 69 lv (.ref a :: st) h r ↔ gm_Go E d 114 72 lv (v :: st) h r := gr_rd m114 f114_69 rfl rfl rfl rfl (gf_get k5_145 hr hv)
theorem f114_72 : gm_ft 114 72 = some (.ifCond .eq 4, 3) := by decide +kernel
theorem r114_72 {E : Nat → Value} {d : Nat} {st : List Value} {h : gm_H} {r : gm_R × gm_H} {lv : List Value} {x : Int32} : gm_Go E d 114 72 lv (.int x :: st) h r ↔ (if x = 0 then gm_Go E d 114 76 lv st h r else gm_Go E d 114 75 lv st h r) := (gr_br m114 f114_72 rfl rfl rfl rfl).trans gr_if
theorem f114_75 : gm_ft 114 75 = some (.return_, 1) := by decide +kernel
theorem r114_75 {E : Nat → Value} {d : Nat} {h : gm_H} {r : gm_R × gm_H} {lv : List Value} : gm_Go E d 114 75 lv [] h r ↔ r = (.inl none, h) := gr_ret m114 f114_75 rfl rfl rfl rfl rfl rfl rfl rfl rfl
theorem f114_76 : gm_ft 114 76 = some (.aload_n 0, 1) := by decide +kernel
theorem r114_76 {E : Nat → Value} {d : Nat} {st : List Value} {h : gm_H} {r : gm_R × gm_H} {a1 a2 a3 : Value} {x : Nat} : gm_Go E d 114 76 [.ref x, a1, a2, a3] st h r ↔ gm_Go E d 114 77 [.ref x, a1, a2, a3] (.ref x :: st) h r := gr_loc m114 f114_76 rfl rfl
theorem r114_76n {E : Nat → Value} {d : Nat} {st : List Value} {h : gm_H} {r : gm_R × gm_H} {a1 a2 a3 : Value}  : gm_Go E d 114 76 [.null, a1, a2, a3] st h r ↔ gm_Go E d 114 77 [.null, a1, a2, a3] (.null :: st) h r := gr_loc m114 f114_76 rfl rfl
theorem f114_77 : gm_ft 114 77 = some (.getfield 57, 3) := by decide +kernel
theorem r114_77 {E : Nat → Value} {d : Nat} {st : List Value} {h : gm_H} {r : gm_R × gm_H} {lv : List Value} {a : Nat} {vs : List Value} {v : Value} (hr : gm_rd h a = some (5, vs)) (hv : vs[26]? = some v) : gm_Go E d 114 77 lv (.ref a :: st) h r ↔ gm_Go E d 114 80 lv (v :: st) h r := gr_rd m114 f114_77 rfl rfl rfl rfl (gf_get k5_57 hr hv)
theorem f114_80 : gm_ft 114 80 = some (.aload_n 0, 1) := by decide +kernel
theorem r114_80 {E : Nat → Value} {d : Nat} {st : List Value} {h : gm_H} {r : gm_R × gm_H} {a1 a2 a3 : Value} {x : Nat} : gm_Go E d 114 80 [.ref x, a1, a2, a3] st h r ↔ gm_Go E d 114 81 [.ref x, a1, a2, a3] (.ref x :: st) h r := gr_loc m114 f114_80 rfl rfl
theorem r114_80n {E : Nat → Value} {d : Nat} {st : List Value} {h : gm_H} {r : gm_R × gm_H} {a1 a2 a3 : Value}  : gm_Go E d 114 80 [.null, a1, a2, a3] st h r ↔ gm_Go E d 114 81 [.null, a1, a2, a3] (.null :: st) h r := gr_loc m114 f114_80 rfl rfl
theorem f114_81 : gm_ft 114 81 = some (.getfield 105, 3) := by decide +kernel
theorem r114_81 {E : Nat → Value} {d : Nat} {st : List Value} {h : gm_H} {r : gm_R × gm_H} {lv : List Value} {a : Nat} {vs : List Value} {v : Value} (hr : gm_rd h a = some (5, vs)) (hv : vs[44]? = some v) : gm_Go E d 114 81 lv (.ref a :: st) h r ↔ gm_Go E d 114 84 lv (v :: st) h r := gr_rd m114 f114_81 rfl rfl rfl rfl (gf_get k5_105 hr hv)
theorem f114_84 : gm_ft 114 84 = some (.iload_n 1, 1) := by decide +kernel
theorem r114_84 {E : Nat → Value} {d : Nat} {st : List Value} {h : gm_H} {r : gm_R × gm_H} {a0 a2 a3 : Value} {x : Int32} : gm_Go E d 114 84 [a0, .int x, a2, a3] st h r ↔ gm_Go E d 114 85 [a0, .int x, a2, a3] (.int x :: st) h r := gr_loc m114 f114_84 rfl rfl
theorem f114_85 : gm_ft 114 85 = some (.iaload, 1) := by decide +kernel
theorem r114_85 {E : Nat → Value} {d : Nat} {st : List Value} {h : gm_H} {r : gm_R × gm_H} {lv : List Value} {a k j : Nat} {vs : List Value} {v : Value} (hr : gm_rd h a = some (k, vs)) (hk : 100 ≤ k ∧ (fun t => t == 0) (k % 100) = true) (hj : j < 2 ^ 31) (hv : vs[j]? = some v) : gm_Go E d 114 85 lv (.int (nI j) :: .ref a :: st) h r ↔ gm_Go E d 114 86 lv (v :: st) h r := gr_rd m114 f114_85 rfl rfl rfl rfl (ga_ld (P := fun t => t == 0) hr hk hj hv)
theorem f114_86 : gm_ft 114 86 = some (.iconst 2, 1) := by decide +kernel
theorem r114_86 {E : Nat → Value} {d : Nat} {st : List Value} {h : gm_H} {r : gm_R × gm_H} {lv : List Value} : gm_Go E d 114 86 lv st h r ↔ gm_Go E d 114 87 lv (.int (2 : Int32) :: st) h r := gr_pure m114 f114_86 rfl
theorem f114_87 : gm_ft 114 87 = some (.iastore, 1) := by decide +kernel
theorem r114_87 {E : Nat → Value} {d : Nat} {st : List Value} {h : gm_H} {r : gm_R × gm_H} {lv : List Value} {a k j : Nat} {vs : List Value} {x : Int32} (hr : gm_rd h a = some (k, vs)) (hk : 100 ≤ k ∧ k % 100 = 0 ∧ gm_ko k = 2 ∧ 2 < 3) (hj : j < 2 ^ 31) (hl : j < vs.length) : gm_Go E d 114 87 lv (.int x :: .int (nI j) :: .ref a :: st) h r ↔ gm_Go E d 114 88 lv st (gm_wr h a (k, vs.set j (.int x))) r := gr_wr m114 f114_87 rfl rfl rfl rfl rfl (ga_st hr hk hj hl)
theorem f114_88 : gm_ft 114 88 = some (.aload_n 0, 1) := by decide +kernel
theorem r114_88 {E : Nat → Value} {d : Nat} {st : List Value} {h : gm_H} {r : gm_R × gm_H} {a1 a2 a3 : Value} {x : Nat} : gm_Go E d 114 88 [.ref x, a1, a2, a3] st h r ↔ gm_Go E d 114 89 [.ref x, a1, a2, a3] (.ref x :: st) h r := gr_loc m114 f114_88 rfl rfl
theorem r114_88n {E : Nat → Value} {d : Nat} {st : List Value} {h : gm_H} {r : gm_R × gm_H} {a1 a2 a3 : Value}  : gm_Go E d 114 88 [.null, a1, a2, a3] st h r ↔ gm_Go E d 114 89 [.null, a1, a2, a3] (.null :: st) h r := gr_loc m114 f114_88 rfl rfl
theorem f114_89 : gm_ft 114 89 = some (.iload_n 2, 1) := by decide +kernel
theorem r114_89 {E : Nat → Value} {d : Nat} {st : List Value} {h : gm_H} {r : gm_R × gm_H} {a0 a1 a3 : Value} {x : Int32} : gm_Go E d 114 89 [a0, a1, .int x, a3] st h r ↔ gm_Go E d 114 90 [a0, a1, .int x, a3] (.int x :: st) h r := gr_loc m114 f114_89 rfl rfl
theorem f114_90 : gm_ft 114 90 = some (.invokevirtual 182, 3) := by decide +kernel
theorem n114_90 {st : List Value} {h : gm_H} {E : Nat → Value} {lv : List Value} {b0 : Value} {a : Nat} (hs : (st.map fun v => v.category).sum ≤ 8) (he : (gm_en1 [.ref a, b0]).length ≤ 2) {vs : List Value} (hr : gm_rd h a = some (5, vs)) : gm_next E 114 90 lv (b0 :: .ref a :: st) h = some (.inr (.inl (0, 105, [.ref a, b0], st))) := gn_call m114 f114_90 rfl rfl rfl rfl rfl rfl rfl (gc_virt (bs := [b0]) (w := 872) rfl rfl rfl rfl hs he hr) (by decide)
theorem f114_93 : gm_ft 114 93 = some (.return_, 1) := by decide +kernel
theorem r114_93 {E : Nat → Value} {d : Nat} {h : gm_H} {r : gm_R × gm_H} {lv : List Value} : gm_Go E d 114 93 lv [] h r ↔ r = (.inl none, h) := gr_ret m114 f114_93 rfl rfl rfl rfl rfl rfl rfl rfl rfl
/-! GraphReaderModel.newArray(I)V -/
theorem m115 : gm_mt[115]? = some (⟨"GraphReaderModel", "newArray", "(I)V"⟩, prog_7_method_25_code, 8, none, [], 5, 2) := rfl
theorem f115_0 : gm_ft 115 0 = some (.aload_n 0, 1) := by decide +kernel
theorem r115_0 {E : Nat → Value} {d : Nat} {st : List Value} {h : gm_H} {r : gm_R × gm_H} {a1 a2 a3 a4 a5 a6 a7 : Value} {x : Nat} : gm_Go E d 115 0 [.ref x, a1, a2, a3, a4, a5, a6, a7] st h r ↔ gm_Go E d 115 1 [.ref x, a1, a2, a3, a4, a5, a6, a7] (.ref x :: st) h r := gr_loc m115 f115_0 rfl rfl
theorem r115_0n {E : Nat → Value} {d : Nat} {st : List Value} {h : gm_H} {r : gm_R × gm_H} {a1 a2 a3 a4 a5 a6 a7 : Value}  : gm_Go E d 115 0 [.null, a1, a2, a3, a4, a5, a6, a7] st h r ↔ gm_Go E d 115 1 [.null, a1, a2, a3, a4, a5, a6, a7] (.null :: st) h r := gr_loc m115 f115_0 rfl rfl
theorem f115_1 : gm_ft 115 1 = some (.getfield 178, 3) := by decide +kernel
theorem r115_1 {E : Nat → Value} {d : Nat} {st : List Value} {h : gm_H} {r : gm_R × gm_H} {lv : List Value} {a : Nat} {vs : List Value} {v : Value} (hr : gm_rd h a = some (5, vs)) (hv : vs[9]? = some v) : gm_Go E d 115 1 lv (.ref a :: st) h r ↔ gm_Go E d 115 4 lv (v :: st) h r := gr_rd m115 f115_1 rfl rfl rfl rfl (gf_get k5_178 hr hv)
theorem f115_4 : gm_ft 115 4 = some (.istore_n 2, 1) := by decide +kernel
theorem r115_4 {E : Nat → Value} {d : Nat} {st : List Value} {h : gm_H} {r : gm_R × gm_H} {a0 a1 a2 a3 a4 a5 a6 a7 : Value} {x : Int32} : gm_Go E d 115 4 [a0, a1, a2, a3, a4, a5, a6, a7] (.int x :: st) h r ↔ gm_Go E d 115 5 [a0, gm_k a1, .int x, a3, a4, a5, a6, a7] st h r := gr_loc m115 f115_4 rfl rfl
theorem f115_5 : gm_ft 115 5 = some (.iload_n 2, 1) := by decide +kernel
theorem r115_5 {E : Nat → Value} {d : Nat} {st : List Value} {h : gm_H} {r : gm_R × gm_H} {a0 a1 a3 a4 a5 a6 a7 : Value} {x : Int32} : gm_Go E d 115 5 [a0, a1, .int x, a3, a4, a5, a6, a7] st h r ↔ gm_Go E d 115 6 [a0, a1, .int x, a3, a4, a5, a6, a7] (.int x :: st) h r := gr_loc m115 f115_5 rfl rfl
theorem f115_6 : gm_ft 115 6 = some (.bipush (-2), 2) := by decide +kernel
theorem r115_6 {E : Nat → Value} {d : Nat} {st : List Value} {h : gm_H} {r : gm_R × gm_H} {lv : List Value} : gm_Go E d 115 6 lv st h r ↔ gm_Go E d 115 8 lv (.int (-2 : Int32) :: st) h r := gr_pure m115 f115_6 rfl
theorem f115_8 : gm_ft 115 8 = some (.if_icmp .ne 12, 3) := by decide +kernel
theorem r115_8 {E : Nat → Value} {d : Nat} {st : List Value} {h : gm_H} {r : gm_R × gm_H} {lv : List Value} {x y : Int32} : gm_Go E d 115 8 lv (.int y :: .int x :: st) h r ↔ (if x = y then gm_Go E d 115 11 lv st h r else gm_Go E d 115 20 lv st h r) := (gr_br m115 f115_8 rfl rfl rfl rfl).trans gr_ifn
theorem f115_11 : gm_ft 115 11 = some (.aload_n 0, 1) := by decide +kernel
theorem r115_11 {E : Nat → Value} {d : Nat} {st : List Value} {h : gm_H} {r : gm_R × gm_H} {a1 a2 a3 a4 a5 a6 a7 : Value} {x : Nat} : gm_Go E d 115 11 [.ref x, a1, a2, a3, a4, a5, a6, a7] st h r ↔ gm_Go E d 115 12 [.ref x, a1, a2, a3, a4, a5, a6, a7] (.ref x :: st) h r := gr_loc m115 f115_11 rfl rfl
theorem r115_11n {E : Nat → Value} {d : Nat} {st : List Value} {h : gm_H} {r : gm_R × gm_H} {a1 a2 a3 a4 a5 a6 a7 : Value}  : gm_Go E d 115 11 [.null, a1, a2, a3, a4, a5, a6, a7] st h r ↔ gm_Go E d 115 12 [.null, a1, a2, a3, a4, a5, a6, a7] (.null :: st) h r := gr_loc m115 f115_11 rfl rfl
theorem f115_12 : gm_ft 115 12 = some (.bipush (-4), 2) := by decide +kernel
theorem r115_12 {E : Nat → Value} {d : Nat} {st : List Value} {h : gm_H} {r : gm_R × gm_H} {lv : List Value} : gm_Go E d 115 12 lv st h r ↔ gm_Go E d 115 14 lv (.int (-4 : Int32) :: st) h r := gr_pure m115 f115_12 rfl
theorem f115_14 : gm_ft 115 14 = some (.invokevirtual 151, 3) := by decide +kernel
theorem n115_14 {st : List Value} {h : gm_H} {E : Nat → Value} {lv : List Value} {b0 : Value} {a : Nat} (hs : (st.map fun v => v.category).sum ≤ 8) (he : (gm_en1 [.ref a, b0]).length ≤ 2) {vs : List Value} (hr : gm_rd h a = some (5, vs)) : gm_next E 115 14 lv (b0 :: .ref a :: st) h = some (.inr (.inl (0, 98, [.ref a, b0], st))) := gn_call m115 f115_14 rfl rfl rfl rfl rfl rfl rfl (gc_virt (bs := [b0]) (w := 844) rfl rfl rfl rfl hs he hr) (by decide)
theorem f115_17 : gm_ft 115 17 = some (.goto 18, 3) := by decide +kernel
theorem r115_17 {E : Nat → Value} {d : Nat} {st : List Value} {h : gm_H} {r : gm_R × gm_H} {lv : List Value} : gm_Go E d 115 17 lv st h r ↔ gm_Go E d 115 35 lv st h r := gr_brT m115 f115_17 rfl rfl rfl rfl
theorem f115_20 : gm_ft 115 20 = some (.aload_n 0, 1) := by decide +kernel
theorem r115_20 {E : Nat → Value} {d : Nat} {st : List Value} {h : gm_H} {r : gm_R × gm_H} {a1 a2 a3 a4 a5 a6 a7 : Value} {x : Nat} : gm_Go E d 115 20 [.ref x, a1, a2, a3, a4, a5, a6, a7] st h r ↔ gm_Go E d 115 21 [.ref x, a1, a2, a3, a4, a5, a6, a7] (.ref x :: st) h r := gr_loc m115 f115_20 rfl rfl
theorem r115_20n {E : Nat → Value} {d : Nat} {st : List Value} {h : gm_H} {r : gm_R × gm_H} {a1 a2 a3 a4 a5 a6 a7 : Value}  : gm_Go E d 115 20 [.null, a1, a2, a3, a4, a5, a6, a7] st h r ↔ gm_Go E d 115 21 [.null, a1, a2, a3, a4, a5, a6, a7] (.null :: st) h r := gr_loc m115 f115_20 rfl rfl
theorem f115_21 : gm_ft 115 21 = some (.getfield 72, 3) := by decide +kernel
theorem r115_21 {E : Nat → Value} {d : Nat} {st : List Value} {h : gm_H} {r : gm_R × gm_H} {lv : List Value} {a : Nat} {vs : List Value} {v : Value} (hr : gm_rd h a = some (5, vs)) (hv : vs[32]? = some v) : gm_Go E d 115 21 lv (.ref a :: st) h r ↔ gm_Go E d 115 24 lv (v :: st) h r := gr_rd m115 f115_21 rfl rfl rfl rfl (gf_get k5_72 hr hv)
theorem f115_24 : gm_ft 115 24 = some (.iload_n 2, 1) := by decide +kernel
theorem r115_24 {E : Nat → Value} {d : Nat} {st : List Value} {h : gm_H} {r : gm_R × gm_H} {a0 a1 a3 a4 a5 a6 a7 : Value} {x : Int32} : gm_Go E d 115 24 [a0, a1, .int x, a3, a4, a5, a6, a7] st h r ↔ gm_Go E d 115 25 [a0, a1, .int x, a3, a4, a5, a6, a7] (.int x :: st) h r := gr_loc m115 f115_24 rfl rfl
theorem f115_25 : gm_ft 115 25 = some (.iaload, 1) := by decide +kernel
theorem r115_25 {E : Nat → Value} {d : Nat} {st : List Value} {h : gm_H} {r : gm_R × gm_H} {lv : List Value} {a k j : Nat} {vs : List Value} {v : Value} (hr : gm_rd h a = some (k, vs)) (hk : 100 ≤ k ∧ (fun t => t == 0) (k % 100) = true) (hj : j < 2 ^ 31) (hv : vs[j]? = some v) : gm_Go E d 115 25 lv (.int (nI j) :: .ref a :: st) h r ↔ gm_Go E d 115 26 lv (v :: st) h r := gr_rd m115 f115_25 rfl rfl rfl rfl (ga_ld (P := fun t => t == 0) hr hk hj hv)
theorem f115_26 : gm_ft 115 26 = some (.ifCond .ne 9, 3) := by decide +kernel
theorem r115_26 {E : Nat → Value} {d : Nat} {st : List Value} {h : gm_H} {r : gm_R × gm_H} {lv : List Value} {x : Int32} : gm_Go E d 115 26 lv (.int x :: st) h r ↔ (if x = 0 then gm_Go E d 115 29 lv st h r else gm_Go E d 115 35 lv st h r) := (gr_br m115 f115_26 rfl rfl rfl rfl).trans gr_ifn
theorem f115_29 : gm_ft 115 29 = some (.aload_n 0, 1) := by decide +kernel
theorem r115_29 {E : Nat → Value} {d : Nat} {st : List Value} {h : gm_H} {r : gm_R × gm_H} {a1 a2 a3 a4 a5 a6 a7 : Value} {x : Nat} : gm_Go E d 115 29 [.ref x, a1, a2, a3, a4, a5, a6, a7] st h r ↔ gm_Go E d 115 30 [.ref x, a1, a2, a3, a4, a5, a6, a7] (.ref x :: st) h r := gr_loc m115 f115_29 rfl rfl
theorem r115_29n {E : Nat → Value} {d : Nat} {st : List Value} {h : gm_H} {r : gm_R × gm_H} {a1 a2 a3 a4 a5 a6 a7 : Value}  : gm_Go E d 115 29 [.null, a1, a2, a3, a4, a5, a6, a7] st h r ↔ gm_Go E d 115 30 [.null, a1, a2, a3, a4, a5, a6, a7] (.null :: st) h r := gr_loc m115 f115_29 rfl rfl
theorem f115_30 : gm_ft 115 30 = some (.bipush (-5), 2) := by decide +kernel
theorem r115_30 {E : Nat → Value} {d : Nat} {st : List Value} {h : gm_H} {r : gm_R × gm_H} {lv : List Value} : gm_Go E d 115 30 lv st h r ↔ gm_Go E d 115 32 lv (.int (-5 : Int32) :: st) h r := gr_pure m115 f115_30 rfl
theorem f115_32 : gm_ft 115 32 = some (.invokevirtual 151, 3) := by decide +kernel
theorem n115_32 {st : List Value} {h : gm_H} {E : Nat → Value} {lv : List Value} {b0 : Value} {a : Nat} (hs : (st.map fun v => v.category).sum ≤ 8) (he : (gm_en1 [.ref a, b0]).length ≤ 2) {vs : List Value} (hr : gm_rd h a = some (5, vs)) : gm_next E 115 32 lv (b0 :: .ref a :: st) h = some (.inr (.inl (0, 98, [.ref a, b0], st))) := gn_call m115 f115_32 rfl rfl rfl rfl rfl rfl rfl (gc_virt (bs := [b0]) (w := 844) rfl rfl rfl rfl hs he hr) (by decide)
theorem f115_35 : gm_ft 115 35 = some (.aload_n 0, 1) := by decide +kernel
theorem r115_35 {E : Nat → Value} {d : Nat} {st : List Value} {h : gm_H} {r : gm_R × gm_H} {a1 a2 a3 a4 a5 a6 a7 : Value} {x : Nat} : gm_Go E d 115 35 [.ref x, a1, a2, a3, a4, a5, a6, a7] st h r ↔ gm_Go E d 115 36 [.ref x, a1, a2, a3, a4, a5, a6, a7] (.ref x :: st) h r := gr_loc m115 f115_35 rfl rfl
theorem r115_35n {E : Nat → Value} {d : Nat} {st : List Value} {h : gm_H} {r : gm_R × gm_H} {a1 a2 a3 a4 a5 a6 a7 : Value}  : gm_Go E d 115 35 [.null, a1, a2, a3, a4, a5, a6, a7] st h r ↔ gm_Go E d 115 36 [.null, a1, a2, a3, a4, a5, a6, a7] (.null :: st) h r := gr_loc m115 f115_35 rfl rfl
theorem f115_36 : gm_ft 115 36 = some (.iconst 4, 1) := by decide +kernel
theorem r115_36 {E : Nat → Value} {d : Nat} {st : List Value} {h : gm_H} {r : gm_R × gm_H} {lv : List Value} : gm_Go E d 115 36 lv st h r ↔ gm_Go E d 115 37 lv (.int (4 : Int32) :: st) h r := gr_pure m115 f115_36 rfl
theorem f115_37 : gm_ft 115 37 = some (.invokevirtual 159, 3) := by decide +kernel
theorem n115_37 {st : List Value} {h : gm_H} {E : Nat → Value} {lv : List Value} {b0 : Value} {a : Nat} (hs : (st.map fun v => v.category).sum ≤ 8) (he : (gm_en1 [.ref a, b0]).length ≤ 5) {vs : List Value} (hr : gm_rd h a = some (5, vs)) : gm_next E 115 37 lv (b0 :: .ref a :: st) h = some (.inr (.inl (0, 107, [.ref a, b0], st))) := gn_call m115 f115_37 rfl rfl rfl rfl rfl rfl rfl (gc_virt (bs := [b0]) (w := 880) rfl rfl rfl rfl hs he hr) (by decide)
theorem f115_40 : gm_ft 115 40 = some (.l2i, 1) := by decide +kernel
theorem r115_40 {E : Nat → Value} {d : Nat} {st : List Value} {h : gm_H} {r : gm_R × gm_H} {lv : List Value} {x : Int64} : gm_Go E d 115 40 lv (.long x :: st) h r ↔ gm_Go E d 115 41 lv (.int (x.toInt32) :: st) h r := gr_pure m115 f115_40 rfl
theorem f115_41 : gm_ft 115 41 = some (.istore_n 3, 1) := by decide +kernel
theorem r115_41 {E : Nat → Value} {d : Nat} {st : List Value} {h : gm_H} {r : gm_R × gm_H} {a0 a1 a2 a3 a4 a5 a6 a7 : Value} {x : Int32} : gm_Go E d 115 41 [a0, a1, a2, a3, a4, a5, a6, a7] (.int x :: st) h r ↔ gm_Go E d 115 42 [a0, a1, gm_k a2, .int x, a4, a5, a6, a7] st h r := gr_loc m115 f115_41 rfl rfl
theorem f115_42 : gm_ft 115 42 = some (.aload_n 0, 1) := by decide +kernel
theorem r115_42 {E : Nat → Value} {d : Nat} {st : List Value} {h : gm_H} {r : gm_R × gm_H} {a1 a2 a3 a4 a5 a6 a7 : Value} {x : Nat} : gm_Go E d 115 42 [.ref x, a1, a2, a3, a4, a5, a6, a7] st h r ↔ gm_Go E d 115 43 [.ref x, a1, a2, a3, a4, a5, a6, a7] (.ref x :: st) h r := gr_loc m115 f115_42 rfl rfl
theorem r115_42n {E : Nat → Value} {d : Nat} {st : List Value} {h : gm_H} {r : gm_R × gm_H} {a1 a2 a3 a4 a5 a6 a7 : Value}  : gm_Go E d 115 42 [.null, a1, a2, a3, a4, a5, a6, a7] st h r ↔ gm_Go E d 115 43 [.null, a1, a2, a3, a4, a5, a6, a7] (.null :: st) h r := gr_loc m115 f115_42 rfl rfl
theorem f115_43 : gm_ft 115 43 = some (.getfield 145, 3) := by decide +kernel
theorem r115_43 {E : Nat → Value} {d : Nat} {st : List Value} {h : gm_H} {r : gm_R × gm_H} {lv : List Value} {a : Nat} {vs : List Value} {v : Value} (hr : gm_rd h a = some (5, vs)) (hv : vs[8]? = some v) : gm_Go E d 115 43 lv (.ref a :: st) h r ↔ gm_Go E d 115 46 lv (v :: st) h r := gr_rd m115 f115_43 rfl rfl rfl rfl (gf_get k5_145 hr hv)
theorem f115_46 : gm_ft 115 46 = some (.ifCond .ne 13, 3) := by decide +kernel
theorem r115_46 {E : Nat → Value} {d : Nat} {st : List Value} {h : gm_H} {r : gm_R × gm_H} {lv : List Value} {x : Int32} : gm_Go E d 115 46 lv (.int x :: st) h r ↔ (if x = 0 then gm_Go E d 115 49 lv st h r else gm_Go E d 115 59 lv st h r) := (gr_br m115 f115_46 rfl rfl rfl rfl).trans gr_ifn
theorem f115_49 : gm_ft 115 49 = some (.iload_n 3, 1) := by decide +kernel
theorem r115_49 {E : Nat → Value} {d : Nat} {st : List Value} {h : gm_H} {r : gm_R × gm_H} {a0 a1 a2 a4 a5 a6 a7 : Value} {x : Int32} : gm_Go E d 115 49 [a0, a1, a2, .int x, a4, a5, a6, a7] st h r ↔ gm_Go E d 115 50 [a0, a1, a2, .int x, a4, a5, a6, a7] (.int x :: st) h r := gr_loc m115 f115_49 rfl rfl
theorem f115_50 : gm_ft 115 50 = some (.ifCond .ge 9, 3) := by decide +kernel
theorem r115_50 {E : Nat → Value} {d : Nat} {st : List Value} {h : gm_H} {r : gm_R × gm_H} {lv : List Value} {x : Int32} : gm_Go E d 115 50 lv (.int x :: st) h r ↔ (if 0 ≤ x then gm_Go E d 115 59 lv st h r else gm_Go E d 115 53 lv st h r) := (gr_br m115 f115_50 rfl rfl rfl rfl).trans gr_if
theorem f115_53 : gm_ft 115 53 = some (.aload_n 0, 1) := by decide +kernel
theorem r115_53 {E : Nat → Value} {d : Nat} {st : List Value} {h : gm_H} {r : gm_R × gm_H} {a1 a2 a3 a4 a5 a6 a7 : Value} {x : Nat} : gm_Go E d 115 53 [.ref x, a1, a2, a3, a4, a5, a6, a7] st h r ↔ gm_Go E d 115 54 [.ref x, a1, a2, a3, a4, a5, a6, a7] (.ref x :: st) h r := gr_loc m115 f115_53 rfl rfl
theorem r115_53n {E : Nat → Value} {d : Nat} {st : List Value} {h : gm_H} {r : gm_R × gm_H} {a1 a2 a3 a4 a5 a6 a7 : Value}  : gm_Go E d 115 53 [.null, a1, a2, a3, a4, a5, a6, a7] st h r ↔ gm_Go E d 115 54 [.null, a1, a2, a3, a4, a5, a6, a7] (.null :: st) h r := gr_loc m115 f115_53 rfl rfl
theorem f115_54 : gm_ft 115 54 = some (.bipush (-6), 2) := by decide +kernel
theorem r115_54 {E : Nat → Value} {d : Nat} {st : List Value} {h : gm_H} {r : gm_R × gm_H} {lv : List Value} : gm_Go E d 115 54 lv st h r ↔ gm_Go E d 115 56 lv (.int (-6 : Int32) :: st) h r := gr_pure m115 f115_54 rfl
theorem f115_56 : gm_ft 115 56 = some (.invokevirtual 151, 3) := by decide +kernel
theorem n115_56 {st : List Value} {h : gm_H} {E : Nat → Value} {lv : List Value} {b0 : Value} {a : Nat} (hs : (st.map fun v => v.category).sum ≤ 8) (he : (gm_en1 [.ref a, b0]).length ≤ 2) {vs : List Value} (hr : gm_rd h a = some (5, vs)) : gm_next E 115 56 lv (b0 :: .ref a :: st) h = some (.inr (.inl (0, 98, [.ref a, b0], st))) := gn_call m115 f115_56 rfl rfl rfl rfl rfl rfl rfl (gc_virt (bs := [b0]) (w := 844) rfl rfl rfl rfl hs he hr) (by decide)
theorem f115_59 : gm_ft 115 59 = some (.aload_n 0, 1) := by decide +kernel
theorem r115_59 {E : Nat → Value} {d : Nat} {st : List Value} {h : gm_H} {r : gm_R × gm_H} {a1 a2 a3 a4 a5 a6 a7 : Value} {x : Nat} : gm_Go E d 115 59 [.ref x, a1, a2, a3, a4, a5, a6, a7] st h r ↔ gm_Go E d 115 60 [.ref x, a1, a2, a3, a4, a5, a6, a7] (.ref x :: st) h r := gr_loc m115 f115_59 rfl rfl
theorem r115_59n {E : Nat → Value} {d : Nat} {st : List Value} {h : gm_H} {r : gm_R × gm_H} {a1 a2 a3 a4 a5 a6 a7 : Value}  : gm_Go E d 115 59 [.null, a1, a2, a3, a4, a5, a6, a7] st h r ↔ gm_Go E d 115 60 [.null, a1, a2, a3, a4, a5, a6, a7] (.null :: st) h r := gr_loc m115 f115_59 rfl rfl
theorem f115_60 : gm_ft 115 60 = some (.getfield 145, 3) := by decide +kernel
theorem r115_60 {E : Nat → Value} {d : Nat} {st : List Value} {h : gm_H} {r : gm_R × gm_H} {lv : List Value} {a : Nat} {vs : List Value} {v : Value} (hr : gm_rd h a = some (5, vs)) (hv : vs[8]? = some v) : gm_Go E d 115 60 lv (.ref a :: st) h r ↔ gm_Go E d 115 63 lv (v :: st) h r := gr_rd m115 f115_60 rfl rfl rfl rfl (gf_get k5_145 hr hv)
theorem f115_63 : gm_ft 115 63 = some (.ifCond .ne 18, 3) := by decide +kernel
theorem r115_63 {E : Nat → Value} {d : Nat} {st : List Value} {h : gm_H} {r : gm_R × gm_H} {lv : List Value} {x : Int32} : gm_Go E d 115 63 lv (.int x :: st) h r ↔ (if x = 0 then gm_Go E d 115 66 lv st h r else gm_Go E d 115 81 lv st h r) := (gr_br m115 f115_63 rfl rfl rfl rfl).trans gr_ifn
theorem f115_66 : gm_ft 115 66 = some (.aload_n 0, 1) := by decide +kernel
theorem r115_66 {E : Nat → Value} {d : Nat} {st : List Value} {h : gm_H} {r : gm_R × gm_H} {a1 a2 a3 a4 a5 a6 a7 : Value} {x : Nat} : gm_Go E d 115 66 [.ref x, a1, a2, a3, a4, a5, a6, a7] st h r ↔ gm_Go E d 115 67 [.ref x, a1, a2, a3, a4, a5, a6, a7] (.ref x :: st) h r := gr_loc m115 f115_66 rfl rfl
theorem r115_66n {E : Nat → Value} {d : Nat} {st : List Value} {h : gm_H} {r : gm_R × gm_H} {a1 a2 a3 a4 a5 a6 a7 : Value}  : gm_Go E d 115 66 [.null, a1, a2, a3, a4, a5, a6, a7] st h r ↔ gm_Go E d 115 67 [.null, a1, a2, a3, a4, a5, a6, a7] (.null :: st) h r := gr_loc m115 f115_66 rfl rfl
theorem f115_67 : gm_ft 115 67 = some (.aload_n 0, 1) := by decide +kernel
theorem r115_67 {E : Nat → Value} {d : Nat} {st : List Value} {h : gm_H} {r : gm_R × gm_H} {a1 a2 a3 a4 a5 a6 a7 : Value} {x : Nat} : gm_Go E d 115 67 [.ref x, a1, a2, a3, a4, a5, a6, a7] st h r ↔ gm_Go E d 115 68 [.ref x, a1, a2, a3, a4, a5, a6, a7] (.ref x :: st) h r := gr_loc m115 f115_67 rfl rfl
theorem r115_67n {E : Nat → Value} {d : Nat} {st : List Value} {h : gm_H} {r : gm_R × gm_H} {a1 a2 a3 a4 a5 a6 a7 : Value}  : gm_Go E d 115 67 [.null, a1, a2, a3, a4, a5, a6, a7] st h r ↔ gm_Go E d 115 68 [.null, a1, a2, a3, a4, a5, a6, a7] (.null :: st) h r := gr_loc m115 f115_67 rfl rfl
theorem f115_68 : gm_ft 115 68 = some (.getfield 99, 3) := by decide +kernel
theorem r115_68 {E : Nat → Value} {d : Nat} {st : List Value} {h : gm_H} {r : gm_R × gm_H} {lv : List Value} {a : Nat} {vs : List Value} {v : Value} (hr : gm_rd h a = some (5, vs)) (hv : vs[42]? = some v) : gm_Go E d 115 68 lv (.ref a :: st) h r ↔ gm_Go E d 115 71 lv (v :: st) h r := gr_rd m115 f115_68 rfl rfl rfl rfl (gf_get k5_99 hr hv)
theorem f115_71 : gm_ft 115 71 = some (.iload_n 1, 1) := by decide +kernel
theorem r115_71 {E : Nat → Value} {d : Nat} {st : List Value} {h : gm_H} {r : gm_R × gm_H} {a0 a2 a3 a4 a5 a6 a7 : Value} {x : Int32} : gm_Go E d 115 71 [a0, .int x, a2, a3, a4, a5, a6, a7] st h r ↔ gm_Go E d 115 72 [a0, .int x, a2, a3, a4, a5, a6, a7] (.int x :: st) h r := gr_loc m115 f115_71 rfl rfl
theorem f115_72 : gm_ft 115 72 = some (.iaload, 1) := by decide +kernel
theorem r115_72 {E : Nat → Value} {d : Nat} {st : List Value} {h : gm_H} {r : gm_R × gm_H} {lv : List Value} {a k j : Nat} {vs : List Value} {v : Value} (hr : gm_rd h a = some (k, vs)) (hk : 100 ≤ k ∧ (fun t => t == 0) (k % 100) = true) (hj : j < 2 ^ 31) (hv : vs[j]? = some v) : gm_Go E d 115 72 lv (.int (nI j) :: .ref a :: st) h r ↔ gm_Go E d 115 73 lv (v :: st) h r := gr_rd m115 f115_72 rfl rfl rfl rfl (ga_ld (P := fun t => t == 0) hr hk hj hv)
theorem f115_73 : gm_ft 115 73 = some (.iload_n 3, 1) := by decide +kernel
theorem r115_73 {E : Nat → Value} {d : Nat} {st : List Value} {h : gm_H} {r : gm_R × gm_H} {a0 a1 a2 a4 a5 a6 a7 : Value} {x : Int32} : gm_Go E d 115 73 [a0, a1, a2, .int x, a4, a5, a6, a7] st h r ↔ gm_Go E d 115 74 [a0, a1, a2, .int x, a4, a5, a6, a7] (.int x :: st) h r := gr_loc m115 f115_73 rfl rfl
theorem f115_74 : gm_ft 115 74 = some (.iload_n 2, 1) := by decide +kernel
theorem r115_74 {E : Nat → Value} {d : Nat} {st : List Value} {h : gm_H} {r : gm_R × gm_H} {a0 a1 a3 a4 a5 a6 a7 : Value} {x : Int32} : gm_Go E d 115 74 [a0, a1, .int x, a3, a4, a5, a6, a7] st h r ↔ gm_Go E d 115 75 [a0, a1, .int x, a3, a4, a5, a6, a7] (.int x :: st) h r := gr_loc m115 f115_74 rfl rfl
theorem f115_75 : gm_ft 115 75 = some (.invokevirtual 204, 3) := by decide +kernel
theorem n115_75 {st : List Value} {h : gm_H} {E : Nat → Value} {lv : List Value} {b0 b1 b2 : Value} {a : Nat} (hs : (st.map fun v => v.category).sum ≤ 8) (he : (gm_en1 [.ref a, b0, b1, b2]).length ≤ 5) {vs : List Value} (hr : gm_rd h a = some (5, vs)) : gm_next E 115 75 lv (b2 :: b1 :: b0 :: .ref a :: st) h = some (.inr (.inl (0, 112, [.ref a, b0, b1, b2], st))) := gn_call m115 f115_75 rfl rfl rfl rfl rfl rfl rfl (gc_virt (bs := [b2, b1, b0]) (w := 901) rfl rfl rfl rfl hs he hr) (by decide)
theorem f115_78 : gm_ft 115 78 = some (.ifCond .ne 4, 3) := by decide +kernel
theorem r115_78 {E : Nat → Value} {d : Nat} {st : List Value} {h : gm_H} {r : gm_R × gm_H} {lv : List Value} {x : Int32} : gm_Go E d 115 78 lv (.int x :: st) h r ↔ (if x = 0 then gm_Go E d 115 81 lv st h r else gm_Go E d 115 82 lv st h r) := (gr_br m115 f115_78 rfl rfl rfl rfl).trans gr_ifn
theorem f115_81 : gm_ft 115 81 = some (.return_, 1) := by decide +kernel
theorem r115_81 {E : Nat → Value} {d : Nat} {h : gm_H} {r : gm_R × gm_H} {lv : List Value} : gm_Go E d 115 81 lv [] h r ↔ r = (.inl none, h) := gr_ret m115 f115_81 rfl rfl rfl rfl rfl rfl rfl rfl rfl
theorem f115_82 : gm_ft 115 82 = some (.aload_n 0, 1) := by decide +kernel
theorem r115_82 {E : Nat → Value} {d : Nat} {st : List Value} {h : gm_H} {r : gm_R × gm_H} {a1 a2 a3 a4 a5 a6 a7 : Value} {x : Nat} : gm_Go E d 115 82 [.ref x, a1, a2, a3, a4, a5, a6, a7] st h r ↔ gm_Go E d 115 83 [.ref x, a1, a2, a3, a4, a5, a6, a7] (.ref x :: st) h r := gr_loc m115 f115_82 rfl rfl
theorem r115_82n {E : Nat → Value} {d : Nat} {st : List Value} {h : gm_H} {r : gm_R × gm_H} {a1 a2 a3 a4 a5 a6 a7 : Value}  : gm_Go E d 115 82 [.null, a1, a2, a3, a4, a5, a6, a7] st h r ↔ gm_Go E d 115 83 [.null, a1, a2, a3, a4, a5, a6, a7] (.null :: st) h r := gr_loc m115 f115_82 rfl rfl
theorem f115_83 : gm_ft 115 83 = some (.getfield 72, 3) := by decide +kernel
theorem r115_83 {E : Nat → Value} {d : Nat} {st : List Value} {h : gm_H} {r : gm_R × gm_H} {lv : List Value} {a : Nat} {vs : List Value} {v : Value} (hr : gm_rd h a = some (5, vs)) (hv : vs[32]? = some v) : gm_Go E d 115 83 lv (.ref a :: st) h r ↔ gm_Go E d 115 86 lv (v :: st) h r := gr_rd m115 f115_83 rfl rfl rfl rfl (gf_get k5_72 hr hv)
theorem f115_86 : gm_ft 115 86 = some (.iload_n 2, 1) := by decide +kernel
theorem r115_86 {E : Nat → Value} {d : Nat} {st : List Value} {h : gm_H} {r : gm_R × gm_H} {a0 a1 a3 a4 a5 a6 a7 : Value} {x : Int32} : gm_Go E d 115 86 [a0, a1, .int x, a3, a4, a5, a6, a7] st h r ↔ gm_Go E d 115 87 [a0, a1, .int x, a3, a4, a5, a6, a7] (.int x :: st) h r := gr_loc m115 f115_86 rfl rfl
theorem f115_87 : gm_ft 115 87 = some (.iaload, 1) := by decide +kernel
theorem r115_87 {E : Nat → Value} {d : Nat} {st : List Value} {h : gm_H} {r : gm_R × gm_H} {lv : List Value} {a k j : Nat} {vs : List Value} {v : Value} (hr : gm_rd h a = some (k, vs)) (hk : 100 ≤ k ∧ (fun t => t == 0) (k % 100) = true) (hj : j < 2 ^ 31) (hv : vs[j]? = some v) : gm_Go E d 115 87 lv (.int (nI j) :: .ref a :: st) h r ↔ gm_Go E d 115 88 lv (v :: st) h r := gr_rd m115 f115_87 rfl rfl rfl rfl (ga_ld (P := fun t => t == 0) hr hk hj hv)
theorem f115_88 : gm_ft 115 88 = some (.iconst 1, 1) := by decide +kernel
theorem r115_88 {E : Nat → Value} {d : Nat} {st : List Value} {h : gm_H} {r : gm_R × gm_H} {lv : List Value} : gm_Go E d 115 88 lv st h r ↔ gm_Go E d 115 89 lv (.int (1 : Int32) :: st) h r := gr_pure m115 f115_88 rfl
theorem f115_89 : gm_ft 115 89 = some (.if_icmp .ne 7, 3) := by decide +kernel
theorem r115_89 {E : Nat → Value} {d : Nat} {st : List Value} {h : gm_H} {r : gm_R × gm_H} {lv : List Value} {x y : Int32} : gm_Go E d 115 89 lv (.int y :: .int x :: st) h r ↔ (if x = y then gm_Go E d 115 92 lv st h r else gm_Go E d 115 96 lv st h r) := (gr_br m115 f115_89 rfl rfl rfl rfl).trans gr_ifn
theorem f115_92 : gm_ft 115 92 = some (.iconst 1, 1) := by decide +kernel
theorem r115_92 {E : Nat → Value} {d : Nat} {st : List Value} {h : gm_H} {r : gm_R × gm_H} {lv : List Value} : gm_Go E d 115 92 lv st h r ↔ gm_Go E d 115 93 lv (.int (1 : Int32) :: st) h r := gr_pure m115 f115_92 rfl
theorem f115_93 : gm_ft 115 93 = some (.goto 4, 3) := by decide +kernel
theorem r115_93 {E : Nat → Value} {d : Nat} {st : List Value} {h : gm_H} {r : gm_R × gm_H} {lv : List Value} : gm_Go E d 115 93 lv st h r ↔ gm_Go E d 115 97 lv st h r := gr_brT m115 f115_93 rfl rfl rfl rfl
theorem f115_96 : gm_ft 115 96 = some (.iconst 0, 1) := by decide +kernel
theorem r115_96 {E : Nat → Value} {d : Nat} {st : List Value} {h : gm_H} {r : gm_R × gm_H} {lv : List Value} : gm_Go E d 115 96 lv st h r ↔ gm_Go E d 115 97 lv (.int (0 : Int32) :: st) h r := gr_pure m115 f115_96 rfl
theorem f115_97 : gm_ft 115 97 = some (.istore 4, 2) := by decide +kernel
theorem r115_97 {E : Nat → Value} {d : Nat} {st : List Value} {h : gm_H} {r : gm_R × gm_H} {a0 a1 a2 a3 a4 a5 a6 a7 : Value} {x : Int32} : gm_Go E d 115 97 [a0, a1, a2, a3, a4, a5, a6, a7] (.int x :: st) h r ↔ gm_Go E d 115 99 [a0, a1, a2, gm_k a3, .int x, a5, a6, a7] st h r := gr_loc m115 f115_97 rfl rfl
theorem f115_99 : gm_ft 115 99 = some (.aload_n 0, 1) := by decide +kernel
theorem r115_99 {E : Nat → Value} {d : Nat} {st : List Value} {h : gm_H} {r : gm_R × gm_H} {a1 a2 a3 a4 a5 a6 a7 : Value} {x : Nat} : gm_Go E d 115 99 [.ref x, a1, a2, a3, a4, a5, a6, a7] st h r ↔ gm_Go E d 115 100 [.ref x, a1, a2, a3, a4, a5, a6, a7] (.ref x :: st) h r := gr_loc m115 f115_99 rfl rfl
theorem r115_99n {E : Nat → Value} {d : Nat} {st : List Value} {h : gm_H} {r : gm_R × gm_H} {a1 a2 a3 a4 a5 a6 a7 : Value}  : gm_Go E d 115 99 [.null, a1, a2, a3, a4, a5, a6, a7] st h r ↔ gm_Go E d 115 100 [.null, a1, a2, a3, a4, a5, a6, a7] (.null :: st) h r := gr_loc m115 f115_99 rfl rfl
theorem f115_100 : gm_ft 115 100 = some (.iload 4, 2) := by decide +kernel
theorem r115_100 {E : Nat → Value} {d : Nat} {st : List Value} {h : gm_H} {r : gm_R × gm_H} {a0 a1 a2 a3 a5 a6 a7 : Value} {x : Int32} : gm_Go E d 115 100 [a0, a1, a2, a3, .int x, a5, a6, a7] st h r ↔ gm_Go E d 115 102 [a0, a1, a2, a3, .int x, a5, a6, a7] (.int x :: st) h r := gr_loc m115 f115_100 rfl rfl
theorem f115_102 : gm_ft 115 102 = some (.ifCond .eq 7, 3) := by decide +kernel
theorem r115_102 {E : Nat → Value} {d : Nat} {st : List Value} {h : gm_H} {r : gm_R × gm_H} {lv : List Value} {x : Int32} : gm_Go E d 115 102 lv (.int x :: st) h r ↔ (if x = 0 then gm_Go E d 115 109 lv st h r else gm_Go E d 115 105 lv st h r) := (gr_br m115 f115_102 rfl rfl rfl rfl).trans gr_if
theorem f115_105 : gm_ft 115 105 = some (.iconst 2, 1) := by decide +kernel
theorem r115_105 {E : Nat → Value} {d : Nat} {st : List Value} {h : gm_H} {r : gm_R × gm_H} {lv : List Value} : gm_Go E d 115 105 lv st h r ↔ gm_Go E d 115 106 lv (.int (2 : Int32) :: st) h r := gr_pure m115 f115_105 rfl
theorem f115_106 : gm_ft 115 106 = some (.goto 4, 3) := by decide +kernel
theorem r115_106 {E : Nat → Value} {d : Nat} {st : List Value} {h : gm_H} {r : gm_R × gm_H} {lv : List Value} : gm_Go E d 115 106 lv st h r ↔ gm_Go E d 115 110 lv st h r := gr_brT m115 f115_106 rfl rfl rfl rfl
theorem f115_109 : gm_ft 115 109 = some (.iconst 3, 1) := by decide +kernel
theorem r115_109 {E : Nat → Value} {d : Nat} {st : List Value} {h : gm_H} {r : gm_R × gm_H} {lv : List Value} : gm_Go E d 115 109 lv st h r ↔ gm_Go E d 115 110 lv (.int (3 : Int32) :: st) h r := gr_pure m115 f115_109 rfl
theorem f115_110 : gm_ft 115 110 = some (.iconst (-1), 1) := by decide +kernel
theorem r115_110 {E : Nat → Value} {d : Nat} {st : List Value} {h : gm_H} {r : gm_R × gm_H} {lv : List Value} : gm_Go E d 115 110 lv st h r ↔ gm_Go E d 115 111 lv (.int (-1 : Int32) :: st) h r := gr_pure m115 f115_110 rfl
theorem f115_111 : gm_ft 115 111 = some (.iload_n 3, 1) := by decide +kernel
theorem r115_111 {E : Nat → Value} {d : Nat} {st : List Value} {h : gm_H} {r : gm_R × gm_H} {a0 a1 a2 a4 a5 a6 a7 : Value} {x : Int32} : gm_Go E d 115 111 [a0, a1, a2, .int x, a4, a5, a6, a7] st h r ↔ gm_Go E d 115 112 [a0, a1, a2, .int x, a4, a5, a6, a7] (.int x :: st) h r := gr_loc m115 f115_111 rfl rfl
theorem f115_112 : gm_ft 115 112 = some (.iload 4, 2) := by decide +kernel
theorem r115_112 {E : Nat → Value} {d : Nat} {st : List Value} {h : gm_H} {r : gm_R × gm_H} {a0 a1 a2 a3 a5 a6 a7 : Value} {x : Int32} : gm_Go E d 115 112 [a0, a1, a2, a3, .int x, a5, a6, a7] st h r ↔ gm_Go E d 115 114 [a0, a1, a2, a3, .int x, a5, a6, a7] (.int x :: st) h r := gr_loc m115 f115_112 rfl rfl
theorem f115_114 : gm_ft 115 114 = some (.ifCond .eq 10, 3) := by decide +kernel
theorem r115_114 {E : Nat → Value} {d : Nat} {st : List Value} {h : gm_H} {r : gm_R × gm_H} {lv : List Value} {x : Int32} : gm_Go E d 115 114 lv (.int x :: st) h r ↔ (if x = 0 then gm_Go E d 115 124 lv st h r else gm_Go E d 115 117 lv st h r) := (gr_br m115 f115_114 rfl rfl rfl rfl).trans gr_if
theorem f115_117 : gm_ft 115 117 = some (.aload_n 0, 1) := by decide +kernel
theorem r115_117 {E : Nat → Value} {d : Nat} {st : List Value} {h : gm_H} {r : gm_R × gm_H} {a1 a2 a3 a4 a5 a6 a7 : Value} {x : Nat} : gm_Go E d 115 117 [.ref x, a1, a2, a3, a4, a5, a6, a7] st h r ↔ gm_Go E d 115 118 [.ref x, a1, a2, a3, a4, a5, a6, a7] (.ref x :: st) h r := gr_loc m115 f115_117 rfl rfl
theorem r115_117n {E : Nat → Value} {d : Nat} {st : List Value} {h : gm_H} {r : gm_R × gm_H} {a1 a2 a3 a4 a5 a6 a7 : Value}  : gm_Go E d 115 117 [.null, a1, a2, a3, a4, a5, a6, a7] st h r ↔ gm_Go E d 115 118 [.null, a1, a2, a3, a4, a5, a6, a7] (.null :: st) h r := gr_loc m115 f115_117 rfl rfl
theorem f115_118 : gm_ft 115 118 = some (.getfield 148, 3) := by decide +kernel
theorem r115_118 {E : Nat → Value} {d : Nat} {st : List Value} {h : gm_H} {r : gm_R × gm_H} {lv : List Value} {a : Nat} {vs : List Value} {v : Value} (hr : gm_rd h a = some (5, vs)) (hv : vs[6]? = some v) : gm_Go E d 115 118 lv (.ref a :: st) h r ↔ gm_Go E d 115 121 lv (v :: st) h r := gr_rd m115 f115_118 rfl rfl rfl rfl (gf_get k5_148 hr hv)
theorem f115_121 : gm_ft 115 121 = some (.goto 7, 3) := by decide +kernel
theorem r115_121 {E : Nat → Value} {d : Nat} {st : List Value} {h : gm_H} {r : gm_R × gm_H} {lv : List Value} : gm_Go E d 115 121 lv st h r ↔ gm_Go E d 115 128 lv st h r := gr_brT m115 f115_121 rfl rfl rfl rfl
theorem f115_124 : gm_ft 115 124 = some (.aload_n 0, 1) := by decide +kernel
theorem r115_124 {E : Nat → Value} {d : Nat} {st : List Value} {h : gm_H} {r : gm_R × gm_H} {a1 a2 a3 a4 a5 a6 a7 : Value} {x : Nat} : gm_Go E d 115 124 [.ref x, a1, a2, a3, a4, a5, a6, a7] st h r ↔ gm_Go E d 115 125 [.ref x, a1, a2, a3, a4, a5, a6, a7] (.ref x :: st) h r := gr_loc m115 f115_124 rfl rfl
theorem r115_124n {E : Nat → Value} {d : Nat} {st : List Value} {h : gm_H} {r : gm_R × gm_H} {a1 a2 a3 a4 a5 a6 a7 : Value}  : gm_Go E d 115 124 [.null, a1, a2, a3, a4, a5, a6, a7] st h r ↔ gm_Go E d 115 125 [.null, a1, a2, a3, a4, a5, a6, a7] (.null :: st) h r := gr_loc m115 f115_124 rfl rfl
theorem f115_125 : gm_ft 115 125 = some (.getfield 163, 3) := by decide +kernel
theorem r115_125 {E : Nat → Value} {d : Nat} {st : List Value} {h : gm_H} {r : gm_R × gm_H} {lv : List Value} {a : Nat} {vs : List Value} {v : Value} (hr : gm_rd h a = some (5, vs)) (hv : vs[25]? = some v) : gm_Go E d 115 125 lv (.ref a :: st) h r ↔ gm_Go E d 115 128 lv (v :: st) h r := gr_rd m115 f115_125 rfl rfl rfl rfl (gf_get k5_163 hr hv)
theorem f115_128 : gm_ft 115 128 = some (.invokevirtual 196, 3) := by decide +kernel
theorem n115_128 {st : List Value} {h : gm_H} {E : Nat → Value} {lv : List Value} {b0 b1 b2 b3 : Value} {a : Nat} (hs : (st.map fun v => v.category).sum ≤ 8) (he : (gm_en1 [.ref a, b0, b1, b2, b3]).length ≤ 5) {vs : List Value} (hr : gm_rd h a = some (5, vs)) : gm_next E 115 128 lv (b3 :: b2 :: b1 :: b0 :: .ref a :: st) h = some (.inr (.inl (0, 110, [.ref a, b0, b1, b2, b3], st))) := gn_call m115 f115_128 rfl rfl rfl rfl rfl rfl rfl (gc_virt (bs := [b3, b2, b1, b0]) (w := 893) rfl rfl rfl rfl hs he hr) (by decide)
theorem f115_131 : gm_ft 115 131 = some (.istore 5, 2) := by decide +kernel
theorem r115_131 {E : Nat → Value} {d : Nat} {st : List Value} {h : gm_H} {r : gm_R × gm_H} {a0 a1 a2 a3 a4 a5 a6 a7 : Value} {x : Int32} : gm_Go E d 115 131 [a0, a1, a2, a3, a4, a5, a6, a7] (.int x :: st) h r ↔ gm_Go E d 115 133 [a0, a1, a2, a3, gm_k a4, .int x, a6, a7] st h r := gr_loc m115 f115_131 rfl rfl
theorem f115_133 : gm_ft 115 133 = some (.aload_n 0, 1) := by decide +kernel
theorem r115_133 {E : Nat → Value} {d : Nat} {st : List Value} {h : gm_H} {r : gm_R × gm_H} {a1 a2 a3 a4 a5 a6 a7 : Value} {x : Nat} : gm_Go E d 115 133 [.ref x, a1, a2, a3, a4, a5, a6, a7] st h r ↔ gm_Go E d 115 134 [.ref x, a1, a2, a3, a4, a5, a6, a7] (.ref x :: st) h r := gr_loc m115 f115_133 rfl rfl
theorem r115_133n {E : Nat → Value} {d : Nat} {st : List Value} {h : gm_H} {r : gm_R × gm_H} {a1 a2 a3 a4 a5 a6 a7 : Value}  : gm_Go E d 115 133 [.null, a1, a2, a3, a4, a5, a6, a7] st h r ↔ gm_Go E d 115 134 [.null, a1, a2, a3, a4, a5, a6, a7] (.null :: st) h r := gr_loc m115 f115_133 rfl rfl
theorem f115_134 : gm_ft 115 134 = some (.iconst 2, 1) := by decide +kernel
theorem r115_134 {E : Nat → Value} {d : Nat} {st : List Value} {h : gm_H} {r : gm_R × gm_H} {lv : List Value} : gm_Go E d 115 134 lv st h r ↔ gm_Go E d 115 135 lv (.int (2 : Int32) :: st) h r := gr_pure m115 f115_134 rfl
theorem f115_135 : gm_ft 115 135 = some (.iload 5, 2) := by decide +kernel
theorem r115_135 {E : Nat → Value} {d : Nat} {st : List Value} {h : gm_H} {r : gm_R × gm_H} {a0 a1 a2 a3 a4 a6 a7 : Value} {x : Int32} : gm_Go E d 115 135 [a0, a1, a2, a3, a4, .int x, a6, a7] st h r ↔ gm_Go E d 115 137 [a0, a1, a2, a3, a4, .int x, a6, a7] (.int x :: st) h r := gr_loc m115 f115_135 rfl rfl
theorem f115_137 : gm_ft 115 137 = some (.invokevirtual 189, 3) := by decide +kernel
theorem n115_137 {st : List Value} {h : gm_H} {E : Nat → Value} {lv : List Value} {b0 b1 : Value} {a : Nat} (hs : (st.map fun v => v.category).sum ≤ 8) (he : (gm_en1 [.ref a, b0, b1]).length ≤ 3) {vs : List Value} (hr : gm_rd h a = some (5, vs)) : gm_next E 115 137 lv (b1 :: b0 :: .ref a :: st) h = some (.inr (.inl (0, 108, [.ref a, b0, b1], st))) := gn_call m115 f115_137 rfl rfl rfl rfl rfl rfl rfl (gc_virt (bs := [b1, b0]) (w := 885) rfl rfl rfl rfl hs he hr) (by decide)
theorem f115_140 : gm_ft 115 140 = some (.istore 6, 2) := by decide +kernel
theorem r115_140 {E : Nat → Value} {d : Nat} {st : List Value} {h : gm_H} {r : gm_R × gm_H} {a0 a1 a2 a3 a4 a5 a6 a7 : Value} {x : Int32} : gm_Go E d 115 140 [a0, a1, a2, a3, a4, a5, a6, a7] (.int x :: st) h r ↔ gm_Go E d 115 142 [a0, a1, a2, a3, a4, gm_k a5, .int x, a7] st h r := gr_loc m115 f115_140 rfl rfl
theorem f115_142 : gm_ft 115 142 = some (.iload 4, 2) := by decide +kernel
theorem r115_142 {E : Nat → Value} {d : Nat} {st : List Value} {h : gm_H} {r : gm_R × gm_H} {a0 a1 a2 a3 a5 a6 a7 : Value} {x : Int32} : gm_Go E d 115 142 [a0, a1, a2, a3, .int x, a5, a6, a7] st h r ↔ gm_Go E d 115 144 [a0, a1, a2, a3, .int x, a5, a6, a7] (.int x :: st) h r := gr_loc m115 f115_142 rfl rfl
theorem f115_144 : gm_ft 115 144 = some (.ifCond .eq 38, 3) := by decide +kernel
theorem r115_144 {E : Nat → Value} {d : Nat} {st : List Value} {h : gm_H} {r : gm_R × gm_H} {lv : List Value} {x : Int32} : gm_Go E d 115 144 lv (.int x :: st) h r ↔ (if x = 0 then gm_Go E d 115 182 lv st h r else gm_Go E d 115 147 lv st h r) := (gr_br m115 f115_144 rfl rfl rfl rfl).trans gr_if
theorem f115_147 : gm_ft 115 147 = some (.iconst 0, 1) := by decide +kernel
theorem r115_147 {E : Nat → Value} {d : Nat} {st : List Value} {h : gm_H} {r : gm_R × gm_H} {lv : List Value} : gm_Go E d 115 147 lv st h r ↔ gm_Go E d 115 148 lv (.int (0 : Int32) :: st) h r := gr_pure m115 f115_147 rfl
theorem f115_148 : gm_ft 115 148 = some (.istore 7, 2) := by decide +kernel
theorem r115_148 {E : Nat → Value} {d : Nat} {st : List Value} {h : gm_H} {r : gm_R × gm_H} {a0 a1 a2 a3 a4 a5 a6 a7 : Value} {x : Int32} : gm_Go E d 115 148 [a0, a1, a2, a3, a4, a5, a6, a7] (.int x :: st) h r ↔ gm_Go E d 115 150 [a0, a1, a2, a3, a4, a5, gm_k a6, .int x] st h r := gr_loc m115 f115_148 rfl rfl
theorem f115_150 : gm_ft 115 150 = some (.iload 7, 2) := by decide +kernel
theorem r115_150 {E : Nat → Value} {d : Nat} {st : List Value} {h : gm_H} {r : gm_R × gm_H} {a0 a1 a2 a3 a4 a5 a6 : Value} {x : Int32} : gm_Go E d 115 150 [a0, a1, a2, a3, a4, a5, a6, .int x] st h r ↔ gm_Go E d 115 152 [a0, a1, a2, a3, a4, a5, a6, .int x] (.int x :: st) h r := gr_loc m115 f115_150 rfl rfl
theorem f115_152 : gm_ft 115 152 = some (.iload_n 3, 1) := by decide +kernel
theorem r115_152 {E : Nat → Value} {d : Nat} {st : List Value} {h : gm_H} {r : gm_R × gm_H} {a0 a1 a2 a4 a5 a6 a7 : Value} {x : Int32} : gm_Go E d 115 152 [a0, a1, a2, .int x, a4, a5, a6, a7] st h r ↔ gm_Go E d 115 153 [a0, a1, a2, .int x, a4, a5, a6, a7] (.int x :: st) h r := gr_loc m115 f115_152 rfl rfl
theorem f115_153 : gm_ft 115 153 = some (.if_icmp .ge 15, 3) := by decide +kernel
theorem r115_153 {E : Nat → Value} {d : Nat} {st : List Value} {h : gm_H} {r : gm_R × gm_H} {lv : List Value} {x y : Int32} : gm_Go E d 115 153 lv (.int y :: .int x :: st) h r ↔ (if y ≤ x then gm_Go E d 115 168 lv st h r else gm_Go E d 115 156 lv st h r) := (gr_br m115 f115_153 rfl rfl rfl rfl).trans gr_if
theorem f115_156 : gm_ft 115 156 = some (.aload_n 0, 1) := by decide +kernel
theorem r115_156 {E : Nat → Value} {d : Nat} {st : List Value} {h : gm_H} {r : gm_R × gm_H} {a1 a2 a3 a4 a5 a6 a7 : Value} {x : Nat} : gm_Go E d 115 156 [.ref x, a1, a2, a3, a4, a5, a6, a7] st h r ↔ gm_Go E d 115 157 [.ref x, a1, a2, a3, a4, a5, a6, a7] (.ref x :: st) h r := gr_loc m115 f115_156 rfl rfl
theorem r115_156n {E : Nat → Value} {d : Nat} {st : List Value} {h : gm_H} {r : gm_R × gm_H} {a1 a2 a3 a4 a5 a6 a7 : Value}  : gm_Go E d 115 156 [.null, a1, a2, a3, a4, a5, a6, a7] st h r ↔ gm_Go E d 115 157 [.null, a1, a2, a3, a4, a5, a6, a7] (.null :: st) h r := gr_loc m115 f115_156 rfl rfl
theorem f115_157 : gm_ft 115 157 = some (.iconst 4, 1) := by decide +kernel
theorem r115_157 {E : Nat → Value} {d : Nat} {st : List Value} {h : gm_H} {r : gm_R × gm_H} {lv : List Value} : gm_Go E d 115 157 lv st h r ↔ gm_Go E d 115 158 lv (.int (4 : Int32) :: st) h r := gr_pure m115 f115_157 rfl
theorem f115_158 : gm_ft 115 158 = some (.invokevirtual 159, 3) := by decide +kernel
theorem n115_158 {st : List Value} {h : gm_H} {E : Nat → Value} {lv : List Value} {b0 : Value} {a : Nat} (hs : (st.map fun v => v.category).sum ≤ 8) (he : (gm_en1 [.ref a, b0]).length ≤ 5) {vs : List Value} (hr : gm_rd h a = some (5, vs)) : gm_next E 115 158 lv (b0 :: .ref a :: st) h = some (.inr (.inl (0, 107, [.ref a, b0], st))) := gn_call m115 f115_158 rfl rfl rfl rfl rfl rfl rfl (gc_virt (bs := [b0]) (w := 880) rfl rfl rfl rfl hs he hr) (by decide)
theorem f115_161 : gm_ft 115 161 = some (.pop2, 1) := by decide +kernel
theorem r115_161 {E : Nat → Value} {d : Nat} {st : List Value} {h : gm_H} {r : gm_R × gm_H} {lv : List Value} {x : Int64} : gm_Go E d 115 161 lv (.long x :: st) h r ↔ gm_Go E d 115 162 lv st h r := gr_pure m115 f115_161 rfl
theorem f115_162 : gm_ft 115 162 = some (.iinc 7 1, 3) := by decide +kernel
theorem r115_162 {E : Nat → Value} {d : Nat} {st : List Value} {h : gm_H} {r : gm_R × gm_H} {a0 a1 a2 a3 a4 a5 a6 : Value} {x : Int32} : gm_Go E d 115 162 [a0, a1, a2, a3, a4, a5, a6, .int x] st h r ↔ gm_Go E d 115 165 [a0, a1, a2, a3, a4, a5, gm_k a6, .int (x + (1 : Int32))] st h r := gr_loc m115 f115_162 rfl rfl
theorem f115_165 : gm_ft 115 165 = some (.goto (-15), 3) := by decide +kernel
theorem r115_165 {E : Nat → Value} {d : Nat} {st : List Value} {h : gm_H} {r : gm_R × gm_H} {lv : List Value} : gm_Go E d 115 165 lv st h r ↔ gm_Go E d 115 150 lv st h r := gr_brT m115 f115_165 rfl rfl rfl rfl
theorem f115_168 : gm_ft 115 168 = some (.aload_n 0, 1) := by decide +kernel
theorem r115_168 {E : Nat → Value} {d : Nat} {st : List Value} {h : gm_H} {r : gm_R × gm_H} {a1 a2 a3 a4 a5 a6 a7 : Value} {x : Nat} : gm_Go E d 115 168 [.ref x, a1, a2, a3, a4, a5, a6, a7] st h r ↔ gm_Go E d 115 169 [.ref x, a1, a2, a3, a4, a5, a6, a7] (.ref x :: st) h r := gr_loc m115 f115_168 rfl rfl
theorem r115_168n {E : Nat → Value} {d : Nat} {st : List Value} {h : gm_H} {r : gm_R × gm_H} {a1 a2 a3 a4 a5 a6 a7 : Value}  : gm_Go E d 115 168 [.null, a1, a2, a3, a4, a5, a6, a7] st h r ↔ gm_Go E d 115 169 [.null, a1, a2, a3, a4, a5, a6, a7] (.null :: st) h r := gr_loc m115 f115_168 rfl rfl
theorem f115_169 : gm_ft 115 169 = some (.getfield 145, 3) := by decide +kernel
theorem r115_169 {E : Nat → Value} {d : Nat} {st : List Value} {h : gm_H} {r : gm_R × gm_H} {lv : List Value} {a : Nat} {vs : List Value} {v : Value} (hr : gm_rd h a = some (5, vs)) (hv : vs[8]? = some v) : gm_Go E d 115 169 lv (.ref a :: st) h r ↔ gm_Go E d 115 172 lv (v :: st) h r := gr_rd m115 f115_169 rfl rfl rfl rfl (gf_get k5_145 hr hv)
theorem f115_172 : gm_ft 115 172 = some (.ifCond .ne 9, 3) := by decide +kernel
theorem r115_172 {E : Nat → Value} {d : Nat} {st : List Value} {h : gm_H} {r : gm_R × gm_H} {lv : List Value} {x : Int32} : gm_Go E d 115 172 lv (.int x :: st) h r ↔ (if x = 0 then gm_Go E d 115 175 lv st h r else gm_Go E d 115 181 lv st h r) := (gr_br m115 f115_172 rfl rfl rfl rfl).trans gr_ifn
theorem f115_175 : gm_ft 115 175 = some (.aload_n 0, 1) := by decide +kernel
theorem r115_175 {E : Nat → Value} {d : Nat} {st : List Value} {h : gm_H} {r : gm_R × gm_H} {a1 a2 a3 a4 a5 a6 a7 : Value} {x : Nat} : gm_Go E d 115 175 [.ref x, a1, a2, a3, a4, a5, a6, a7] st h r ↔ gm_Go E d 115 176 [.ref x, a1, a2, a3, a4, a5, a6, a7] (.ref x :: st) h r := gr_loc m115 f115_175 rfl rfl
theorem r115_175n {E : Nat → Value} {d : Nat} {st : List Value} {h : gm_H} {r : gm_R × gm_H} {a1 a2 a3 a4 a5 a6 a7 : Value}  : gm_Go E d 115 175 [.null, a1, a2, a3, a4, a5, a6, a7] st h r ↔ gm_Go E d 115 176 [.null, a1, a2, a3, a4, a5, a6, a7] (.null :: st) h r := gr_loc m115 f115_175 rfl rfl
theorem f115_176 : gm_ft 115 176 = some (.iload 5, 2) := by decide +kernel
theorem r115_176 {E : Nat → Value} {d : Nat} {st : List Value} {h : gm_H} {r : gm_R × gm_H} {a0 a1 a2 a3 a4 a6 a7 : Value} {x : Int32} : gm_Go E d 115 176 [a0, a1, a2, a3, a4, .int x, a6, a7] st h r ↔ gm_Go E d 115 178 [a0, a1, a2, a3, a4, .int x, a6, a7] (.int x :: st) h r := gr_loc m115 f115_176 rfl rfl
theorem f115_178 : gm_ft 115 178 = some (.invokevirtual 182, 3) := by decide +kernel
theorem n115_178 {st : List Value} {h : gm_H} {E : Nat → Value} {lv : List Value} {b0 : Value} {a : Nat} (hs : (st.map fun v => v.category).sum ≤ 8) (he : (gm_en1 [.ref a, b0]).length ≤ 2) {vs : List Value} (hr : gm_rd h a = some (5, vs)) : gm_next E 115 178 lv (b0 :: .ref a :: st) h = some (.inr (.inl (0, 105, [.ref a, b0], st))) := gn_call m115 f115_178 rfl rfl rfl rfl rfl rfl rfl (gc_virt (bs := [b0]) (w := 872) rfl rfl rfl rfl hs he hr) (by decide)
theorem f115_181 : gm_ft 115 181 = some (.return_, 1) := by decide +kernel
theorem r115_181 {E : Nat → Value} {d : Nat} {h : gm_H} {r : gm_R × gm_H} {lv : List Value} : gm_Go E d 115 181 lv [] h r ↔ r = (.inl none, h) := gr_ret m115 f115_181 rfl rfl rfl rfl rfl rfl rfl rfl rfl
theorem f115_182 : gm_ft 115 182 = some (.iconst 0, 1) := by decide +kernel
theorem r115_182 {E : Nat → Value} {d : Nat} {st : List Value} {h : gm_H} {r : gm_R × gm_H} {lv : List Value} : gm_Go E d 115 182 lv st h r ↔ gm_Go E d 115 183 lv (.int (0 : Int32) :: st) h r := gr_pure m115 f115_182 rfl
theorem f115_183 : gm_ft 115 183 = some (.istore 7, 2) := by decide +kernel
theorem r115_183 {E : Nat → Value} {d : Nat} {st : List Value} {h : gm_H} {r : gm_R × gm_H} {a0 a1 a2 a3 a4 a5 a6 a7 : Value} {x : Int32} : gm_Go E d 115 183 [a0, a1, a2, a3, a4, a5, a6, a7] (.int x :: st) h r ↔ gm_Go E d 115 185 [a0, a1, a2, a3, a4, a5, gm_k a6, .int x] st h r := gr_loc m115 f115_183 rfl rfl
theorem f115_185 : gm_ft 115 185 = some (.iload 7, 2) := by decide +kernel
theorem r115_185 {E : Nat → Value} {d : Nat} {st : List Value} {h : gm_H} {r : gm_R × gm_H} {a0 a1 a2 a3 a4 a5 a6 : Value} {x : Int32} : gm_Go E d 115 185 [a0, a1, a2, a3, a4, a5, a6, .int x] st h r ↔ gm_Go E d 115 187 [a0, a1, a2, a3, a4, a5, a6, .int x] (.int x :: st) h r := gr_loc m115 f115_185 rfl rfl
theorem f115_187 : gm_ft 115 187 = some (.iload_n 3, 1) := by decide +kernel
theorem r115_187 {E : Nat → Value} {d : Nat} {st : List Value} {h : gm_H} {r : gm_R × gm_H} {a0 a1 a2 a4 a5 a6 a7 : Value} {x : Int32} : gm_Go E d 115 187 [a0, a1, a2, .int x, a4, a5, a6, a7] st h r ↔ gm_Go E d 115 188 [a0, a1, a2, .int x, a4, a5, a6, a7] (.int x :: st) h r := gr_loc m115 f115_187 rfl rfl
theorem f115_188 : gm_ft 115 188 = some (.if_icmp .ge 24, 3) := by decide +kernel
theorem r115_188 {E : Nat → Value} {d : Nat} {st : List Value} {h : gm_H} {r : gm_R × gm_H} {lv : List Value} {x y : Int32} : gm_Go E d 115 188 lv (.int y :: .int x :: st) h r ↔ (if y ≤ x then gm_Go E d 115 212 lv st h r else gm_Go E d 115 191 lv st h r) := (gr_br m115 f115_188 rfl rfl rfl rfl).trans gr_if
theorem f115_191 : gm_ft 115 191 = some (.aload_n 0, 1) := by decide +kernel
theorem r115_191 {E : Nat → Value} {d : Nat} {st : List Value} {h : gm_H} {r : gm_R × gm_H} {a1 a2 a3 a4 a5 a6 a7 : Value} {x : Nat} : gm_Go E d 115 191 [.ref x, a1, a2, a3, a4, a5, a6, a7] st h r ↔ gm_Go E d 115 192 [.ref x, a1, a2, a3, a4, a5, a6, a7] (.ref x :: st) h r := gr_loc m115 f115_191 rfl rfl
theorem r115_191n {E : Nat → Value} {d : Nat} {st : List Value} {h : gm_H} {r : gm_R × gm_H} {a1 a2 a3 a4 a5 a6 a7 : Value}  : gm_Go E d 115 191 [.null, a1, a2, a3, a4, a5, a6, a7] st h r ↔ gm_Go E d 115 192 [.null, a1, a2, a3, a4, a5, a6, a7] (.null :: st) h r := gr_loc m115 f115_191 rfl rfl
theorem f115_192 : gm_ft 115 192 = some (.getfield 54, 3) := by decide +kernel
theorem r115_192 {E : Nat → Value} {d : Nat} {st : List Value} {h : gm_H} {r : gm_R × gm_H} {lv : List Value} {a : Nat} {vs : List Value} {v : Value} (hr : gm_rd h a = some (5, vs)) (hv : vs[24]? = some v) : gm_Go E d 115 192 lv (.ref a :: st) h r ↔ gm_Go E d 115 195 lv (v :: st) h r := gr_rd m115 f115_192 rfl rfl rfl rfl (gf_get k5_54 hr hv)
theorem f115_195 : gm_ft 115 195 = some (.aload_n 0, 1) := by decide +kernel
theorem r115_195 {E : Nat → Value} {d : Nat} {st : List Value} {h : gm_H} {r : gm_R × gm_H} {a1 a2 a3 a4 a5 a6 a7 : Value} {x : Nat} : gm_Go E d 115 195 [.ref x, a1, a2, a3, a4, a5, a6, a7] st h r ↔ gm_Go E d 115 196 [.ref x, a1, a2, a3, a4, a5, a6, a7] (.ref x :: st) h r := gr_loc m115 f115_195 rfl rfl
theorem r115_195n {E : Nat → Value} {d : Nat} {st : List Value} {h : gm_H} {r : gm_R × gm_H} {a1 a2 a3 a4 a5 a6 a7 : Value}  : gm_Go E d 115 195 [.null, a1, a2, a3, a4, a5, a6, a7] st h r ↔ gm_Go E d 115 196 [.null, a1, a2, a3, a4, a5, a6, a7] (.null :: st) h r := gr_loc m115 f115_195 rfl rfl
theorem f115_196 : gm_ft 115 196 = some (.getfield 163, 3) := by decide +kernel
theorem r115_196 {E : Nat → Value} {d : Nat} {st : List Value} {h : gm_H} {r : gm_R × gm_H} {lv : List Value} {a : Nat} {vs : List Value} {v : Value} (hr : gm_rd h a = some (5, vs)) (hv : vs[25]? = some v) : gm_Go E d 115 196 lv (.ref a :: st) h r ↔ gm_Go E d 115 199 lv (v :: st) h r := gr_rd m115 f115_196 rfl rfl rfl rfl (gf_get k5_163 hr hv)
theorem f115_199 : gm_ft 115 199 = some (.iload 7, 2) := by decide +kernel
theorem r115_199 {E : Nat → Value} {d : Nat} {st : List Value} {h : gm_H} {r : gm_R × gm_H} {a0 a1 a2 a3 a4 a5 a6 : Value} {x : Int32} : gm_Go E d 115 199 [a0, a1, a2, a3, a4, a5, a6, .int x] st h r ↔ gm_Go E d 115 201 [a0, a1, a2, a3, a4, a5, a6, .int x] (.int x :: st) h r := gr_loc m115 f115_199 rfl rfl
theorem f115_201 : gm_ft 115 201 = some (.iadd, 1) := by decide +kernel
theorem r115_201 {E : Nat → Value} {d : Nat} {st : List Value} {h : gm_H} {r : gm_R × gm_H} {lv : List Value} {x y : Int32} : gm_Go E d 115 201 lv (.int y :: .int x :: st) h r ↔ gm_Go E d 115 202 lv (.int (x + y) :: st) h r := gr_pure m115 f115_201 rfl
theorem f115_202 : gm_ft 115 202 = some (.ldc2_w 212, 3) := by decide +kernel
theorem r115_202 {E : Nat → Value} {d : Nat} {st : List Value} {h : gm_H} {r : gm_R × gm_H} {lv : List Value} : gm_Go E d 115 202 lv st h r ↔ gm_Go E d 115 205 lv (.long (-2 : Int64) :: st) h r := gr_rd m115 f115_202 rfl rfl rfl rfl rfl
theorem f115_205 : gm_ft 115 205 = some (.lastore, 1) := by decide +kernel
theorem r115_205 {E : Nat → Value} {d : Nat} {st : List Value} {h : gm_H} {r : gm_R × gm_H} {lv : List Value} {a k j : Nat} {vs : List Value} {x : Int64} (hr : gm_rd h a = some (k, vs)) (hk : 100 ≤ k ∧ k % 100 = 1 ∧ gm_ko k = 2 ∧ 2 < 3) (hj : j < 2 ^ 31) (hl : j < vs.length) : gm_Go E d 115 205 lv (.long x :: .int (nI j) :: .ref a :: st) h r ↔ gm_Go E d 115 206 lv st (gm_wr h a (k, vs.set j (.long x))) r := gr_wr m115 f115_205 rfl rfl rfl rfl rfl (ga_st hr hk hj hl)
theorem f115_206 : gm_ft 115 206 = some (.iinc 7 1, 3) := by decide +kernel
theorem r115_206 {E : Nat → Value} {d : Nat} {st : List Value} {h : gm_H} {r : gm_R × gm_H} {a0 a1 a2 a3 a4 a5 a6 : Value} {x : Int32} : gm_Go E d 115 206 [a0, a1, a2, a3, a4, a5, a6, .int x] st h r ↔ gm_Go E d 115 209 [a0, a1, a2, a3, a4, a5, gm_k a6, .int (x + (1 : Int32))] st h r := gr_loc m115 f115_206 rfl rfl
theorem f115_209 : gm_ft 115 209 = some (.goto (-24), 3) := by decide +kernel
theorem r115_209 {E : Nat → Value} {d : Nat} {st : List Value} {h : gm_H} {r : gm_R × gm_H} {lv : List Value} : gm_Go E d 115 209 lv st h r ↔ gm_Go E d 115 185 lv st h r := gr_brT m115 f115_209 rfl rfl rfl rfl
theorem f115_212 : gm_ft 115 212 = some (.aload_n 0, 1) := by decide +kernel
theorem r115_212 {E : Nat → Value} {d : Nat} {st : List Value} {h : gm_H} {r : gm_R × gm_H} {a1 a2 a3 a4 a5 a6 a7 : Value} {x : Nat} : gm_Go E d 115 212 [.ref x, a1, a2, a3, a4, a5, a6, a7] st h r ↔ gm_Go E d 115 213 [.ref x, a1, a2, a3, a4, a5, a6, a7] (.ref x :: st) h r := gr_loc m115 f115_212 rfl rfl
theorem r115_212n {E : Nat → Value} {d : Nat} {st : List Value} {h : gm_H} {r : gm_R × gm_H} {a1 a2 a3 a4 a5 a6 a7 : Value}  : gm_Go E d 115 212 [.null, a1, a2, a3, a4, a5, a6, a7] st h r ↔ gm_Go E d 115 213 [.null, a1, a2, a3, a4, a5, a6, a7] (.null :: st) h r := gr_loc m115 f115_212 rfl rfl
theorem f115_213 : gm_ft 115 213 = some (.dup, 1) := by decide +kernel
theorem r115_213 {E : Nat → Value} {d : Nat} {st : List Value} {h : gm_H} {r : gm_R × gm_H} {lv : List Value} {a : Nat} : gm_Go E d 115 213 lv (.ref a :: st) h r ↔ gm_Go E d 115 214 lv (.ref a :: .ref a :: st) h r := gr_pure m115 f115_213 rfl
theorem r115_213i {E : Nat → Value} {d : Nat} {st : List Value} {h : gm_H} {r : gm_R × gm_H} {lv : List Value} {x : Int32} : gm_Go E d 115 213 lv (.int x :: st) h r ↔ gm_Go E d 115 214 lv (.int x :: .int x :: st) h r := gr_pure m115 f115_213 rfl
theorem f115_214 : gm_ft 115 214 = some (.getfield 163, 3) := by decide +kernel
theorem r115_214 {E : Nat → Value} {d : Nat} {st : List Value} {h : gm_H} {r : gm_R × gm_H} {lv : List Value} {a : Nat} {vs : List Value} {v : Value} (hr : gm_rd h a = some (5, vs)) (hv : vs[25]? = some v) : gm_Go E d 115 214 lv (.ref a :: st) h r ↔ gm_Go E d 115 217 lv (v :: st) h r := gr_rd m115 f115_214 rfl rfl rfl rfl (gf_get k5_163 hr hv)
theorem f115_217 : gm_ft 115 217 = some (.iload_n 3, 1) := by decide +kernel
theorem r115_217 {E : Nat → Value} {d : Nat} {st : List Value} {h : gm_H} {r : gm_R × gm_H} {a0 a1 a2 a4 a5 a6 a7 : Value} {x : Int32} : gm_Go E d 115 217 [a0, a1, a2, .int x, a4, a5, a6, a7] st h r ↔ gm_Go E d 115 218 [a0, a1, a2, .int x, a4, a5, a6, a7] (.int x :: st) h r := gr_loc m115 f115_217 rfl rfl
theorem f115_218 : gm_ft 115 218 = some (.iadd, 1) := by decide +kernel
theorem r115_218 {E : Nat → Value} {d : Nat} {st : List Value} {h : gm_H} {r : gm_R × gm_H} {lv : List Value} {x y : Int32} : gm_Go E d 115 218 lv (.int y :: .int x :: st) h r ↔ gm_Go E d 115 219 lv (.int (x + y) :: st) h r := gr_pure m115 f115_218 rfl
theorem f115_219 : gm_ft 115 219 = some (.putfield 163, 3) := by decide +kernel
theorem r115_219 {E : Nat → Value} {d : Nat} {st : List Value} {h : gm_H} {r : gm_R × gm_H} {lv : List Value} {a : Nat} {vs : List Value} {v : Value} (hr : gm_rd h a = some (5, vs)) (hk : 25 < vs.length) (hn : narrow (gm_ty 5 25) v = v ∧ fits (gm_ty 5 25) v = true) : gm_Go E d 115 219 lv (v :: .ref a :: st) h r ↔ gm_Go E d 115 222 lv st (gm_wr h a (5, vs.set 25 v)) r := gr_wr m115 f115_219 rfl rfl rfl rfl rfl (gf_put k5_163 hr (by decide) hk hn (by decide))
theorem f115_222 : gm_ft 115 222 = some (.aload_n 0, 1) := by decide +kernel
theorem r115_222 {E : Nat → Value} {d : Nat} {st : List Value} {h : gm_H} {r : gm_R × gm_H} {a1 a2 a3 a4 a5 a6 a7 : Value} {x : Nat} : gm_Go E d 115 222 [.ref x, a1, a2, a3, a4, a5, a6, a7] st h r ↔ gm_Go E d 115 223 [.ref x, a1, a2, a3, a4, a5, a6, a7] (.ref x :: st) h r := gr_loc m115 f115_222 rfl rfl
theorem r115_222n {E : Nat → Value} {d : Nat} {st : List Value} {h : gm_H} {r : gm_R × gm_H} {a1 a2 a3 a4 a5 a6 a7 : Value}  : gm_Go E d 115 222 [.null, a1, a2, a3, a4, a5, a6, a7] st h r ↔ gm_Go E d 115 223 [.null, a1, a2, a3, a4, a5, a6, a7] (.null :: st) h r := gr_loc m115 f115_222 rfl rfl
theorem f115_223 : gm_ft 115 223 = some (.getfield 102, 3) := by decide +kernel
theorem r115_223 {E : Nat → Value} {d : Nat} {st : List Value} {h : gm_H} {r : gm_R × gm_H} {lv : List Value} {a : Nat} {vs : List Value} {v : Value} (hr : gm_rd h a = some (5, vs)) (hv : vs[43]? = some v) : gm_Go E d 115 223 lv (.ref a :: st) h r ↔ gm_Go E d 115 226 lv (v :: st) h r := gr_rd m115 f115_223 rfl rfl rfl rfl (gf_get k5_102 hr hv)
theorem f115_226 : gm_ft 115 226 = some (.iload_n 1, 1) := by decide +kernel
theorem r115_226 {E : Nat → Value} {d : Nat} {st : List Value} {h : gm_H} {r : gm_R × gm_H} {a0 a2 a3 a4 a5 a6 a7 : Value} {x : Int32} : gm_Go E d 115 226 [a0, .int x, a2, a3, a4, a5, a6, a7] st h r ↔ gm_Go E d 115 227 [a0, .int x, a2, a3, a4, a5, a6, a7] (.int x :: st) h r := gr_loc m115 f115_226 rfl rfl
theorem f115_227 : gm_ft 115 227 = some (.iload 5, 2) := by decide +kernel
theorem r115_227 {E : Nat → Value} {d : Nat} {st : List Value} {h : gm_H} {r : gm_R × gm_H} {a0 a1 a2 a3 a4 a6 a7 : Value} {x : Int32} : gm_Go E d 115 227 [a0, a1, a2, a3, a4, .int x, a6, a7] st h r ↔ gm_Go E d 115 229 [a0, a1, a2, a3, a4, .int x, a6, a7] (.int x :: st) h r := gr_loc m115 f115_227 rfl rfl
theorem f115_229 : gm_ft 115 229 = some (.iastore, 1) := by decide +kernel
theorem r115_229 {E : Nat → Value} {d : Nat} {st : List Value} {h : gm_H} {r : gm_R × gm_H} {lv : List Value} {a k j : Nat} {vs : List Value} {x : Int32} (hr : gm_rd h a = some (k, vs)) (hk : 100 ≤ k ∧ k % 100 = 0 ∧ gm_ko k = 2 ∧ 2 < 3) (hj : j < 2 ^ 31) (hl : j < vs.length) : gm_Go E d 115 229 lv (.int x :: .int (nI j) :: .ref a :: st) h r ↔ gm_Go E d 115 230 lv st (gm_wr h a (k, vs.set j (.int x))) r := gr_wr m115 f115_229 rfl rfl rfl rfl rfl (ga_st hr hk hj hl)
theorem f115_230 : gm_ft 115 230 = some (.aload_n 0, 1) := by decide +kernel
theorem r115_230 {E : Nat → Value} {d : Nat} {st : List Value} {h : gm_H} {r : gm_R × gm_H} {a1 a2 a3 a4 a5 a6 a7 : Value} {x : Nat} : gm_Go E d 115 230 [.ref x, a1, a2, a3, a4, a5, a6, a7] st h r ↔ gm_Go E d 115 231 [.ref x, a1, a2, a3, a4, a5, a6, a7] (.ref x :: st) h r := gr_loc m115 f115_230 rfl rfl
theorem r115_230n {E : Nat → Value} {d : Nat} {st : List Value} {h : gm_H} {r : gm_R × gm_H} {a1 a2 a3 a4 a5 a6 a7 : Value}  : gm_Go E d 115 230 [.null, a1, a2, a3, a4, a5, a6, a7] st h r ↔ gm_Go E d 115 231 [.null, a1, a2, a3, a4, a5, a6, a7] (.null :: st) h r := gr_loc m115 f115_230 rfl rfl
theorem f115_231 : gm_ft 115 231 = some (.getfield 105, 3) := by decide +kernel
theorem r115_231 {E : Nat → Value} {d : Nat} {st : List Value} {h : gm_H} {r : gm_R × gm_H} {lv : List Value} {a : Nat} {vs : List Value} {v : Value} (hr : gm_rd h a = some (5, vs)) (hv : vs[44]? = some v) : gm_Go E d 115 231 lv (.ref a :: st) h r ↔ gm_Go E d 115 234 lv (v :: st) h r := gr_rd m115 f115_231 rfl rfl rfl rfl (gf_get k5_105 hr hv)
theorem f115_234 : gm_ft 115 234 = some (.iload_n 1, 1) := by decide +kernel
theorem r115_234 {E : Nat → Value} {d : Nat} {st : List Value} {h : gm_H} {r : gm_R × gm_H} {a0 a2 a3 a4 a5 a6 a7 : Value} {x : Int32} : gm_Go E d 115 234 [a0, .int x, a2, a3, a4, a5, a6, a7] st h r ↔ gm_Go E d 115 235 [a0, .int x, a2, a3, a4, a5, a6, a7] (.int x :: st) h r := gr_loc m115 f115_234 rfl rfl
theorem f115_235 : gm_ft 115 235 = some (.iconst 0, 1) := by decide +kernel
theorem r115_235 {E : Nat → Value} {d : Nat} {st : List Value} {h : gm_H} {r : gm_R × gm_H} {lv : List Value} : gm_Go E d 115 235 lv st h r ↔ gm_Go E d 115 236 lv (.int (0 : Int32) :: st) h r := gr_pure m115 f115_235 rfl
theorem f115_236 : gm_ft 115 236 = some (.iastore, 1) := by decide +kernel
theorem r115_236 {E : Nat → Value} {d : Nat} {st : List Value} {h : gm_H} {r : gm_R × gm_H} {lv : List Value} {a k j : Nat} {vs : List Value} {x : Int32} (hr : gm_rd h a = some (k, vs)) (hk : 100 ≤ k ∧ k % 100 = 0 ∧ gm_ko k = 2 ∧ 2 < 3) (hj : j < 2 ^ 31) (hl : j < vs.length) : gm_Go E d 115 236 lv (.int x :: .int (nI j) :: .ref a :: st) h r ↔ gm_Go E d 115 237 lv st (gm_wr h a (k, vs.set j (.int x))) r := gr_wr m115 f115_236 rfl rfl rfl rfl rfl (ga_st hr hk hj hl)
theorem f115_237 : gm_ft 115 237 = some (.aload_n 0, 1) := by decide +kernel
theorem r115_237 {E : Nat → Value} {d : Nat} {st : List Value} {h : gm_H} {r : gm_R × gm_H} {a1 a2 a3 a4 a5 a6 a7 : Value} {x : Nat} : gm_Go E d 115 237 [.ref x, a1, a2, a3, a4, a5, a6, a7] st h r ↔ gm_Go E d 115 238 [.ref x, a1, a2, a3, a4, a5, a6, a7] (.ref x :: st) h r := gr_loc m115 f115_237 rfl rfl
theorem r115_237n {E : Nat → Value} {d : Nat} {st : List Value} {h : gm_H} {r : gm_R × gm_H} {a1 a2 a3 a4 a5 a6 a7 : Value}  : gm_Go E d 115 237 [.null, a1, a2, a3, a4, a5, a6, a7] st h r ↔ gm_Go E d 115 238 [.null, a1, a2, a3, a4, a5, a6, a7] (.null :: st) h r := gr_loc m115 f115_237 rfl rfl
theorem f115_238 : gm_ft 115 238 = some (.getfield 96, 3) := by decide +kernel
theorem r115_238 {E : Nat → Value} {d : Nat} {st : List Value} {h : gm_H} {r : gm_R × gm_H} {lv : List Value} {a : Nat} {vs : List Value} {v : Value} (hr : gm_rd h a = some (5, vs)) (hv : vs[41]? = some v) : gm_Go E d 115 238 lv (.ref a :: st) h r ↔ gm_Go E d 115 241 lv (v :: st) h r := gr_rd m115 f115_238 rfl rfl rfl rfl (gf_get k5_96 hr hv)
theorem f115_241 : gm_ft 115 241 = some (.iload_n 1, 1) := by decide +kernel
theorem r115_241 {E : Nat → Value} {d : Nat} {st : List Value} {h : gm_H} {r : gm_R × gm_H} {a0 a2 a3 a4 a5 a6 a7 : Value} {x : Int32} : gm_Go E d 115 241 [a0, .int x, a2, a3, a4, a5, a6, a7] st h r ↔ gm_Go E d 115 242 [a0, .int x, a2, a3, a4, a5, a6, a7] (.int x :: st) h r := gr_loc m115 f115_241 rfl rfl
theorem f115_242 : gm_ft 115 242 = some (.iconst 4, 1) := by decide +kernel
theorem r115_242 {E : Nat → Value} {d : Nat} {st : List Value} {h : gm_H} {r : gm_R × gm_H} {lv : List Value} : gm_Go E d 115 242 lv st h r ↔ gm_Go E d 115 243 lv (.int (4 : Int32) :: st) h r := gr_pure m115 f115_242 rfl
theorem f115_243 : gm_ft 115 243 = some (.iastore, 1) := by decide +kernel
theorem r115_243 {E : Nat → Value} {d : Nat} {st : List Value} {h : gm_H} {r : gm_R × gm_H} {lv : List Value} {a k j : Nat} {vs : List Value} {x : Int32} (hr : gm_rd h a = some (k, vs)) (hk : 100 ≤ k ∧ k % 100 = 0 ∧ gm_ko k = 2 ∧ 2 < 3) (hj : j < 2 ^ 31) (hl : j < vs.length) : gm_Go E d 115 243 lv (.int x :: .int (nI j) :: .ref a :: st) h r ↔ gm_Go E d 115 244 lv st (gm_wr h a (k, vs.set j (.int x))) r := gr_wr m115 f115_243 rfl rfl rfl rfl rfl (ga_st hr hk hj hl)
theorem f115_244 : gm_ft 115 244 = some (.aload_n 0, 1) := by decide +kernel
theorem r115_244 {E : Nat → Value} {d : Nat} {st : List Value} {h : gm_H} {r : gm_R × gm_H} {a1 a2 a3 a4 a5 a6 a7 : Value} {x : Nat} : gm_Go E d 115 244 [.ref x, a1, a2, a3, a4, a5, a6, a7] st h r ↔ gm_Go E d 115 245 [.ref x, a1, a2, a3, a4, a5, a6, a7] (.ref x :: st) h r := gr_loc m115 f115_244 rfl rfl
theorem r115_244n {E : Nat → Value} {d : Nat} {st : List Value} {h : gm_H} {r : gm_R × gm_H} {a1 a2 a3 a4 a5 a6 a7 : Value}  : gm_Go E d 115 244 [.null, a1, a2, a3, a4, a5, a6, a7] st h r ↔ gm_Go E d 115 245 [.null, a1, a2, a3, a4, a5, a6, a7] (.null :: st) h r := gr_loc m115 f115_244 rfl rfl
theorem f115_245 : gm_ft 115 245 = some (.iload_n 1, 1) := by decide +kernel
theorem r115_245 {E : Nat → Value} {d : Nat} {st : List Value} {h : gm_H} {r : gm_R × gm_H} {a0 a2 a3 a4 a5 a6 a7 : Value} {x : Int32} : gm_Go E d 115 245 [a0, .int x, a2, a3, a4, a5, a6, a7] st h r ↔ gm_Go E d 115 246 [a0, .int x, a2, a3, a4, a5, a6, a7] (.int x :: st) h r := gr_loc m115 f115_245 rfl rfl
theorem f115_246 : gm_ft 115 246 = some (.invokevirtual 216, 3) := by decide +kernel
theorem n115_246 {st : List Value} {h : gm_H} {E : Nat → Value} {lv : List Value} {b0 : Value} {a : Nat} (hs : (st.map fun v => v.category).sum ≤ 8) (he : (gm_en1 [.ref a, b0]).length ≤ 2) {vs : List Value} (hr : gm_rd h a = some (5, vs)) : gm_next E 115 246 lv (b0 :: .ref a :: st) h = some (.inr (.inl (0, 116, [.ref a, b0], st))) := gn_call m115 f115_246 rfl rfl rfl rfl rfl rfl rfl (gc_virt (bs := [b0]) (w := 919) rfl rfl rfl rfl hs he hr) (by decide)
theorem f115_249 : gm_ft 115 249 = some (.return_, 1) := by decide +kernel
theorem r115_249 {E : Nat → Value} {d : Nat} {h : gm_H} {r : gm_R × gm_H} {lv : List Value} : gm_Go E d 115 249 lv [] h r ↔ r = (.inl none, h) := gr_ret m115 f115_249 rfl rfl rfl rfl rfl rfl rfl rfl rfl
/-! GraphReaderModel.element(I)V -/
theorem m116 : gm_mt[116]? = some (⟨"GraphReaderModel", "element", "(I)V"⟩, prog_7_method_26_code, 2, none, [], 5, 2) := rfl
theorem f116_0 : gm_ft 116 0 = some (.aload_n 0, 1) := by decide +kernel
theorem r116_0 {E : Nat → Value} {d : Nat} {st : List Value} {h : gm_H} {r : gm_R × gm_H} {a1 : Value} {x : Nat} : gm_Go E d 116 0 [.ref x, a1] st h r ↔ gm_Go E d 116 1 [.ref x, a1] (.ref x :: st) h r := gr_loc m116 f116_0 rfl rfl
theorem r116_0n {E : Nat → Value} {d : Nat} {st : List Value} {h : gm_H} {r : gm_R × gm_H} {a1 : Value}  : gm_Go E d 116 0 [.null, a1] st h r ↔ gm_Go E d 116 1 [.null, a1] (.null :: st) h r := gr_loc m116 f116_0 rfl rfl
theorem f116_1 : gm_ft 116 1 = some (.getfield 105, 3) := by decide +kernel
theorem r116_1 {E : Nat → Value} {d : Nat} {st : List Value} {h : gm_H} {r : gm_R × gm_H} {lv : List Value} {a : Nat} {vs : List Value} {v : Value} (hr : gm_rd h a = some (5, vs)) (hv : vs[44]? = some v) : gm_Go E d 116 1 lv (.ref a :: st) h r ↔ gm_Go E d 116 4 lv (v :: st) h r := gr_rd m116 f116_1 rfl rfl rfl rfl (gf_get k5_105 hr hv)
theorem f116_4 : gm_ft 116 4 = some (.iload_n 1, 1) := by decide +kernel
theorem r116_4 {E : Nat → Value} {d : Nat} {st : List Value} {h : gm_H} {r : gm_R × gm_H} {a0 : Value} {x : Int32} : gm_Go E d 116 4 [a0, .int x] st h r ↔ gm_Go E d 116 5 [a0, .int x] (.int x :: st) h r := gr_loc m116 f116_4 rfl rfl
theorem f116_5 : gm_ft 116 5 = some (.iaload, 1) := by decide +kernel
theorem r116_5 {E : Nat → Value} {d : Nat} {st : List Value} {h : gm_H} {r : gm_R × gm_H} {lv : List Value} {a k j : Nat} {vs : List Value} {v : Value} (hr : gm_rd h a = some (k, vs)) (hk : 100 ≤ k ∧ (fun t => t == 0) (k % 100) = true) (hj : j < 2 ^ 31) (hv : vs[j]? = some v) : gm_Go E d 116 5 lv (.int (nI j) :: .ref a :: st) h r ↔ gm_Go E d 116 6 lv (v :: st) h r := gr_rd m116 f116_5 rfl rfl rfl rfl (ga_ld (P := fun t => t == 0) hr hk hj hv)
theorem f116_6 : gm_ft 116 6 = some (.aload_n 0, 1) := by decide +kernel
theorem r116_6 {E : Nat → Value} {d : Nat} {st : List Value} {h : gm_H} {r : gm_R × gm_H} {a1 : Value} {x : Nat} : gm_Go E d 116 6 [.ref x, a1] st h r ↔ gm_Go E d 116 7 [.ref x, a1] (.ref x :: st) h r := gr_loc m116 f116_6 rfl rfl
theorem r116_6n {E : Nat → Value} {d : Nat} {st : List Value} {h : gm_H} {r : gm_R × gm_H} {a1 : Value}  : gm_Go E d 116 6 [.null, a1] st h r ↔ gm_Go E d 116 7 [.null, a1] (.null :: st) h r := gr_loc m116 f116_6 rfl rfl
theorem f116_7 : gm_ft 116 7 = some (.getfield 45, 3) := by decide +kernel
theorem r116_7 {E : Nat → Value} {d : Nat} {st : List Value} {h : gm_H} {r : gm_R × gm_H} {lv : List Value} {a : Nat} {vs : List Value} {v : Value} (hr : gm_rd h a = some (5, vs)) (hv : vs[20]? = some v) : gm_Go E d 116 7 lv (.ref a :: st) h r ↔ gm_Go E d 116 10 lv (v :: st) h r := gr_rd m116 f116_7 rfl rfl rfl rfl (gf_get k5_45 hr hv)
theorem f116_10 : gm_ft 116 10 = some (.aload_n 0, 1) := by decide +kernel
theorem r116_10 {E : Nat → Value} {d : Nat} {st : List Value} {h : gm_H} {r : gm_R × gm_H} {a1 : Value} {x : Nat} : gm_Go E d 116 10 [.ref x, a1] st h r ↔ gm_Go E d 116 11 [.ref x, a1] (.ref x :: st) h r := gr_loc m116 f116_10 rfl rfl
theorem r116_10n {E : Nat → Value} {d : Nat} {st : List Value} {h : gm_H} {r : gm_R × gm_H} {a1 : Value}  : gm_Go E d 116 10 [.null, a1] st h r ↔ gm_Go E d 116 11 [.null, a1] (.null :: st) h r := gr_loc m116 f116_10 rfl rfl
theorem f116_11 : gm_ft 116 11 = some (.getfield 102, 3) := by decide +kernel
theorem r116_11 {E : Nat → Value} {d : Nat} {st : List Value} {h : gm_H} {r : gm_R × gm_H} {lv : List Value} {a : Nat} {vs : List Value} {v : Value} (hr : gm_rd h a = some (5, vs)) (hv : vs[43]? = some v) : gm_Go E d 116 11 lv (.ref a :: st) h r ↔ gm_Go E d 116 14 lv (v :: st) h r := gr_rd m116 f116_11 rfl rfl rfl rfl (gf_get k5_102 hr hv)
theorem f116_14 : gm_ft 116 14 = some (.iload_n 1, 1) := by decide +kernel
theorem r116_14 {E : Nat → Value} {d : Nat} {st : List Value} {h : gm_H} {r : gm_R × gm_H} {a0 : Value} {x : Int32} : gm_Go E d 116 14 [a0, .int x] st h r ↔ gm_Go E d 116 15 [a0, .int x] (.int x :: st) h r := gr_loc m116 f116_14 rfl rfl
theorem f116_15 : gm_ft 116 15 = some (.iaload, 1) := by decide +kernel
theorem r116_15 {E : Nat → Value} {d : Nat} {st : List Value} {h : gm_H} {r : gm_R × gm_H} {lv : List Value} {a k j : Nat} {vs : List Value} {v : Value} (hr : gm_rd h a = some (k, vs)) (hk : 100 ≤ k ∧ (fun t => t == 0) (k % 100) = true) (hj : j < 2 ^ 31) (hv : vs[j]? = some v) : gm_Go E d 116 15 lv (.int (nI j) :: .ref a :: st) h r ↔ gm_Go E d 116 16 lv (v :: st) h r := gr_rd m116 f116_15 rfl rfl rfl rfl (ga_ld (P := fun t => t == 0) hr hk hj hv)
theorem f116_16 : gm_ft 116 16 = some (.iaload, 1) := by decide +kernel
theorem r116_16 {E : Nat → Value} {d : Nat} {st : List Value} {h : gm_H} {r : gm_R × gm_H} {lv : List Value} {a k j : Nat} {vs : List Value} {v : Value} (hr : gm_rd h a = some (k, vs)) (hk : 100 ≤ k ∧ (fun t => t == 0) (k % 100) = true) (hj : j < 2 ^ 31) (hv : vs[j]? = some v) : gm_Go E d 116 16 lv (.int (nI j) :: .ref a :: st) h r ↔ gm_Go E d 116 17 lv (v :: st) h r := gr_rd m116 f116_16 rfl rfl rfl rfl (ga_ld (P := fun t => t == 0) hr hk hj hv)
theorem f116_17 : gm_ft 116 17 = some (.if_icmp .ne 16, 3) := by decide +kernel
theorem r116_17 {E : Nat → Value} {d : Nat} {st : List Value} {h : gm_H} {r : gm_R × gm_H} {lv : List Value} {x y : Int32} : gm_Go E d 116 17 lv (.int y :: .int x :: st) h r ↔ (if x = y then gm_Go E d 116 20 lv st h r else gm_Go E d 116 33 lv st h r) := (gr_br m116 f116_17 rfl rfl rfl rfl).trans gr_ifn
theorem f116_20 : gm_ft 116 20 = some (.aload_n 0, 1) := by decide +kernel
theorem r116_20 {E : Nat → Value} {d : Nat} {st : List Value} {h : gm_H} {r : gm_R × gm_H} {a1 : Value} {x : Nat} : gm_Go E d 116 20 [.ref x, a1] st h r ↔ gm_Go E d 116 21 [.ref x, a1] (.ref x :: st) h r := gr_loc m116 f116_20 rfl rfl
theorem r116_20n {E : Nat → Value} {d : Nat} {st : List Value} {h : gm_H} {r : gm_R × gm_H} {a1 : Value}  : gm_Go E d 116 20 [.null, a1] st h r ↔ gm_Go E d 116 21 [.null, a1] (.null :: st) h r := gr_loc m116 f116_20 rfl rfl
theorem f116_21 : gm_ft 116 21 = some (.aload_n 0, 1) := by decide +kernel
theorem r116_21 {E : Nat → Value} {d : Nat} {st : List Value} {h : gm_H} {r : gm_R × gm_H} {a1 : Value} {x : Nat} : gm_Go E d 116 21 [.ref x, a1] st h r ↔ gm_Go E d 116 22 [.ref x, a1] (.ref x :: st) h r := gr_loc m116 f116_21 rfl rfl
theorem r116_21n {E : Nat → Value} {d : Nat} {st : List Value} {h : gm_H} {r : gm_R × gm_H} {a1 : Value}  : gm_Go E d 116 21 [.null, a1] st h r ↔ gm_Go E d 116 22 [.null, a1] (.null :: st) h r := gr_loc m116 f116_21 rfl rfl
theorem f116_22 : gm_ft 116 22 = some (.getfield 102, 3) := by decide +kernel
theorem r116_22 {E : Nat → Value} {d : Nat} {st : List Value} {h : gm_H} {r : gm_R × gm_H} {lv : List Value} {a : Nat} {vs : List Value} {v : Value} (hr : gm_rd h a = some (5, vs)) (hv : vs[43]? = some v) : gm_Go E d 116 22 lv (.ref a :: st) h r ↔ gm_Go E d 116 25 lv (v :: st) h r := gr_rd m116 f116_22 rfl rfl rfl rfl (gf_get k5_102 hr hv)
theorem f116_25 : gm_ft 116 25 = some (.iload_n 1, 1) := by decide +kernel
theorem r116_25 {E : Nat → Value} {d : Nat} {st : List Value} {h : gm_H} {r : gm_R × gm_H} {a0 : Value} {x : Int32} : gm_Go E d 116 25 [a0, .int x] st h r ↔ gm_Go E d 116 26 [a0, .int x] (.int x :: st) h r := gr_loc m116 f116_25 rfl rfl
theorem f116_26 : gm_ft 116 26 = some (.iaload, 1) := by decide +kernel
theorem r116_26 {E : Nat → Value} {d : Nat} {st : List Value} {h : gm_H} {r : gm_R × gm_H} {lv : List Value} {a k j : Nat} {vs : List Value} {v : Value} (hr : gm_rd h a = some (k, vs)) (hk : 100 ≤ k ∧ (fun t => t == 0) (k % 100) = true) (hj : j < 2 ^ 31) (hv : vs[j]? = some v) : gm_Go E d 116 26 lv (.int (nI j) :: .ref a :: st) h r ↔ gm_Go E d 116 27 lv (v :: st) h r := gr_rd m116 f116_26 rfl rfl rfl rfl (ga_ld (P := fun t => t == 0) hr hk hj hv)
theorem f116_27 : gm_ft 116 27 = some (.invokevirtual 182, 3) := by decide +kernel
theorem n116_27 {st : List Value} {h : gm_H} {E : Nat → Value} {lv : List Value} {b0 : Value} {a : Nat} (hs : (st.map fun v => v.category).sum ≤ 8) (he : (gm_en1 [.ref a, b0]).length ≤ 2) {vs : List Value} (hr : gm_rd h a = some (5, vs)) : gm_next E 116 27 lv (b0 :: .ref a :: st) h = some (.inr (.inl (0, 105, [.ref a, b0], st))) := gn_call m116 f116_27 rfl rfl rfl rfl rfl rfl rfl (gc_virt (bs := [b0]) (w := 872) rfl rfl rfl rfl hs he hr) (by decide)
theorem f116_30 : gm_ft 116 30 = some (.goto 18, 3) := by decide +kernel
theorem r116_30 {E : Nat → Value} {d : Nat} {st : List Value} {h : gm_H} {r : gm_R × gm_H} {lv : List Value} : gm_Go E d 116 30 lv st h r ↔ gm_Go E d 116 48 lv st h r := gr_brT m116 f116_30 rfl rfl rfl rfl
theorem f116_33 : gm_ft 116 33 = some (.aload_n 0, 1) := by decide +kernel
theorem r116_33 {E : Nat → Value} {d : Nat} {st : List Value} {h : gm_H} {r : gm_R × gm_H} {a1 : Value} {x : Nat} : gm_Go E d 116 33 [.ref x, a1] st h r ↔ gm_Go E d 116 34 [.ref x, a1] (.ref x :: st) h r := gr_loc m116 f116_33 rfl rfl
theorem r116_33n {E : Nat → Value} {d : Nat} {st : List Value} {h : gm_H} {r : gm_R × gm_H} {a1 : Value}  : gm_Go E d 116 33 [.null, a1] st h r ↔ gm_Go E d 116 34 [.null, a1] (.null :: st) h r := gr_loc m116 f116_33 rfl rfl
theorem f116_34 : gm_ft 116 34 = some (.iconst 1, 1) := by decide +kernel
theorem r116_34 {E : Nat → Value} {d : Nat} {st : List Value} {h : gm_H} {r : gm_R × gm_H} {lv : List Value} : gm_Go E d 116 34 lv st h r ↔ gm_Go E d 116 35 lv (.int (1 : Int32) :: st) h r := gr_pure m116 f116_34 rfl
theorem f116_35 : gm_ft 116 35 = some (.aload_n 0, 1) := by decide +kernel
theorem r116_35 {E : Nat → Value} {d : Nat} {st : List Value} {h : gm_H} {r : gm_R × gm_H} {a1 : Value} {x : Nat} : gm_Go E d 116 35 [.ref x, a1] st h r ↔ gm_Go E d 116 36 [.ref x, a1] (.ref x :: st) h r := gr_loc m116 f116_35 rfl rfl
theorem r116_35n {E : Nat → Value} {d : Nat} {st : List Value} {h : gm_H} {r : gm_R × gm_H} {a1 : Value}  : gm_Go E d 116 35 [.null, a1] st h r ↔ gm_Go E d 116 36 [.null, a1] (.null :: st) h r := gr_loc m116 f116_35 rfl rfl
theorem f116_36 : gm_ft 116 36 = some (.getfield 99, 3) := by decide +kernel
theorem r116_36 {E : Nat → Value} {d : Nat} {st : List Value} {h : gm_H} {r : gm_R × gm_H} {lv : List Value} {a : Nat} {vs : List Value} {v : Value} (hr : gm_rd h a = some (5, vs)) (hv : vs[42]? = some v) : gm_Go E d 116 36 lv (.ref a :: st) h r ↔ gm_Go E d 116 39 lv (v :: st) h r := gr_rd m116 f116_36 rfl rfl rfl rfl (gf_get k5_99 hr hv)
theorem f116_39 : gm_ft 116 39 = some (.iload_n 1, 1) := by decide +kernel
theorem r116_39 {E : Nat → Value} {d : Nat} {st : List Value} {h : gm_H} {r : gm_R × gm_H} {a0 : Value} {x : Int32} : gm_Go E d 116 39 [a0, .int x] st h r ↔ gm_Go E d 116 40 [a0, .int x] (.int x :: st) h r := gr_loc m116 f116_39 rfl rfl
theorem f116_40 : gm_ft 116 40 = some (.iaload, 1) := by decide +kernel
theorem r116_40 {E : Nat → Value} {d : Nat} {st : List Value} {h : gm_H} {r : gm_R × gm_H} {lv : List Value} {a k j : Nat} {vs : List Value} {v : Value} (hr : gm_rd h a = some (k, vs)) (hk : 100 ≤ k ∧ (fun t => t == 0) (k % 100) = true) (hj : j < 2 ^ 31) (hv : vs[j]? = some v) : gm_Go E d 116 40 lv (.int (nI j) :: .ref a :: st) h r ↔ gm_Go E d 116 41 lv (v :: st) h r := gr_rd m116 f116_40 rfl rfl rfl rfl (ga_ld (P := fun t => t == 0) hr hk hj hv)
theorem f116_41 : gm_ft 116 41 = some (.iconst 1, 1) := by decide +kernel
theorem r116_41 {E : Nat → Value} {d : Nat} {st : List Value} {h : gm_H} {r : gm_R × gm_H} {lv : List Value} : gm_Go E d 116 41 lv st h r ↔ gm_Go E d 116 42 lv (.int (1 : Int32) :: st) h r := gr_pure m116 f116_41 rfl
theorem f116_42 : gm_ft 116 42 = some (.iadd, 1) := by decide +kernel
theorem r116_42 {E : Nat → Value} {d : Nat} {st : List Value} {h : gm_H} {r : gm_R × gm_H} {lv : List Value} {x y : Int32} : gm_Go E d 116 42 lv (.int y :: .int x :: st) h r ↔ gm_Go E d 116 43 lv (.int (x + y) :: st) h r := gr_pure m116 f116_42 rfl
theorem f116_43 : gm_ft 116 43 = some (.iconst 0, 1) := by decide +kernel
theorem r116_43 {E : Nat → Value} {d : Nat} {st : List Value} {h : gm_H} {r : gm_R × gm_H} {lv : List Value} : gm_Go E d 116 43 lv st h r ↔ gm_Go E d 116 44 lv (.int (0 : Int32) :: st) h r := gr_pure m116 f116_43 rfl
theorem f116_44 : gm_ft 116 44 = some (.iconst 0, 1) := by decide +kernel
theorem r116_44 {E : Nat → Value} {d : Nat} {st : List Value} {h : gm_H} {r : gm_R × gm_H} {lv : List Value} : gm_Go E d 116 44 lv st h r ↔ gm_Go E d 116 45 lv (.int (0 : Int32) :: st) h r := gr_pure m116 f116_44 rfl
theorem f116_45 : gm_ft 116 45 = some (.invokevirtual 200, 3) := by decide +kernel
theorem n116_45 {st : List Value} {h : gm_H} {E : Nat → Value} {lv : List Value} {b0 b1 b2 b3 : Value} {a : Nat} (hs : (st.map fun v => v.category).sum ≤ 8) (he : (gm_en1 [.ref a, b0, b1, b2, b3]).length ≤ 5) {vs : List Value} (hr : gm_rd h a = some (5, vs)) : gm_next E 116 45 lv (b3 :: b2 :: b1 :: b0 :: .ref a :: st) h = some (.inr (.inl (0, 101, [.ref a, b0, b1, b2, b3], st))) := gn_call m116 f116_45 rfl rfl rfl rfl rfl rfl rfl (gc_virt (bs := [b3, b2, b1, b0]) (w := 856) rfl rfl rfl rfl hs he hr) (by decide)
theorem f116_48 : gm_ft 116 48 = some (.return_, 1) := by decide +kernel
theorem r116_48 {E : Nat → Value} {d : Nat} {h : gm_H} {r : gm_R × gm_H} {lv : List Value} : gm_Go E d 116 48 lv [] h r ↔ r = (.inl none, h) := gr_ret m116 f116_48 rfl rfl rfl rfl rfl rfl rfl rfl rfl
/-! GraphReaderModel.newConstant(I)V -/
theorem m117 : gm_mt[117]? = some (⟨"GraphReaderModel", "newConstant", "(I)V"⟩, prog_7_method_27_code, 3, none, [], 5, 2) := rfl
theorem f117_0 : gm_ft 117 0 = some (.aload_n 0, 1) := by decide +kernel
theorem r117_0 {E : Nat → Value} {d : Nat} {st : List Value} {h : gm_H} {r : gm_R × gm_H} {a1 a2 : Value} {x : Nat} : gm_Go E d 117 0 [.ref x, a1, a2] st h r ↔ gm_Go E d 117 1 [.ref x, a1, a2] (.ref x :: st) h r := gr_loc m117 f117_0 rfl rfl
theorem r117_0n {E : Nat → Value} {d : Nat} {st : List Value} {h : gm_H} {r : gm_R × gm_H} {a1 a2 : Value}  : gm_Go E d 117 0 [.null, a1, a2] st h r ↔ gm_Go E d 117 1 [.null, a1, a2] (.null :: st) h r := gr_loc m117 f117_0 rfl rfl
theorem f117_1 : gm_ft 117 1 = some (.getfield 178, 3) := by decide +kernel
theorem r117_1 {E : Nat → Value} {d : Nat} {st : List Value} {h : gm_H} {r : gm_R × gm_H} {lv : List Value} {a : Nat} {vs : List Value} {v : Value} (hr : gm_rd h a = some (5, vs)) (hv : vs[9]? = some v) : gm_Go E d 117 1 lv (.ref a :: st) h r ↔ gm_Go E d 117 4 lv (v :: st) h r := gr_rd m117 f117_1 rfl rfl rfl rfl (gf_get k5_178 hr hv)
theorem f117_4 : gm_ft 117 4 = some (.istore_n 2, 1) := by decide +kernel
theorem r117_4 {E : Nat → Value} {d : Nat} {st : List Value} {h : gm_H} {r : gm_R × gm_H} {a0 a1 a2 : Value} {x : Int32} : gm_Go E d 117 4 [a0, a1, a2] (.int x :: st) h r ↔ gm_Go E d 117 5 [a0, gm_k a1, .int x] st h r := gr_loc m117 f117_4 rfl rfl
theorem f117_5 : gm_ft 117 5 = some (.iload_n 2, 1) := by decide +kernel
theorem r117_5 {E : Nat → Value} {d : Nat} {st : List Value} {h : gm_H} {r : gm_R × gm_H} {a0 a1 : Value} {x : Int32} : gm_Go E d 117 5 [a0, a1, .int x] st h r ↔ gm_Go E d 117 6 [a0, a1, .int x] (.int x :: st) h r := gr_loc m117 f117_5 rfl rfl
theorem f117_6 : gm_ft 117 6 = some (.bipush (-2), 2) := by decide +kernel
theorem r117_6 {E : Nat → Value} {d : Nat} {st : List Value} {h : gm_H} {r : gm_R × gm_H} {lv : List Value} : gm_Go E d 117 6 lv st h r ↔ gm_Go E d 117 8 lv (.int (-2 : Int32) :: st) h r := gr_pure m117 f117_6 rfl
theorem f117_8 : gm_ft 117 8 = some (.if_icmp .ne 9, 3) := by decide +kernel
theorem r117_8 {E : Nat → Value} {d : Nat} {st : List Value} {h : gm_H} {r : gm_R × gm_H} {lv : List Value} {x y : Int32} : gm_Go E d 117 8 lv (.int y :: .int x :: st) h r ↔ (if x = y then gm_Go E d 117 11 lv st h r else gm_Go E d 117 17 lv st h r) := (gr_br m117 f117_8 rfl rfl rfl rfl).trans gr_ifn
theorem f117_11 : gm_ft 117 11 = some (.aload_n 0, 1) := by decide +kernel
theorem r117_11 {E : Nat → Value} {d : Nat} {st : List Value} {h : gm_H} {r : gm_R × gm_H} {a1 a2 : Value} {x : Nat} : gm_Go E d 117 11 [.ref x, a1, a2] st h r ↔ gm_Go E d 117 12 [.ref x, a1, a2] (.ref x :: st) h r := gr_loc m117 f117_11 rfl rfl
theorem r117_11n {E : Nat → Value} {d : Nat} {st : List Value} {h : gm_H} {r : gm_R × gm_H} {a1 a2 : Value}  : gm_Go E d 117 11 [.null, a1, a2] st h r ↔ gm_Go E d 117 12 [.null, a1, a2] (.null :: st) h r := gr_loc m117 f117_11 rfl rfl
theorem f117_12 : gm_ft 117 12 = some (.bipush (-4), 2) := by decide +kernel
theorem r117_12 {E : Nat → Value} {d : Nat} {st : List Value} {h : gm_H} {r : gm_R × gm_H} {lv : List Value} : gm_Go E d 117 12 lv st h r ↔ gm_Go E d 117 14 lv (.int (-4 : Int32) :: st) h r := gr_pure m117 f117_12 rfl
theorem f117_14 : gm_ft 117 14 = some (.invokevirtual 151, 3) := by decide +kernel
theorem n117_14 {st : List Value} {h : gm_H} {E : Nat → Value} {lv : List Value} {b0 : Value} {a : Nat} (hs : (st.map fun v => v.category).sum ≤ 8) (he : (gm_en1 [.ref a, b0]).length ≤ 2) {vs : List Value} (hr : gm_rd h a = some (5, vs)) : gm_next E 117 14 lv (b0 :: .ref a :: st) h = some (.inr (.inl (0, 98, [.ref a, b0], st))) := gn_call m117 f117_14 rfl rfl rfl rfl rfl rfl rfl (gc_virt (bs := [b0]) (w := 844) rfl rfl rfl rfl hs he hr) (by decide)
theorem f117_17 : gm_ft 117 17 = some (.aload_n 0, 1) := by decide +kernel
theorem r117_17 {E : Nat → Value} {d : Nat} {st : List Value} {h : gm_H} {r : gm_R × gm_H} {a1 a2 : Value} {x : Nat} : gm_Go E d 117 17 [.ref x, a1, a2] st h r ↔ gm_Go E d 117 18 [.ref x, a1, a2] (.ref x :: st) h r := gr_loc m117 f117_17 rfl rfl
theorem r117_17n {E : Nat → Value} {d : Nat} {st : List Value} {h : gm_H} {r : gm_R × gm_H} {a1 a2 : Value}  : gm_Go E d 117 17 [.null, a1, a2] st h r ↔ gm_Go E d 117 18 [.null, a1, a2] (.null :: st) h r := gr_loc m117 f117_17 rfl rfl
theorem f117_18 : gm_ft 117 18 = some (.getfield 145, 3) := by decide +kernel
theorem r117_18 {E : Nat → Value} {d : Nat} {st : List Value} {h : gm_H} {r : gm_R × gm_H} {lv : List Value} {a : Nat} {vs : List Value} {v : Value} (hr : gm_rd h a = some (5, vs)) (hv : vs[8]? = some v) : gm_Go E d 117 18 lv (.ref a :: st) h r ↔ gm_Go E d 117 21 lv (v :: st) h r := gr_rd m117 f117_18 rfl rfl rfl rfl (gf_get k5_145 hr hv)
theorem f117_21 : gm_ft 117 21 = some (.ifCond .ne 18, 3) := by decide +kernel
theorem r117_21 {E : Nat → Value} {d : Nat} {st : List Value} {h : gm_H} {r : gm_R × gm_H} {lv : List Value} {x : Int32} : gm_Go E d 117 21 lv (.int x :: st) h r ↔ (if x = 0 then gm_Go E d 117 24 lv st h r else gm_Go E d 117 39 lv st h r) := (gr_br m117 f117_21 rfl rfl rfl rfl).trans gr_ifn
theorem f117_24 : gm_ft 117 24 = some (.aload_n 0, 1) := by decide +kernel
theorem r117_24 {E : Nat → Value} {d : Nat} {st : List Value} {h : gm_H} {r : gm_R × gm_H} {a1 a2 : Value} {x : Nat} : gm_Go E d 117 24 [.ref x, a1, a2] st h r ↔ gm_Go E d 117 25 [.ref x, a1, a2] (.ref x :: st) h r := gr_loc m117 f117_24 rfl rfl
theorem r117_24n {E : Nat → Value} {d : Nat} {st : List Value} {h : gm_H} {r : gm_R × gm_H} {a1 a2 : Value}  : gm_Go E d 117 24 [.null, a1, a2] st h r ↔ gm_Go E d 117 25 [.null, a1, a2] (.null :: st) h r := gr_loc m117 f117_24 rfl rfl
theorem f117_25 : gm_ft 117 25 = some (.aload_n 0, 1) := by decide +kernel
theorem r117_25 {E : Nat → Value} {d : Nat} {st : List Value} {h : gm_H} {r : gm_R × gm_H} {a1 a2 : Value} {x : Nat} : gm_Go E d 117 25 [.ref x, a1, a2] st h r ↔ gm_Go E d 117 26 [.ref x, a1, a2] (.ref x :: st) h r := gr_loc m117 f117_25 rfl rfl
theorem r117_25n {E : Nat → Value} {d : Nat} {st : List Value} {h : gm_H} {r : gm_R × gm_H} {a1 a2 : Value}  : gm_Go E d 117 25 [.null, a1, a2] st h r ↔ gm_Go E d 117 26 [.null, a1, a2] (.null :: st) h r := gr_loc m117 f117_25 rfl rfl
theorem f117_26 : gm_ft 117 26 = some (.getfield 99, 3) := by decide +kernel
theorem r117_26 {E : Nat → Value} {d : Nat} {st : List Value} {h : gm_H} {r : gm_R × gm_H} {lv : List Value} {a : Nat} {vs : List Value} {v : Value} (hr : gm_rd h a = some (5, vs)) (hv : vs[42]? = some v) : gm_Go E d 117 26 lv (.ref a :: st) h r ↔ gm_Go E d 117 29 lv (v :: st) h r := gr_rd m117 f117_26 rfl rfl rfl rfl (gf_get k5_99 hr hv)
theorem f117_29 : gm_ft 117 29 = some (.iload_n 1, 1) := by decide +kernel
theorem r117_29 {E : Nat → Value} {d : Nat} {st : List Value} {h : gm_H} {r : gm_R × gm_H} {a0 a2 : Value} {x : Int32} : gm_Go E d 117 29 [a0, .int x, a2] st h r ↔ gm_Go E d 117 30 [a0, .int x, a2] (.int x :: st) h r := gr_loc m117 f117_29 rfl rfl
theorem f117_30 : gm_ft 117 30 = some (.iaload, 1) := by decide +kernel
theorem r117_30 {E : Nat → Value} {d : Nat} {st : List Value} {h : gm_H} {r : gm_R × gm_H} {lv : List Value} {a k j : Nat} {vs : List Value} {v : Value} (hr : gm_rd h a = some (k, vs)) (hk : 100 ≤ k ∧ (fun t => t == 0) (k % 100) = true) (hj : j < 2 ^ 31) (hv : vs[j]? = some v) : gm_Go E d 117 30 lv (.int (nI j) :: .ref a :: st) h r ↔ gm_Go E d 117 31 lv (v :: st) h r := gr_rd m117 f117_30 rfl rfl rfl rfl (ga_ld (P := fun t => t == 0) hr hk hj hv)
theorem f117_31 : gm_ft 117 31 = some (.iconst 0, 1) := by decide +kernel
theorem r117_31 {E : Nat → Value} {d : Nat} {st : List Value} {h : gm_H} {r : gm_R × gm_H} {lv : List Value} : gm_Go E d 117 31 lv st h r ↔ gm_Go E d 117 32 lv (.int (0 : Int32) :: st) h r := gr_pure m117 f117_31 rfl
theorem f117_32 : gm_ft 117 32 = some (.iload_n 2, 1) := by decide +kernel
theorem r117_32 {E : Nat → Value} {d : Nat} {st : List Value} {h : gm_H} {r : gm_R × gm_H} {a0 a1 : Value} {x : Int32} : gm_Go E d 117 32 [a0, a1, .int x] st h r ↔ gm_Go E d 117 33 [a0, a1, .int x] (.int x :: st) h r := gr_loc m117 f117_32 rfl rfl
theorem f117_33 : gm_ft 117 33 = some (.invokevirtual 204, 3) := by decide +kernel
theorem n117_33 {st : List Value} {h : gm_H} {E : Nat → Value} {lv : List Value} {b0 b1 b2 : Value} {a : Nat} (hs : (st.map fun v => v.category).sum ≤ 8) (he : (gm_en1 [.ref a, b0, b1, b2]).length ≤ 5) {vs : List Value} (hr : gm_rd h a = some (5, vs)) : gm_next E 117 33 lv (b2 :: b1 :: b0 :: .ref a :: st) h = some (.inr (.inl (0, 112, [.ref a, b0, b1, b2], st))) := gn_call m117 f117_33 rfl rfl rfl rfl rfl rfl rfl (gc_virt (bs := [b2, b1, b0]) (w := 901) rfl rfl rfl rfl hs he hr) (by decide)
theorem f117_36 : gm_ft 117 36 = some (.ifCond .ne 4, 3) := by decide +kernel
theorem r117_36 {E : Nat → Value} {d : Nat} {st : List Value} {h : gm_H} {r : gm_R × gm_H} {lv : List Value} {x : Int32} : gm_Go E d 117 36 lv (.int x :: st) h r ↔ (if x = 0 then gm_Go E d 117 39 lv st h r else gm_Go E d 117 40 lv st h r) := (gr_br m117 f117_36 rfl rfl rfl rfl).trans gr_ifn
theorem f117_39 : gm_ft 117 39 = some (.return_, 1) := by decide +kernel
theorem r117_39 {E : Nat → Value} {d : Nat} {h : gm_H} {r : gm_R × gm_H} {lv : List Value} : gm_Go E d 117 39 lv [] h r ↔ r = (.inl none, h) := gr_ret m117 f117_39 rfl rfl rfl rfl rfl rfl rfl rfl rfl
theorem f117_40 : gm_ft 117 40 = some (.aload_n 0, 1) := by decide +kernel
theorem r117_40 {E : Nat → Value} {d : Nat} {st : List Value} {h : gm_H} {r : gm_R × gm_H} {a1 a2 : Value} {x : Nat} : gm_Go E d 117 40 [.ref x, a1, a2] st h r ↔ gm_Go E d 117 41 [.ref x, a1, a2] (.ref x :: st) h r := gr_loc m117 f117_40 rfl rfl
theorem r117_40n {E : Nat → Value} {d : Nat} {st : List Value} {h : gm_H} {r : gm_R × gm_H} {a1 a2 : Value}  : gm_Go E d 117 40 [.null, a1, a2] st h r ↔ gm_Go E d 117 41 [.null, a1, a2] (.null :: st) h r := gr_loc m117 f117_40 rfl rfl
theorem f117_41 : gm_ft 117 41 = some (.getfield 75, 3) := by decide +kernel
theorem r117_41 {E : Nat → Value} {d : Nat} {st : List Value} {h : gm_H} {r : gm_R × gm_H} {lv : List Value} {a : Nat} {vs : List Value} {v : Value} (hr : gm_rd h a = some (5, vs)) (hv : vs[33]? = some v) : gm_Go E d 117 41 lv (.ref a :: st) h r ↔ gm_Go E d 117 44 lv (v :: st) h r := gr_rd m117 f117_41 rfl rfl rfl rfl (gf_get k5_75 hr hv)
theorem f117_44 : gm_ft 117 44 = some (.iload_n 2, 1) := by decide +kernel
theorem r117_44 {E : Nat → Value} {d : Nat} {st : List Value} {h : gm_H} {r : gm_R × gm_H} {a0 a1 : Value} {x : Int32} : gm_Go E d 117 44 [a0, a1, .int x] st h r ↔ gm_Go E d 117 45 [a0, a1, .int x] (.int x :: st) h r := gr_loc m117 f117_44 rfl rfl
theorem f117_45 : gm_ft 117 45 = some (.iaload, 1) := by decide +kernel
theorem r117_45 {E : Nat → Value} {d : Nat} {st : List Value} {h : gm_H} {r : gm_R × gm_H} {lv : List Value} {a k j : Nat} {vs : List Value} {v : Value} (hr : gm_rd h a = some (k, vs)) (hk : 100 ≤ k ∧ (fun t => t == 0) (k % 100) = true) (hj : j < 2 ^ 31) (hv : vs[j]? = some v) : gm_Go E d 117 45 lv (.int (nI j) :: .ref a :: st) h r ↔ gm_Go E d 117 46 lv (v :: st) h r := gr_rd m117 f117_45 rfl rfl rfl rfl (ga_ld (P := fun t => t == 0) hr hk hj hv)
theorem f117_46 : gm_ft 117 46 = some (.bipush 16, 2) := by decide +kernel
theorem r117_46 {E : Nat → Value} {d : Nat} {st : List Value} {h : gm_H} {r : gm_R × gm_H} {lv : List Value} : gm_Go E d 117 46 lv st h r ↔ gm_Go E d 117 48 lv (.int (16 : Int32) :: st) h r := gr_pure m117 f117_46 rfl
theorem f117_48 : gm_ft 117 48 = some (.iand, 1) := by decide +kernel
theorem r117_48 {E : Nat → Value} {d : Nat} {st : List Value} {h : gm_H} {r : gm_R × gm_H} {lv : List Value} {x y : Int32} : gm_Go E d 117 48 lv (.int y :: .int x :: st) h r ↔ gm_Go E d 117 49 lv (.int (x &&& y) :: st) h r := gr_pure m117 f117_48 rfl
theorem f117_49 : gm_ft 117 49 = some (.ifCond .ne 12, 3) := by decide +kernel
theorem r117_49 {E : Nat → Value} {d : Nat} {st : List Value} {h : gm_H} {r : gm_R × gm_H} {lv : List Value} {x : Int32} : gm_Go E d 117 49 lv (.int x :: st) h r ↔ (if x = 0 then gm_Go E d 117 52 lv st h r else gm_Go E d 117 61 lv st h r) := (gr_br m117 f117_49 rfl rfl rfl rfl).trans gr_ifn
theorem f117_52 : gm_ft 117 52 = some (.aload_n 0, 1) := by decide +kernel
theorem r117_52 {E : Nat → Value} {d : Nat} {st : List Value} {h : gm_H} {r : gm_R × gm_H} {a1 a2 : Value} {x : Nat} : gm_Go E d 117 52 [.ref x, a1, a2] st h r ↔ gm_Go E d 117 53 [.ref x, a1, a2] (.ref x :: st) h r := gr_loc m117 f117_52 rfl rfl
theorem r117_52n {E : Nat → Value} {d : Nat} {st : List Value} {h : gm_H} {r : gm_R × gm_H} {a1 a2 : Value}  : gm_Go E d 117 52 [.null, a1, a2] st h r ↔ gm_Go E d 117 53 [.null, a1, a2] (.null :: st) h r := gr_loc m117 f117_52 rfl rfl
theorem f117_53 : gm_ft 117 53 = some (.bipush (-5), 2) := by decide +kernel
theorem r117_53 {E : Nat → Value} {d : Nat} {st : List Value} {h : gm_H} {r : gm_R × gm_H} {lv : List Value} : gm_Go E d 117 53 lv st h r ↔ gm_Go E d 117 55 lv (.int (-5 : Int32) :: st) h r := gr_pure m117 f117_53 rfl
theorem f117_55 : gm_ft 117 55 = some (.invokevirtual 151, 3) := by decide +kernel
theorem n117_55 {st : List Value} {h : gm_H} {E : Nat → Value} {lv : List Value} {b0 : Value} {a : Nat} (hs : (st.map fun v => v.category).sum ≤ 8) (he : (gm_en1 [.ref a, b0]).length ≤ 2) {vs : List Value} (hr : gm_rd h a = some (5, vs)) : gm_next E 117 55 lv (b0 :: .ref a :: st) h = some (.inr (.inl (0, 98, [.ref a, b0], st))) := gn_call m117 f117_55 rfl rfl rfl rfl rfl rfl rfl (gc_virt (bs := [b0]) (w := 844) rfl rfl rfl rfl hs he hr) (by decide)
theorem f117_58 : gm_ft 117 58 = some (.goto 18, 3) := by decide +kernel
theorem r117_58 {E : Nat → Value} {d : Nat} {st : List Value} {h : gm_H} {r : gm_R × gm_H} {lv : List Value} : gm_Go E d 117 58 lv st h r ↔ gm_Go E d 117 76 lv st h r := gr_brT m117 f117_58 rfl rfl rfl rfl
theorem f117_61 : gm_ft 117 61 = some (.aload_n 0, 1) := by decide +kernel
theorem r117_61 {E : Nat → Value} {d : Nat} {st : List Value} {h : gm_H} {r : gm_R × gm_H} {a1 a2 : Value} {x : Nat} : gm_Go E d 117 61 [.ref x, a1, a2] st h r ↔ gm_Go E d 117 62 [.ref x, a1, a2] (.ref x :: st) h r := gr_loc m117 f117_61 rfl rfl
theorem r117_61n {E : Nat → Value} {d : Nat} {st : List Value} {h : gm_H} {r : gm_R × gm_H} {a1 a2 : Value}  : gm_Go E d 117 61 [.null, a1, a2] st h r ↔ gm_Go E d 117 62 [.null, a1, a2] (.null :: st) h r := gr_loc m117 f117_61 rfl rfl
theorem f117_62 : gm_ft 117 62 = some (.getfield 69, 3) := by decide +kernel
theorem r117_62 {E : Nat → Value} {d : Nat} {st : List Value} {h : gm_H} {r : gm_R × gm_H} {lv : List Value} {a : Nat} {vs : List Value} {v : Value} (hr : gm_rd h a = some (5, vs)) (hv : vs[31]? = some v) : gm_Go E d 117 62 lv (.ref a :: st) h r ↔ gm_Go E d 117 65 lv (v :: st) h r := gr_rd m117 f117_62 rfl rfl rfl rfl (gf_get k5_69 hr hv)
theorem f117_65 : gm_ft 117 65 = some (.iload_n 2, 1) := by decide +kernel
theorem r117_65 {E : Nat → Value} {d : Nat} {st : List Value} {h : gm_H} {r : gm_R × gm_H} {a0 a1 : Value} {x : Int32} : gm_Go E d 117 65 [a0, a1, .int x] st h r ↔ gm_Go E d 117 66 [a0, a1, .int x] (.int x :: st) h r := gr_loc m117 f117_65 rfl rfl
theorem f117_66 : gm_ft 117 66 = some (.iaload, 1) := by decide +kernel
theorem r117_66 {E : Nat → Value} {d : Nat} {st : List Value} {h : gm_H} {r : gm_R × gm_H} {lv : List Value} {a k j : Nat} {vs : List Value} {v : Value} (hr : gm_rd h a = some (k, vs)) (hk : 100 ≤ k ∧ (fun t => t == 0) (k % 100) = true) (hj : j < 2 ^ 31) (hv : vs[j]? = some v) : gm_Go E d 117 66 lv (.int (nI j) :: .ref a :: st) h r ↔ gm_Go E d 117 67 lv (v :: st) h r := gr_rd m117 f117_66 rfl rfl rfl rfl (ga_ld (P := fun t => t == 0) hr hk hj hv)
theorem f117_67 : gm_ft 117 67 = some (.ifCond .ge 9, 3) := by decide +kernel
theorem r117_67 {E : Nat → Value} {d : Nat} {st : List Value} {h : gm_H} {r : gm_R × gm_H} {lv : List Value} {x : Int32} : gm_Go E d 117 67 lv (.int x :: st) h r ↔ (if 0 ≤ x then gm_Go E d 117 76 lv st h r else gm_Go E d 117 70 lv st h r) := (gr_br m117 f117_67 rfl rfl rfl rfl).trans gr_if
theorem f117_70 : gm_ft 117 70 = some (.aload_n 0, 1) := by decide +kernel
theorem r117_70 {E : Nat → Value} {d : Nat} {st : List Value} {h : gm_H} {r : gm_R × gm_H} {a1 a2 : Value} {x : Nat} : gm_Go E d 117 70 [.ref x, a1, a2] st h r ↔ gm_Go E d 117 71 [.ref x, a1, a2] (.ref x :: st) h r := gr_loc m117 f117_70 rfl rfl
theorem r117_70n {E : Nat → Value} {d : Nat} {st : List Value} {h : gm_H} {r : gm_R × gm_H} {a1 a2 : Value}  : gm_Go E d 117 70 [.null, a1, a2] st h r ↔ gm_Go E d 117 71 [.null, a1, a2] (.null :: st) h r := gr_loc m117 f117_70 rfl rfl
theorem f117_71 : gm_ft 117 71 = some (.bipush (-9), 2) := by decide +kernel
theorem r117_71 {E : Nat → Value} {d : Nat} {st : List Value} {h : gm_H} {r : gm_R × gm_H} {lv : List Value} : gm_Go E d 117 71 lv st h r ↔ gm_Go E d 117 73 lv (.int (-9 : Int32) :: st) h r := gr_pure m117 f117_71 rfl
theorem f117_73 : gm_ft 117 73 = some (.invokevirtual 151, 3) := by decide +kernel
theorem n117_73 {st : List Value} {h : gm_H} {E : Nat → Value} {lv : List Value} {b0 : Value} {a : Nat} (hs : (st.map fun v => v.category).sum ≤ 8) (he : (gm_en1 [.ref a, b0]).length ≤ 2) {vs : List Value} (hr : gm_rd h a = some (5, vs)) : gm_next E 117 73 lv (b0 :: .ref a :: st) h = some (.inr (.inl (0, 98, [.ref a, b0], st))) := gn_call m117 f117_73 rfl rfl rfl rfl rfl rfl rfl (gc_virt (bs := [b0]) (w := 844) rfl rfl rfl rfl hs he hr) (by decide)
theorem f117_76 : gm_ft 117 76 = some (.aload_n 0, 1) := by decide +kernel
theorem r117_76 {E : Nat → Value} {d : Nat} {st : List Value} {h : gm_H} {r : gm_R × gm_H} {a1 a2 : Value} {x : Nat} : gm_Go E d 117 76 [.ref x, a1, a2] st h r ↔ gm_Go E d 117 77 [.ref x, a1, a2] (.ref x :: st) h r := gr_loc m117 f117_76 rfl rfl
theorem r117_76n {E : Nat → Value} {d : Nat} {st : List Value} {h : gm_H} {r : gm_R × gm_H} {a1 a2 : Value}  : gm_Go E d 117 76 [.null, a1, a2] st h r ↔ gm_Go E d 117 77 [.null, a1, a2] (.null :: st) h r := gr_loc m117 f117_76 rfl rfl
theorem f117_77 : gm_ft 117 77 = some (.getfield 145, 3) := by decide +kernel
theorem r117_77 {E : Nat → Value} {d : Nat} {st : List Value} {h : gm_H} {r : gm_R × gm_H} {lv : List Value} {a : Nat} {vs : List Value} {v : Value} (hr : gm_rd h a = some (5, vs)) (hv : vs[8]? = some v) : gm_Go E d 117 77 lv (.ref a :: st) h r ↔ gm_Go E d 117 80 lv (v :: st) h r := gr_rd m117 f117_77 rfl rfl rfl rfl (gf_get k5_145 hr hv)
theorem f117_80 : gm_ft 117 80 = some (.ifCond .eq 4, 3) := by decide +kernel
theorem r117_80 {E : Nat → Value} {d : Nat} {st : List Value} {h : gm_H} {r : gm_R × gm_H} {lv : List Value} {x : Int32} : gm_Go E d 117 80 lv (.int x :: st) h r ↔ (if x = 0 then gm_Go E d 117 84 lv st h r else gm_Go E d 117 83 lv st h r) := (gr_br m117 f117_80 rfl rfl rfl rfl).trans gr_if
theorem f117_83 : gm_ft 117 83 = some (.return_, 1) := by decide +kernel
theorem r117_83 {E : Nat → Value} {d : Nat} {h : gm_H} {r : gm_R × gm_H} {lv : List Value} : gm_Go E d 117 83 lv [] h r ↔ r = (.inl none, h) := gr_ret m117 f117_83 rfl rfl rfl rfl rfl rfl rfl rfl rfl
theorem f117_84 : gm_ft 117 84 = some (.aload_n 0, 1) := by decide +kernel
theorem r117_84 {E : Nat → Value} {d : Nat} {st : List Value} {h : gm_H} {r : gm_R × gm_H} {a1 a2 : Value} {x : Nat} : gm_Go E d 117 84 [.ref x, a1, a2] st h r ↔ gm_Go E d 117 85 [.ref x, a1, a2] (.ref x :: st) h r := gr_loc m117 f117_84 rfl rfl
theorem r117_84n {E : Nat → Value} {d : Nat} {st : List Value} {h : gm_H} {r : gm_R × gm_H} {a1 a2 : Value}  : gm_Go E d 117 84 [.null, a1, a2] st h r ↔ gm_Go E d 117 85 [.null, a1, a2] (.null :: st) h r := gr_loc m117 f117_84 rfl rfl
theorem f117_85 : gm_ft 117 85 = some (.getfield 102, 3) := by decide +kernel
theorem r117_85 {E : Nat → Value} {d : Nat} {st : List Value} {h : gm_H} {r : gm_R × gm_H} {lv : List Value} {a : Nat} {vs : List Value} {v : Value} (hr : gm_rd h a = some (5, vs)) (hv : vs[43]? = some v) : gm_Go E d 117 85 lv (.ref a :: st) h r ↔ gm_Go E d 117 88 lv (v :: st) h r := gr_rd m117 f117_85 rfl rfl rfl rfl (gf_get k5_102 hr hv)
theorem f117_88 : gm_ft 117 88 = some (.iload_n 1, 1) := by decide +kernel
theorem r117_88 {E : Nat → Value} {d : Nat} {st : List Value} {h : gm_H} {r : gm_R × gm_H} {a0 a2 : Value} {x : Int32} : gm_Go E d 117 88 [a0, .int x, a2] st h r ↔ gm_Go E d 117 89 [a0, .int x, a2] (.int x :: st) h r := gr_loc m117 f117_88 rfl rfl
theorem f117_89 : gm_ft 117 89 = some (.aload_n 0, 1) := by decide +kernel
theorem r117_89 {E : Nat → Value} {d : Nat} {st : List Value} {h : gm_H} {r : gm_R × gm_H} {a1 a2 : Value} {x : Nat} : gm_Go E d 117 89 [.ref x, a1, a2] st h r ↔ gm_Go E d 117 90 [.ref x, a1, a2] (.ref x :: st) h r := gr_loc m117 f117_89 rfl rfl
theorem r117_89n {E : Nat → Value} {d : Nat} {st : List Value} {h : gm_H} {r : gm_R × gm_H} {a1 a2 : Value}  : gm_Go E d 117 89 [.null, a1, a2] st h r ↔ gm_Go E d 117 90 [.null, a1, a2] (.null :: st) h r := gr_loc m117 f117_89 rfl rfl
theorem f117_90 : gm_ft 117 90 = some (.iconst 3, 1) := by decide +kernel
theorem r117_90 {E : Nat → Value} {d : Nat} {st : List Value} {h : gm_H} {r : gm_R × gm_H} {lv : List Value} : gm_Go E d 117 90 lv st h r ↔ gm_Go E d 117 91 lv (.int (3 : Int32) :: st) h r := gr_pure m117 f117_90 rfl
theorem f117_91 : gm_ft 117 91 = some (.iconst 0, 1) := by decide +kernel
theorem r117_91 {E : Nat → Value} {d : Nat} {st : List Value} {h : gm_H} {r : gm_R × gm_H} {lv : List Value} : gm_Go E d 117 91 lv st h r ↔ gm_Go E d 117 92 lv (.int (0 : Int32) :: st) h r := gr_pure m117 f117_91 rfl
theorem f117_92 : gm_ft 117 92 = some (.invokevirtual 189, 3) := by decide +kernel
theorem n117_92 {st : List Value} {h : gm_H} {E : Nat → Value} {lv : List Value} {b0 b1 : Value} {a : Nat} (hs : (st.map fun v => v.category).sum ≤ 8) (he : (gm_en1 [.ref a, b0, b1]).length ≤ 3) {vs : List Value} (hr : gm_rd h a = some (5, vs)) : gm_next E 117 92 lv (b1 :: b0 :: .ref a :: st) h = some (.inr (.inl (0, 108, [.ref a, b0, b1], st))) := gn_call m117 f117_92 rfl rfl rfl rfl rfl rfl rfl (gc_virt (bs := [b1, b0]) (w := 885) rfl rfl rfl rfl hs he hr) (by decide)
theorem f117_95 : gm_ft 117 95 = some (.iastore, 1) := by decide +kernel
theorem r117_95 {E : Nat → Value} {d : Nat} {st : List Value} {h : gm_H} {r : gm_R × gm_H} {lv : List Value} {a k j : Nat} {vs : List Value} {x : Int32} (hr : gm_rd h a = some (k, vs)) (hk : 100 ≤ k ∧ k % 100 = 0 ∧ gm_ko k = 2 ∧ 2 < 3) (hj : j < 2 ^ 31) (hl : j < vs.length) : gm_Go E d 117 95 lv (.int x :: .int (nI j) :: .ref a :: st) h r ↔ gm_Go E d 117 96 lv st (gm_wr h a (k, vs.set j (.int x))) r := gr_wr m117 f117_95 rfl rfl rfl rfl rfl (ga_st hr hk hj hl)
theorem f117_96 : gm_ft 117 96 = some (.aload_n 0, 1) := by decide +kernel
theorem r117_96 {E : Nat → Value} {d : Nat} {st : List Value} {h : gm_H} {r : gm_R × gm_H} {a1 a2 : Value} {x : Nat} : gm_Go E d 117 96 [.ref x, a1, a2] st h r ↔ gm_Go E d 117 97 [.ref x, a1, a2] (.ref x :: st) h r := gr_loc m117 f117_96 rfl rfl
theorem r117_96n {E : Nat → Value} {d : Nat} {st : List Value} {h : gm_H} {r : gm_R × gm_H} {a1 a2 : Value}  : gm_Go E d 117 96 [.null, a1, a2] st h r ↔ gm_Go E d 117 97 [.null, a1, a2] (.null :: st) h r := gr_loc m117 f117_96 rfl rfl
theorem f117_97 : gm_ft 117 97 = some (.getfield 105, 3) := by decide +kernel
theorem r117_97 {E : Nat → Value} {d : Nat} {st : List Value} {h : gm_H} {r : gm_R × gm_H} {lv : List Value} {a : Nat} {vs : List Value} {v : Value} (hr : gm_rd h a = some (5, vs)) (hv : vs[44]? = some v) : gm_Go E d 117 97 lv (.ref a :: st) h r ↔ gm_Go E d 117 100 lv (v :: st) h r := gr_rd m117 f117_97 rfl rfl rfl rfl (gf_get k5_105 hr hv)
theorem f117_100 : gm_ft 117 100 = some (.iload_n 1, 1) := by decide +kernel
theorem r117_100 {E : Nat → Value} {d : Nat} {st : List Value} {h : gm_H} {r : gm_R × gm_H} {a0 a2 : Value} {x : Int32} : gm_Go E d 117 100 [a0, .int x, a2] st h r ↔ gm_Go E d 117 101 [a0, .int x, a2] (.int x :: st) h r := gr_loc m117 f117_100 rfl rfl
theorem f117_101 : gm_ft 117 101 = some (.aload_n 0, 1) := by decide +kernel
theorem r117_101 {E : Nat → Value} {d : Nat} {st : List Value} {h : gm_H} {r : gm_R × gm_H} {a1 a2 : Value} {x : Nat} : gm_Go E d 117 101 [.ref x, a1, a2] st h r ↔ gm_Go E d 117 102 [.ref x, a1, a2] (.ref x :: st) h r := gr_loc m117 f117_101 rfl rfl
theorem r117_101n {E : Nat → Value} {d : Nat} {st : List Value} {h : gm_H} {r : gm_R × gm_H} {a1 a2 : Value}  : gm_Go E d 117 101 [.null, a1, a2] st h r ↔ gm_Go E d 117 102 [.null, a1, a2] (.null :: st) h r := gr_loc m117 f117_101 rfl rfl
theorem f117_102 : gm_ft 117 102 = some (.getfield 69, 3) := by decide +kernel
theorem r117_102 {E : Nat → Value} {d : Nat} {st : List Value} {h : gm_H} {r : gm_R × gm_H} {lv : List Value} {a : Nat} {vs : List Value} {v : Value} (hr : gm_rd h a = some (5, vs)) (hv : vs[31]? = some v) : gm_Go E d 117 102 lv (.ref a :: st) h r ↔ gm_Go E d 117 105 lv (v :: st) h r := gr_rd m117 f117_102 rfl rfl rfl rfl (gf_get k5_69 hr hv)
theorem f117_105 : gm_ft 117 105 = some (.iload_n 2, 1) := by decide +kernel
theorem r117_105 {E : Nat → Value} {d : Nat} {st : List Value} {h : gm_H} {r : gm_R × gm_H} {a0 a1 : Value} {x : Int32} : gm_Go E d 117 105 [a0, a1, .int x] st h r ↔ gm_Go E d 117 106 [a0, a1, .int x] (.int x :: st) h r := gr_loc m117 f117_105 rfl rfl
theorem f117_106 : gm_ft 117 106 = some (.iaload, 1) := by decide +kernel
theorem r117_106 {E : Nat → Value} {d : Nat} {st : List Value} {h : gm_H} {r : gm_R × gm_H} {lv : List Value} {a k j : Nat} {vs : List Value} {v : Value} (hr : gm_rd h a = some (k, vs)) (hk : 100 ≤ k ∧ (fun t => t == 0) (k % 100) = true) (hj : j < 2 ^ 31) (hv : vs[j]? = some v) : gm_Go E d 117 106 lv (.int (nI j) :: .ref a :: st) h r ↔ gm_Go E d 117 107 lv (v :: st) h r := gr_rd m117 f117_106 rfl rfl rfl rfl (ga_ld (P := fun t => t == 0) hr hk hj hv)
theorem f117_107 : gm_ft 117 107 = some (.iastore, 1) := by decide +kernel
theorem r117_107 {E : Nat → Value} {d : Nat} {st : List Value} {h : gm_H} {r : gm_R × gm_H} {lv : List Value} {a k j : Nat} {vs : List Value} {x : Int32} (hr : gm_rd h a = some (k, vs)) (hk : 100 ≤ k ∧ k % 100 = 0 ∧ gm_ko k = 2 ∧ 2 < 3) (hj : j < 2 ^ 31) (hl : j < vs.length) : gm_Go E d 117 107 lv (.int x :: .int (nI j) :: .ref a :: st) h r ↔ gm_Go E d 117 108 lv st (gm_wr h a (k, vs.set j (.int x))) r := gr_wr m117 f117_107 rfl rfl rfl rfl rfl (ga_st hr hk hj hl)
theorem f117_108 : gm_ft 117 108 = some (.aload_n 0, 1) := by decide +kernel
theorem r117_108 {E : Nat → Value} {d : Nat} {st : List Value} {h : gm_H} {r : gm_R × gm_H} {a1 a2 : Value} {x : Nat} : gm_Go E d 117 108 [.ref x, a1, a2] st h r ↔ gm_Go E d 117 109 [.ref x, a1, a2] (.ref x :: st) h r := gr_loc m117 f117_108 rfl rfl
theorem r117_108n {E : Nat → Value} {d : Nat} {st : List Value} {h : gm_H} {r : gm_R × gm_H} {a1 a2 : Value}  : gm_Go E d 117 108 [.null, a1, a2] st h r ↔ gm_Go E d 117 109 [.null, a1, a2] (.null :: st) h r := gr_loc m117 f117_108 rfl rfl
theorem f117_109 : gm_ft 117 109 = some (.getfield 96, 3) := by decide +kernel
theorem r117_109 {E : Nat → Value} {d : Nat} {st : List Value} {h : gm_H} {r : gm_R × gm_H} {lv : List Value} {a : Nat} {vs : List Value} {v : Value} (hr : gm_rd h a = some (5, vs)) (hv : vs[41]? = some v) : gm_Go E d 117 109 lv (.ref a :: st) h r ↔ gm_Go E d 117 112 lv (v :: st) h r := gr_rd m117 f117_109 rfl rfl rfl rfl (gf_get k5_96 hr hv)
theorem f117_112 : gm_ft 117 112 = some (.iload_n 1, 1) := by decide +kernel
theorem r117_112 {E : Nat → Value} {d : Nat} {st : List Value} {h : gm_H} {r : gm_R × gm_H} {a0 a2 : Value} {x : Int32} : gm_Go E d 117 112 [a0, .int x, a2] st h r ↔ gm_Go E d 117 113 [a0, .int x, a2] (.int x :: st) h r := gr_loc m117 f117_112 rfl rfl
theorem f117_113 : gm_ft 117 113 = some (.bipush 6, 2) := by decide +kernel
theorem r117_113 {E : Nat → Value} {d : Nat} {st : List Value} {h : gm_H} {r : gm_R × gm_H} {lv : List Value} : gm_Go E d 117 113 lv st h r ↔ gm_Go E d 117 115 lv (.int (6 : Int32) :: st) h r := gr_pure m117 f117_113 rfl
theorem f117_115 : gm_ft 117 115 = some (.iastore, 1) := by decide +kernel
theorem r117_115 {E : Nat → Value} {d : Nat} {st : List Value} {h : gm_H} {r : gm_R × gm_H} {lv : List Value} {a k j : Nat} {vs : List Value} {x : Int32} (hr : gm_rd h a = some (k, vs)) (hk : 100 ≤ k ∧ k % 100 = 0 ∧ gm_ko k = 2 ∧ 2 < 3) (hj : j < 2 ^ 31) (hl : j < vs.length) : gm_Go E d 117 115 lv (.int x :: .int (nI j) :: .ref a :: st) h r ↔ gm_Go E d 117 116 lv st (gm_wr h a (k, vs.set j (.int x))) r := gr_wr m117 f117_115 rfl rfl rfl rfl rfl (ga_st hr hk hj hl)
theorem f117_116 : gm_ft 117 116 = some (.aload_n 0, 1) := by decide +kernel
theorem r117_116 {E : Nat → Value} {d : Nat} {st : List Value} {h : gm_H} {r : gm_R × gm_H} {a1 a2 : Value} {x : Nat} : gm_Go E d 117 116 [.ref x, a1, a2] st h r ↔ gm_Go E d 117 117 [.ref x, a1, a2] (.ref x :: st) h r := gr_loc m117 f117_116 rfl rfl
theorem r117_116n {E : Nat → Value} {d : Nat} {st : List Value} {h : gm_H} {r : gm_R × gm_H} {a1 a2 : Value}  : gm_Go E d 117 116 [.null, a1, a2] st h r ↔ gm_Go E d 117 117 [.null, a1, a2] (.null :: st) h r := gr_loc m117 f117_116 rfl rfl
theorem f117_117 : gm_ft 117 117 = some (.iconst 1, 1) := by decide +kernel
theorem r117_117 {E : Nat → Value} {d : Nat} {st : List Value} {h : gm_H} {r : gm_R × gm_H} {lv : List Value} : gm_Go E d 117 117 lv st h r ↔ gm_Go E d 117 118 lv (.int (1 : Int32) :: st) h r := gr_pure m117 f117_117 rfl
theorem f117_118 : gm_ft 117 118 = some (.aload_n 0, 1) := by decide +kernel
theorem r117_118 {E : Nat → Value} {d : Nat} {st : List Value} {h : gm_H} {r : gm_R × gm_H} {a1 a2 : Value} {x : Nat} : gm_Go E d 117 118 [.ref x, a1, a2] st h r ↔ gm_Go E d 117 119 [.ref x, a1, a2] (.ref x :: st) h r := gr_loc m117 f117_118 rfl rfl
theorem r117_118n {E : Nat → Value} {d : Nat} {st : List Value} {h : gm_H} {r : gm_R × gm_H} {a1 a2 : Value}  : gm_Go E d 117 118 [.null, a1, a2] st h r ↔ gm_Go E d 117 119 [.null, a1, a2] (.null :: st) h r := gr_loc m117 f117_118 rfl rfl
theorem f117_119 : gm_ft 117 119 = some (.getfield 99, 3) := by decide +kernel
theorem r117_119 {E : Nat → Value} {d : Nat} {st : List Value} {h : gm_H} {r : gm_R × gm_H} {lv : List Value} {a : Nat} {vs : List Value} {v : Value} (hr : gm_rd h a = some (5, vs)) (hv : vs[42]? = some v) : gm_Go E d 117 119 lv (.ref a :: st) h r ↔ gm_Go E d 117 122 lv (v :: st) h r := gr_rd m117 f117_119 rfl rfl rfl rfl (gf_get k5_99 hr hv)
theorem f117_122 : gm_ft 117 122 = some (.iload_n 1, 1) := by decide +kernel
theorem r117_122 {E : Nat → Value} {d : Nat} {st : List Value} {h : gm_H} {r : gm_R × gm_H} {a0 a2 : Value} {x : Int32} : gm_Go E d 117 122 [a0, .int x, a2] st h r ↔ gm_Go E d 117 123 [a0, .int x, a2] (.int x :: st) h r := gr_loc m117 f117_122 rfl rfl
theorem f117_123 : gm_ft 117 123 = some (.iaload, 1) := by decide +kernel
theorem r117_123 {E : Nat → Value} {d : Nat} {st : List Value} {h : gm_H} {r : gm_R × gm_H} {lv : List Value} {a k j : Nat} {vs : List Value} {v : Value} (hr : gm_rd h a = some (k, vs)) (hk : 100 ≤ k ∧ (fun t => t == 0) (k % 100) = true) (hj : j < 2 ^ 31) (hv : vs[j]? = some v) : gm_Go E d 117 123 lv (.int (nI j) :: .ref a :: st) h r ↔ gm_Go E d 117 124 lv (v :: st) h r := gr_rd m117 f117_123 rfl rfl rfl rfl (ga_ld (P := fun t => t == 0) hr hk hj hv)
theorem f117_124 : gm_ft 117 124 = some (.iconst 1, 1) := by decide +kernel
theorem r117_124 {E : Nat → Value} {d : Nat} {st : List Value} {h : gm_H} {r : gm_R × gm_H} {lv : List Value} : gm_Go E d 117 124 lv st h r ↔ gm_Go E d 117 125 lv (.int (1 : Int32) :: st) h r := gr_pure m117 f117_124 rfl
theorem f117_125 : gm_ft 117 125 = some (.iadd, 1) := by decide +kernel
theorem r117_125 {E : Nat → Value} {d : Nat} {st : List Value} {h : gm_H} {r : gm_R × gm_H} {lv : List Value} {x y : Int32} : gm_Go E d 117 125 lv (.int y :: .int x :: st) h r ↔ gm_Go E d 117 126 lv (.int (x + y) :: st) h r := gr_pure m117 f117_125 rfl
theorem f117_126 : gm_ft 117 126 = some (.iconst 0, 1) := by decide +kernel
theorem r117_126 {E : Nat → Value} {d : Nat} {st : List Value} {h : gm_H} {r : gm_R × gm_H} {lv : List Value} : gm_Go E d 117 126 lv st h r ↔ gm_Go E d 117 127 lv (.int (0 : Int32) :: st) h r := gr_pure m117 f117_126 rfl
theorem f117_127 : gm_ft 117 127 = some (.iconst 0, 1) := by decide +kernel
theorem r117_127 {E : Nat → Value} {d : Nat} {st : List Value} {h : gm_H} {r : gm_R × gm_H} {lv : List Value} : gm_Go E d 117 127 lv st h r ↔ gm_Go E d 117 128 lv (.int (0 : Int32) :: st) h r := gr_pure m117 f117_127 rfl
theorem f117_128 : gm_ft 117 128 = some (.invokevirtual 200, 3) := by decide +kernel
theorem n117_128 {st : List Value} {h : gm_H} {E : Nat → Value} {lv : List Value} {b0 b1 b2 b3 : Value} {a : Nat} (hs : (st.map fun v => v.category).sum ≤ 8) (he : (gm_en1 [.ref a, b0, b1, b2, b3]).length ≤ 5) {vs : List Value} (hr : gm_rd h a = some (5, vs)) : gm_next E 117 128 lv (b3 :: b2 :: b1 :: b0 :: .ref a :: st) h = some (.inr (.inl (0, 101, [.ref a, b0, b1, b2, b3], st))) := gn_call m117 f117_128 rfl rfl rfl rfl rfl rfl rfl (gc_virt (bs := [b3, b2, b1, b0]) (w := 856) rfl rfl rfl rfl hs he hr) (by decide)
theorem f117_131 : gm_ft 117 131 = some (.return_, 1) := by decide +kernel
theorem r117_131 {E : Nat → Value} {d : Nat} {h : gm_H} {r : gm_R × gm_H} {lv : List Value} : gm_Go E d 117 131 lv [] h r ↔ r = (.inl none, h) := gr_ret m117 f117_131 rfl rfl rfl rfl rfl rfl rfl rfl rfl
/-! GraphReaderModel.endConstant(I)V -/
theorem m118 : gm_mt[118]? = some (⟨"GraphReaderModel", "endConstant", "(I)V"⟩, prog_7_method_28_code, 8, none, [], 5, 2) := rfl
theorem f118_0 : gm_ft 118 0 = some (.aload_n 0, 1) := by decide +kernel
theorem r118_0 {E : Nat → Value} {d : Nat} {st : List Value} {h : gm_H} {r : gm_R × gm_H} {a1 a2 a3 a4 a5 a6 a7 : Value} {x : Nat} : gm_Go E d 118 0 [.ref x, a1, a2, a3, a4, a5, a6, a7] st h r ↔ gm_Go E d 118 1 [.ref x, a1, a2, a3, a4, a5, a6, a7] (.ref x :: st) h r := gr_loc m118 f118_0 rfl rfl
theorem r118_0n {E : Nat → Value} {d : Nat} {st : List Value} {h : gm_H} {r : gm_R × gm_H} {a1 a2 a3 a4 a5 a6 a7 : Value}  : gm_Go E d 118 0 [.null, a1, a2, a3, a4, a5, a6, a7] st h r ↔ gm_Go E d 118 1 [.null, a1, a2, a3, a4, a5, a6, a7] (.null :: st) h r := gr_loc m118 f118_0 rfl rfl
theorem f118_1 : gm_ft 118 1 = some (.getfield 178, 3) := by decide +kernel
theorem r118_1 {E : Nat → Value} {d : Nat} {st : List Value} {h : gm_H} {r : gm_R × gm_H} {lv : List Value} {a : Nat} {vs : List Value} {v : Value} (hr : gm_rd h a = some (5, vs)) (hv : vs[9]? = some v) : gm_Go E d 118 1 lv (.ref a :: st) h r ↔ gm_Go E d 118 4 lv (v :: st) h r := gr_rd m118 f118_1 rfl rfl rfl rfl (gf_get k5_178 hr hv)
theorem f118_4 : gm_ft 118 4 = some (.istore_n 2, 1) := by decide +kernel
theorem r118_4 {E : Nat → Value} {d : Nat} {st : List Value} {h : gm_H} {r : gm_R × gm_H} {a0 a1 a2 a3 a4 a5 a6 a7 : Value} {x : Int32} : gm_Go E d 118 4 [a0, a1, a2, a3, a4, a5, a6, a7] (.int x :: st) h r ↔ gm_Go E d 118 5 [a0, gm_k a1, .int x, a3, a4, a5, a6, a7] st h r := gr_loc m118 f118_4 rfl rfl
theorem f118_5 : gm_ft 118 5 = some (.aload_n 0, 1) := by decide +kernel
theorem r118_5 {E : Nat → Value} {d : Nat} {st : List Value} {h : gm_H} {r : gm_R × gm_H} {a1 a2 a3 a4 a5 a6 a7 : Value} {x : Nat} : gm_Go E d 118 5 [.ref x, a1, a2, a3, a4, a5, a6, a7] st h r ↔ gm_Go E d 118 6 [.ref x, a1, a2, a3, a4, a5, a6, a7] (.ref x :: st) h r := gr_loc m118 f118_5 rfl rfl
theorem r118_5n {E : Nat → Value} {d : Nat} {st : List Value} {h : gm_H} {r : gm_R × gm_H} {a1 a2 a3 a4 a5 a6 a7 : Value}  : gm_Go E d 118 5 [.null, a1, a2, a3, a4, a5, a6, a7] st h r ↔ gm_Go E d 118 6 [.null, a1, a2, a3, a4, a5, a6, a7] (.null :: st) h r := gr_loc m118 f118_5 rfl rfl
theorem f118_6 : gm_ft 118 6 = some (.getfield 105, 3) := by decide +kernel
theorem r118_6 {E : Nat → Value} {d : Nat} {st : List Value} {h : gm_H} {r : gm_R × gm_H} {lv : List Value} {a : Nat} {vs : List Value} {v : Value} (hr : gm_rd h a = some (5, vs)) (hv : vs[44]? = some v) : gm_Go E d 118 6 lv (.ref a :: st) h r ↔ gm_Go E d 118 9 lv (v :: st) h r := gr_rd m118 f118_6 rfl rfl rfl rfl (gf_get k5_105 hr hv)
theorem f118_9 : gm_ft 118 9 = some (.iload_n 1, 1) := by decide +kernel
theorem r118_9 {E : Nat → Value} {d : Nat} {st : List Value} {h : gm_H} {r : gm_R × gm_H} {a0 a2 a3 a4 a5 a6 a7 : Value} {x : Int32} : gm_Go E d 118 9 [a0, .int x, a2, a3, a4, a5, a6, a7] st h r ↔ gm_Go E d 118 10 [a0, .int x, a2, a3, a4, a5, a6, a7] (.int x :: st) h r := gr_loc m118 f118_9 rfl rfl
theorem f118_10 : gm_ft 118 10 = some (.iaload, 1) := by decide +kernel
theorem r118_10 {E : Nat → Value} {d : Nat} {st : List Value} {h : gm_H} {r : gm_R × gm_H} {lv : List Value} {a k j : Nat} {vs : List Value} {v : Value} (hr : gm_rd h a = some (k, vs)) (hk : 100 ≤ k ∧ (fun t => t == 0) (k % 100) = true) (hj : j < 2 ^ 31) (hv : vs[j]? = some v) : gm_Go E d 118 10 lv (.int (nI j) :: .ref a :: st) h r ↔ gm_Go E d 118 11 lv (v :: st) h r := gr_rd m118 f118_10 rfl rfl rfl rfl (ga_ld (P := fun t => t == 0) hr hk hj hv)
theorem f118_11 : gm_ft 118 11 = some (.istore_n 3, 1) := by decide +kernel
theorem r118_11 {E : Nat → Value} {d : Nat} {st : List Value} {h : gm_H} {r : gm_R × gm_H} {a0 a1 a2 a3 a4 a5 a6 a7 : Value} {x : Int32} : gm_Go E d 118 11 [a0, a1, a2, a3, a4, a5, a6, a7] (.int x :: st) h r ↔ gm_Go E d 118 12 [a0, a1, gm_k a2, .int x, a4, a5, a6, a7] st h r := gr_loc m118 f118_11 rfl rfl
theorem f118_12 : gm_ft 118 12 = some (.iload_n 2, 1) := by decide +kernel
theorem r118_12 {E : Nat → Value} {d : Nat} {st : List Value} {h : gm_H} {r : gm_R × gm_H} {a0 a1 a3 a4 a5 a6 a7 : Value} {x : Int32} : gm_Go E d 118 12 [a0, a1, .int x, a3, a4, a5, a6, a7] st h r ↔ gm_Go E d 118 13 [a0, a1, .int x, a3, a4, a5, a6, a7] (.int x :: st) h r := gr_loc m118 f118_12 rfl rfl
theorem f118_13 : gm_ft 118 13 = some (.ifCond .lt 27, 3) := by decide +kernel
theorem r118_13 {E : Nat → Value} {d : Nat} {st : List Value} {h : gm_H} {r : gm_R × gm_H} {lv : List Value} {x : Int32} : gm_Go E d 118 13 lv (.int x :: st) h r ↔ (if x < 0 then gm_Go E d 118 40 lv st h r else gm_Go E d 118 16 lv st h r) := (gr_br m118 f118_13 rfl rfl rfl rfl).trans gr_if
theorem f118_16 : gm_ft 118 16 = some (.aload_n 0, 1) := by decide +kernel
theorem r118_16 {E : Nat → Value} {d : Nat} {st : List Value} {h : gm_H} {r : gm_R × gm_H} {a1 a2 a3 a4 a5 a6 a7 : Value} {x : Nat} : gm_Go E d 118 16 [.ref x, a1, a2, a3, a4, a5, a6, a7] st h r ↔ gm_Go E d 118 17 [.ref x, a1, a2, a3, a4, a5, a6, a7] (.ref x :: st) h r := gr_loc m118 f118_16 rfl rfl
theorem r118_16n {E : Nat → Value} {d : Nat} {st : List Value} {h : gm_H} {r : gm_R × gm_H} {a1 a2 a3 a4 a5 a6 a7 : Value}  : gm_Go E d 118 16 [.null, a1, a2, a3, a4, a5, a6, a7] st h r ↔ gm_Go E d 118 17 [.null, a1, a2, a3, a4, a5, a6, a7] (.null :: st) h r := gr_loc m118 f118_16 rfl rfl
theorem f118_17 : gm_ft 118 17 = some (.getfield 39, 3) := by decide +kernel
theorem r118_17 {E : Nat → Value} {d : Nat} {st : List Value} {h : gm_H} {r : gm_R × gm_H} {lv : List Value} {a : Nat} {vs : List Value} {v : Value} (hr : gm_rd h a = some (5, vs)) (hv : vs[18]? = some v) : gm_Go E d 118 17 lv (.ref a :: st) h r ↔ gm_Go E d 118 20 lv (v :: st) h r := gr_rd m118 f118_17 rfl rfl rfl rfl (gf_get k5_39 hr hv)
theorem f118_20 : gm_ft 118 20 = some (.iload_n 2, 1) := by decide +kernel
theorem r118_20 {E : Nat → Value} {d : Nat} {st : List Value} {h : gm_H} {r : gm_R × gm_H} {a0 a1 a3 a4 a5 a6 a7 : Value} {x : Int32} : gm_Go E d 118 20 [a0, a1, .int x, a3, a4, a5, a6, a7] st h r ↔ gm_Go E d 118 21 [a0, a1, .int x, a3, a4, a5, a6, a7] (.int x :: st) h r := gr_loc m118 f118_20 rfl rfl
theorem f118_21 : gm_ft 118 21 = some (.iaload, 1) := by decide +kernel
theorem r118_21 {E : Nat → Value} {d : Nat} {st : List Value} {h : gm_H} {r : gm_R × gm_H} {lv : List Value} {a k j : Nat} {vs : List Value} {v : Value} (hr : gm_rd h a = some (k, vs)) (hk : 100 ≤ k ∧ (fun t => t == 0) (k % 100) = true) (hj : j < 2 ^ 31) (hv : vs[j]? = some v) : gm_Go E d 118 21 lv (.int (nI j) :: .ref a :: st) h r ↔ gm_Go E d 118 22 lv (v :: st) h r := gr_rd m118 f118_21 rfl rfl rfl rfl (ga_ld (P := fun t => t == 0) hr hk hj hv)
theorem f118_22 : gm_ft 118 22 = some (.iconst 1, 1) := by decide +kernel
theorem r118_22 {E : Nat → Value} {d : Nat} {st : List Value} {h : gm_H} {r : gm_R × gm_H} {lv : List Value} : gm_Go E d 118 22 lv st h r ↔ gm_Go E d 118 23 lv (.int (1 : Int32) :: st) h r := gr_pure m118 f118_22 rfl
theorem f118_23 : gm_ft 118 23 = some (.if_icmp .ne 17, 3) := by decide +kernel
theorem r118_23 {E : Nat → Value} {d : Nat} {st : List Value} {h : gm_H} {r : gm_R × gm_H} {lv : List Value} {x y : Int32} : gm_Go E d 118 23 lv (.int y :: .int x :: st) h r ↔ (if x = y then gm_Go E d 118 26 lv st h r else gm_Go E d 118 40 lv st h r) := (gr_br m118 f118_23 rfl rfl rfl rfl).trans gr_ifn
theorem f118_26 : gm_ft 118 26 = some (.aload_n 0, 1) := by decide +kernel
theorem r118_26 {E : Nat → Value} {d : Nat} {st : List Value} {h : gm_H} {r : gm_R × gm_H} {a1 a2 a3 a4 a5 a6 a7 : Value} {x : Nat} : gm_Go E d 118 26 [.ref x, a1, a2, a3, a4, a5, a6, a7] st h r ↔ gm_Go E d 118 27 [.ref x, a1, a2, a3, a4, a5, a6, a7] (.ref x :: st) h r := gr_loc m118 f118_26 rfl rfl
theorem r118_26n {E : Nat → Value} {d : Nat} {st : List Value} {h : gm_H} {r : gm_R × gm_H} {a1 a2 a3 a4 a5 a6 a7 : Value}  : gm_Go E d 118 26 [.null, a1, a2, a3, a4, a5, a6, a7] st h r ↔ gm_Go E d 118 27 [.null, a1, a2, a3, a4, a5, a6, a7] (.null :: st) h r := gr_loc m118 f118_26 rfl rfl
theorem f118_27 : gm_ft 118 27 = some (.getfield 45, 3) := by decide +kernel
theorem r118_27 {E : Nat → Value} {d : Nat} {st : List Value} {h : gm_H} {r : gm_R × gm_H} {lv : List Value} {a : Nat} {vs : List Value} {v : Value} (hr : gm_rd h a = some (5, vs)) (hv : vs[20]? = some v) : gm_Go E d 118 27 lv (.ref a :: st) h r ↔ gm_Go E d 118 30 lv (v :: st) h r := gr_rd m118 f118_27 rfl rfl rfl rfl (gf_get k5_45 hr hv)
theorem f118_30 : gm_ft 118 30 = some (.iload_n 2, 1) := by decide +kernel
theorem r118_30 {E : Nat → Value} {d : Nat} {st : List Value} {h : gm_H} {r : gm_R × gm_H} {a0 a1 a3 a4 a5 a6 a7 : Value} {x : Int32} : gm_Go E d 118 30 [a0, a1, .int x, a3, a4, a5, a6, a7] st h r ↔ gm_Go E d 118 31 [a0, a1, .int x, a3, a4, a5, a6, a7] (.int x :: st) h r := gr_loc m118 f118_30 rfl rfl
theorem f118_31 : gm_ft 118 31 = some (.iaload, 1) := by decide +kernel
theorem r118_31 {E : Nat → Value} {d : Nat} {st : List Value} {h : gm_H} {r : gm_R × gm_H} {lv : List Value} {a k j : Nat} {vs : List Value} {v : Value} (hr : gm_rd h a = some (k, vs)) (hk : 100 ≤ k ∧ (fun t => t == 0) (k % 100) = true) (hj : j < 2 ^ 31) (hv : vs[j]? = some v) : gm_Go E d 118 31 lv (.int (nI j) :: .ref a :: st) h r ↔ gm_Go E d 118 32 lv (v :: st) h r := gr_rd m118 f118_31 rfl rfl rfl rfl (ga_ld (P := fun t => t == 0) hr hk hj hv)
theorem f118_32 : gm_ft 118 32 = some (.iconst 1, 1) := by decide +kernel
theorem r118_32 {E : Nat → Value} {d : Nat} {st : List Value} {h : gm_H} {r : gm_R × gm_H} {lv : List Value} : gm_Go E d 118 32 lv st h r ↔ gm_Go E d 118 33 lv (.int (1 : Int32) :: st) h r := gr_pure m118 f118_32 rfl
theorem f118_33 : gm_ft 118 33 = some (.if_icmp .ne 7, 3) := by decide +kernel
theorem r118_33 {E : Nat → Value} {d : Nat} {st : List Value} {h : gm_H} {r : gm_R × gm_H} {lv : List Value} {x y : Int32} : gm_Go E d 118 33 lv (.int y :: .int x :: st) h r ↔ (if x = y then gm_Go E d 118 36 lv st h r else gm_Go E d 118 40 lv st h r) := (gr_br m118 f118_33 rfl rfl rfl rfl).trans gr_ifn
theorem f118_36 : gm_ft 118 36 = some (.iconst 1, 1) := by decide +kernel
theorem r118_36 {E : Nat → Value} {d : Nat} {st : List Value} {h : gm_H} {r : gm_R × gm_H} {lv : List Value} : gm_Go E d 118 36 lv st h r ↔ gm_Go E d 118 37 lv (.int (1 : Int32) :: st) h r := gr_pure m118 f118_36 rfl
theorem f118_37 : gm_ft 118 37 = some (.goto 4, 3) := by decide +kernel
theorem r118_37 {E : Nat → Value} {d : Nat} {st : List Value} {h : gm_H} {r : gm_R × gm_H} {lv : List Value} : gm_Go E d 118 37 lv st h r ↔ gm_Go E d 118 41 lv st h r := gr_brT m118 f118_37 rfl rfl rfl rfl
theorem f118_40 : gm_ft 118 40 = some (.iconst 0, 1) := by decide +kernel
theorem r118_40 {E : Nat → Value} {d : Nat} {st : List Value} {h : gm_H} {r : gm_R × gm_H} {lv : List Value} : gm_Go E d 118 40 lv st h r ↔ gm_Go E d 118 41 lv (.int (0 : Int32) :: st) h r := gr_pure m118 f118_40 rfl
theorem f118_41 : gm_ft 118 41 = some (.istore 4, 2) := by decide +kernel
theorem r118_41 {E : Nat → Value} {d : Nat} {st : List Value} {h : gm_H} {r : gm_R × gm_H} {a0 a1 a2 a3 a4 a5 a6 a7 : Value} {x : Int32} : gm_Go E d 118 41 [a0, a1, a2, a3, a4, a5, a6, a7] (.int x :: st) h r ↔ gm_Go E d 118 43 [a0, a1, a2, gm_k a3, .int x, a5, a6, a7] st h r := gr_loc m118 f118_41 rfl rfl
theorem f118_43 : gm_ft 118 43 = some (.iload 4, 2) := by decide +kernel
theorem r118_43 {E : Nat → Value} {d : Nat} {st : List Value} {h : gm_H} {r : gm_R × gm_H} {a0 a1 a2 a3 a5 a6 a7 : Value} {x : Int32} : gm_Go E d 118 43 [a0, a1, a2, a3, .int x, a5, a6, a7] st h r ↔ gm_Go E d 118 45 [a0, a1, a2, a3, .int x, a5, a6, a7] (.int x :: st) h r := gr_loc m118 f118_43 rfl rfl
theorem f118_45 : gm_ft 118 45 = some (.ifCond .eq 20, 3) := by decide +kernel
theorem r118_45 {E : Nat → Value} {d : Nat} {st : List Value} {h : gm_H} {r : gm_R × gm_H} {lv : List Value} {x : Int32} : gm_Go E d 118 45 lv (.int x :: st) h r ↔ (if x = 0 then gm_Go E d 118 65 lv st h r else gm_Go E d 118 48 lv st h r) := (gr_br m118 f118_45 rfl rfl rfl rfl).trans gr_if
theorem f118_48 : gm_ft 118 48 = some (.aload_n 0, 1) := by decide +kernel
theorem r118_48 {E : Nat → Value} {d : Nat} {st : List Value} {h : gm_H} {r : gm_R × gm_H} {a1 a2 a3 a4 a5 a6 a7 : Value} {x : Nat} : gm_Go E d 118 48 [.ref x, a1, a2, a3, a4, a5, a6, a7] st h r ↔ gm_Go E d 118 49 [.ref x, a1, a2, a3, a4, a5, a6, a7] (.ref x :: st) h r := gr_loc m118 f118_48 rfl rfl
theorem r118_48n {E : Nat → Value} {d : Nat} {st : List Value} {h : gm_H} {r : gm_R × gm_H} {a1 a2 a3 a4 a5 a6 a7 : Value}  : gm_Go E d 118 48 [.null, a1, a2, a3, a4, a5, a6, a7] st h r ↔ gm_Go E d 118 49 [.null, a1, a2, a3, a4, a5, a6, a7] (.null :: st) h r := gr_loc m118 f118_48 rfl rfl
theorem f118_49 : gm_ft 118 49 = some (.getfield 7, 3) := by decide +kernel
theorem r118_49 {E : Nat → Value} {d : Nat} {st : List Value} {h : gm_H} {r : gm_R × gm_H} {lv : List Value} {a : Nat} {vs : List Value} {v : Value} (hr : gm_rd h a = some (5, vs)) (hv : vs[4]? = some v) : gm_Go E d 118 49 lv (.ref a :: st) h r ↔ gm_Go E d 118 52 lv (v :: st) h r := gr_rd m118 f118_49 rfl rfl rfl rfl (gf_get k5_7 hr hv)
theorem f118_52 : gm_ft 118 52 = some (.aload_n 0, 1) := by decide +kernel
theorem r118_52 {E : Nat → Value} {d : Nat} {st : List Value} {h : gm_H} {r : gm_R × gm_H} {a1 a2 a3 a4 a5 a6 a7 : Value} {x : Nat} : gm_Go E d 118 52 [.ref x, a1, a2, a3, a4, a5, a6, a7] st h r ↔ gm_Go E d 118 53 [.ref x, a1, a2, a3, a4, a5, a6, a7] (.ref x :: st) h r := gr_loc m118 f118_52 rfl rfl
theorem r118_52n {E : Nat → Value} {d : Nat} {st : List Value} {h : gm_H} {r : gm_R × gm_H} {a1 a2 a3 a4 a5 a6 a7 : Value}  : gm_Go E d 118 52 [.null, a1, a2, a3, a4, a5, a6, a7] st h r ↔ gm_Go E d 118 53 [.null, a1, a2, a3, a4, a5, a6, a7] (.null :: st) h r := gr_loc m118 f118_52 rfl rfl
theorem f118_53 : gm_ft 118 53 = some (.getfield 48, 3) := by decide +kernel
theorem r118_53 {E : Nat → Value} {d : Nat} {st : List Value} {h : gm_H} {r : gm_R × gm_H} {lv : List Value} {a : Nat} {vs : List Value} {v : Value} (hr : gm_rd h a = some (5, vs)) (hv : vs[21]? = some v) : gm_Go E d 118 53 lv (.ref a :: st) h r ↔ gm_Go E d 118 56 lv (v :: st) h r := gr_rd m118 f118_53 rfl rfl rfl rfl (gf_get k5_48 hr hv)
theorem f118_56 : gm_ft 118 56 = some (.iload_n 2, 1) := by decide +kernel
theorem r118_56 {E : Nat → Value} {d : Nat} {st : List Value} {h : gm_H} {r : gm_R × gm_H} {a0 a1 a3 a4 a5 a6 a7 : Value} {x : Int32} : gm_Go E d 118 56 [a0, a1, .int x, a3, a4, a5, a6, a7] st h r ↔ gm_Go E d 118 57 [a0, a1, .int x, a3, a4, a5, a6, a7] (.int x :: st) h r := gr_loc m118 f118_56 rfl rfl
theorem f118_57 : gm_ft 118 57 = some (.iaload, 1) := by decide +kernel
theorem r118_57 {E : Nat → Value} {d : Nat} {st : List Value} {h : gm_H} {r : gm_R × gm_H} {lv : List Value} {a k j : Nat} {vs : List Value} {v : Value} (hr : gm_rd h a = some (k, vs)) (hk : 100 ≤ k ∧ (fun t => t == 0) (k % 100) = true) (hj : j < 2 ^ 31) (hv : vs[j]? = some v) : gm_Go E d 118 57 lv (.int (nI j) :: .ref a :: st) h r ↔ gm_Go E d 118 58 lv (v :: st) h r := gr_rd m118 f118_57 rfl rfl rfl rfl (ga_ld (P := fun t => t == 0) hr hk hj hv)
theorem f118_58 : gm_ft 118 58 = some (.iaload, 1) := by decide +kernel
theorem r118_58 {E : Nat → Value} {d : Nat} {st : List Value} {h : gm_H} {r : gm_R × gm_H} {lv : List Value} {a k j : Nat} {vs : List Value} {v : Value} (hr : gm_rd h a = some (k, vs)) (hk : 100 ≤ k ∧ (fun t => t == 0) (k % 100) = true) (hj : j < 2 ^ 31) (hv : vs[j]? = some v) : gm_Go E d 118 58 lv (.int (nI j) :: .ref a :: st) h r ↔ gm_Go E d 118 59 lv (v :: st) h r := gr_rd m118 f118_58 rfl rfl rfl rfl (ga_ld (P := fun t => t == 0) hr hk hj hv)
theorem f118_59 : gm_ft 118 59 = some (.bipush 97, 2) := by decide +kernel
theorem r118_59 {E : Nat → Value} {d : Nat} {st : List Value} {h : gm_H} {r : gm_R × gm_H} {lv : List Value} : gm_Go E d 118 59 lv st h r ↔ gm_Go E d 118 61 lv (.int (97 : Int32) :: st) h r := gr_pure m118 f118_59 rfl
theorem f118_61 : gm_ft 118 61 = some (.isub, 1) := by decide +kernel
theorem r118_61 {E : Nat → Value} {d : Nat} {st : List Value} {h : gm_H} {r : gm_R × gm_H} {lv : List Value} {x y : Int32} : gm_Go E d 118 61 lv (.int y :: .int x :: st) h r ↔ gm_Go E d 118 62 lv (.int (x - y) :: st) h r := gr_pure m118 f118_61 rfl
theorem f118_62 : gm_ft 118 62 = some (.goto 4, 3) := by decide +kernel
theorem r118_62 {E : Nat → Value} {d : Nat} {st : List Value} {h : gm_H} {r : gm_R × gm_H} {lv : List Value} : gm_Go E d 118 62 lv st h r ↔ gm_Go E d 118 66 lv st h r := gr_brT m118 f118_62 rfl rfl rfl rfl
theorem f118_65 : gm_ft 118 65 = some (.iconst (-1), 1) := by decide +kernel
theorem r118_65 {E : Nat → Value} {d : Nat} {st : List Value} {h : gm_H} {r : gm_R × gm_H} {lv : List Value} : gm_Go E d 118 65 lv st h r ↔ gm_Go E d 118 66 lv (.int (-1 : Int32) :: st) h r := gr_pure m118 f118_65 rfl
theorem f118_66 : gm_ft 118 66 = some (.istore 5, 2) := by decide +kernel
theorem r118_66 {E : Nat → Value} {d : Nat} {st : List Value} {h : gm_H} {r : gm_R × gm_H} {a0 a1 a2 a3 a4 a5 a6 a7 : Value} {x : Int32} : gm_Go E d 118 66 [a0, a1, a2, a3, a4, a5, a6, a7] (.int x :: st) h r ↔ gm_Go E d 118 68 [a0, a1, a2, a3, gm_k a4, .int x, a6, a7] st h r := gr_loc m118 f118_66 rfl rfl
theorem f118_68 : gm_ft 118 68 = some (.aload_n 0, 1) := by decide +kernel
theorem r118_68 {E : Nat → Value} {d : Nat} {st : List Value} {h : gm_H} {r : gm_R × gm_H} {a1 a2 a3 a4 a5 a6 a7 : Value} {x : Nat} : gm_Go E d 118 68 [.ref x, a1, a2, a3, a4, a5, a6, a7] st h r ↔ gm_Go E d 118 69 [.ref x, a1, a2, a3, a4, a5, a6, a7] (.ref x :: st) h r := gr_loc m118 f118_68 rfl rfl
theorem r118_68n {E : Nat → Value} {d : Nat} {st : List Value} {h : gm_H} {r : gm_R × gm_H} {a1 a2 a3 a4 a5 a6 a7 : Value}  : gm_Go E d 118 68 [.null, a1, a2, a3, a4, a5, a6, a7] st h r ↔ gm_Go E d 118 69 [.null, a1, a2, a3, a4, a5, a6, a7] (.null :: st) h r := gr_loc m118 f118_68 rfl rfl
theorem f118_69 : gm_ft 118 69 = some (.iload 5, 2) := by decide +kernel
theorem r118_69 {E : Nat → Value} {d : Nat} {st : List Value} {h : gm_H} {r : gm_R × gm_H} {a0 a1 a2 a3 a4 a6 a7 : Value} {x : Int32} : gm_Go E d 118 69 [a0, a1, a2, a3, a4, .int x, a6, a7] st h r ↔ gm_Go E d 118 71 [a0, a1, a2, a3, a4, .int x, a6, a7] (.int x :: st) h r := gr_loc m118 f118_69 rfl rfl
theorem f118_71 : gm_ft 118 71 = some (.bipush 26, 2) := by decide +kernel
theorem r118_71 {E : Nat → Value} {d : Nat} {st : List Value} {h : gm_H} {r : gm_R × gm_H} {lv : List Value} : gm_Go E d 118 71 lv st h r ↔ gm_Go E d 118 73 lv (.int (26 : Int32) :: st) h r := gr_pure m118 f118_71 rfl
theorem f118_73 : gm_ft 118 73 = some (.invokevirtual 131, 3) := by decide +kernel
theorem n118_73 {st : List Value} {h : gm_H} {E : Nat → Value} {lv : List Value} {b0 b1 : Value} {a : Nat} (hs : (st.map fun v => v.category).sum ≤ 8) (he : (gm_en1 [.ref a, b0, b1]).length ≤ 3) {vs : List Value} (hr : gm_rd h a = some (5, vs)) : gm_next E 118 73 lv (b1 :: b0 :: .ref a :: st) h = some (.inr (.inl (0, 92, [.ref a, b0, b1], st))) := gn_call m118 f118_73 rfl rfl rfl rfl rfl rfl rfl (gc_virt (bs := [b1, b0]) (w := 820) rfl rfl rfl rfl hs he hr) (by decide)
theorem f118_76 : gm_ft 118 76 = some (.ifCond .ne 17, 3) := by decide +kernel
theorem r118_76 {E : Nat → Value} {d : Nat} {st : List Value} {h : gm_H} {r : gm_R × gm_H} {lv : List Value} {x : Int32} : gm_Go E d 118 76 lv (.int x :: st) h r ↔ (if x = 0 then gm_Go E d 118 79 lv st h r else gm_Go E d 118 93 lv st h r) := (gr_br m118 f118_76 rfl rfl rfl rfl).trans gr_ifn
theorem f118_79 : gm_ft 118 79 = some (.aload_n 0, 1) := by decide +kernel
theorem r118_79 {E : Nat → Value} {d : Nat} {st : List Value} {h : gm_H} {r : gm_R × gm_H} {a1 a2 a3 a4 a5 a6 a7 : Value} {x : Nat} : gm_Go E d 118 79 [.ref x, a1, a2, a3, a4, a5, a6, a7] st h r ↔ gm_Go E d 118 80 [.ref x, a1, a2, a3, a4, a5, a6, a7] (.ref x :: st) h r := gr_loc m118 f118_79 rfl rfl
theorem r118_79n {E : Nat → Value} {d : Nat} {st : List Value} {h : gm_H} {r : gm_R × gm_H} {a1 a2 a3 a4 a5 a6 a7 : Value}  : gm_Go E d 118 79 [.null, a1, a2, a3, a4, a5, a6, a7] st h r ↔ gm_Go E d 118 80 [.null, a1, a2, a3, a4, a5, a6, a7] (.null :: st) h r := gr_loc m118 f118_79 rfl rfl
theorem f118_80 : gm_ft 118 80 = some (.getfield 32, 3) := by decide +kernel
theorem r118_80 {E : Nat → Value} {d : Nat} {st : List Value} {h : gm_H} {r : gm_R × gm_H} {lv : List Value} {a : Nat} {vs : List Value} {v : Value} (hr : gm_rd h a = some (5, vs)) (hv : vs[16]? = some v) : gm_Go E d 118 80 lv (.ref a :: st) h r ↔ gm_Go E d 118 83 lv (v :: st) h r := gr_rd m118 f118_80 rfl rfl rfl rfl (gf_get k5_32 hr hv)
theorem f118_83 : gm_ft 118 83 = some (.iload_n 3, 1) := by decide +kernel
theorem r118_83 {E : Nat → Value} {d : Nat} {st : List Value} {h : gm_H} {r : gm_R × gm_H} {a0 a1 a2 a4 a5 a6 a7 : Value} {x : Int32} : gm_Go E d 118 83 [a0, a1, a2, .int x, a4, a5, a6, a7] st h r ↔ gm_Go E d 118 84 [a0, a1, a2, .int x, a4, a5, a6, a7] (.int x :: st) h r := gr_loc m118 f118_83 rfl rfl
theorem f118_84 : gm_ft 118 84 = some (.iaload, 1) := by decide +kernel
theorem r118_84 {E : Nat → Value} {d : Nat} {st : List Value} {h : gm_H} {r : gm_R × gm_H} {lv : List Value} {a k j : Nat} {vs : List Value} {v : Value} (hr : gm_rd h a = some (k, vs)) (hk : 100 ≤ k ∧ (fun t => t == 0) (k % 100) = true) (hj : j < 2 ^ 31) (hv : vs[j]? = some v) : gm_Go E d 118 84 lv (.int (nI j) :: .ref a :: st) h r ↔ gm_Go E d 118 85 lv (v :: st) h r := gr_rd m118 f118_84 rfl rfl rfl rfl (ga_ld (P := fun t => t == 0) hr hk hj hv)
theorem f118_85 : gm_ft 118 85 = some (.iload 5, 2) := by decide +kernel
theorem r118_85 {E : Nat → Value} {d : Nat} {st : List Value} {h : gm_H} {r : gm_R × gm_H} {a0 a1 a2 a3 a4 a6 a7 : Value} {x : Int32} : gm_Go E d 118 85 [a0, a1, a2, a3, a4, .int x, a6, a7] st h r ↔ gm_Go E d 118 87 [a0, a1, a2, a3, a4, .int x, a6, a7] (.int x :: st) h r := gr_loc m118 f118_85 rfl rfl
theorem f118_87 : gm_ft 118 87 = some (.ishr, 1) := by decide +kernel
theorem r118_87 {E : Nat → Value} {d : Nat} {st : List Value} {h : gm_H} {r : gm_R × gm_H} {lv : List Value} {x y : Int32} : gm_Go E d 118 87 lv (.int y :: .int x :: st) h r ↔ gm_Go E d 118 88 lv (.int (x >>> (y &&& 31)) :: st) h r := gr_pure m118 f118_87 rfl
theorem f118_88 : gm_ft 118 88 = some (.iconst 1, 1) := by decide +kernel
theorem r118_88 {E : Nat → Value} {d : Nat} {st : List Value} {h : gm_H} {r : gm_R × gm_H} {lv : List Value} : gm_Go E d 118 88 lv st h r ↔ gm_Go E d 118 89 lv (.int (1 : Int32) :: st) h r := gr_pure m118 f118_88 rfl
theorem f118_89 : gm_ft 118 89 = some (.iand, 1) := by decide +kernel
theorem r118_89 {E : Nat → Value} {d : Nat} {st : List Value} {h : gm_H} {r : gm_R × gm_H} {lv : List Value} {x y : Int32} : gm_Go E d 118 89 lv (.int y :: .int x :: st) h r ↔ gm_Go E d 118 90 lv (.int (x &&& y) :: st) h r := gr_pure m118 f118_89 rfl
theorem f118_90 : gm_ft 118 90 = some (.ifCond .ne 10, 3) := by decide +kernel
theorem r118_90 {E : Nat → Value} {d : Nat} {st : List Value} {h : gm_H} {r : gm_R × gm_H} {lv : List Value} {x : Int32} : gm_Go E d 118 90 lv (.int x :: st) h r ↔ (if x = 0 then gm_Go E d 118 93 lv st h r else gm_Go E d 118 100 lv st h r) := (gr_br m118 f118_90 rfl rfl rfl rfl).trans gr_ifn
theorem f118_93 : gm_ft 118 93 = some (.aload_n 0, 1) := by decide +kernel
theorem r118_93 {E : Nat → Value} {d : Nat} {st : List Value} {h : gm_H} {r : gm_R × gm_H} {a1 a2 a3 a4 a5 a6 a7 : Value} {x : Nat} : gm_Go E d 118 93 [.ref x, a1, a2, a3, a4, a5, a6, a7] st h r ↔ gm_Go E d 118 94 [.ref x, a1, a2, a3, a4, a5, a6, a7] (.ref x :: st) h r := gr_loc m118 f118_93 rfl rfl
theorem r118_93n {E : Nat → Value} {d : Nat} {st : List Value} {h : gm_H} {r : gm_R × gm_H} {a1 a2 a3 a4 a5 a6 a7 : Value}  : gm_Go E d 118 93 [.null, a1, a2, a3, a4, a5, a6, a7] st h r ↔ gm_Go E d 118 94 [.null, a1, a2, a3, a4, a5, a6, a7] (.null :: st) h r := gr_loc m118 f118_93 rfl rfl
theorem f118_94 : gm_ft 118 94 = some (.bipush (-6), 2) := by decide +kernel
theorem r118_94 {E : Nat → Value} {d : Nat} {st : List Value} {h : gm_H} {r : gm_R × gm_H} {lv : List Value} : gm_Go E d 118 94 lv st h r ↔ gm_Go E d 118 96 lv (.int (-6 : Int32) :: st) h r := gr_pure m118 f118_94 rfl
theorem f118_96 : gm_ft 118 96 = some (.invokevirtual 151, 3) := by decide +kernel
theorem n118_96 {st : List Value} {h : gm_H} {E : Nat → Value} {lv : List Value} {b0 : Value} {a : Nat} (hs : (st.map fun v => v.category).sum ≤ 8) (he : (gm_en1 [.ref a, b0]).length ≤ 2) {vs : List Value} (hr : gm_rd h a = some (5, vs)) : gm_next E 118 96 lv (b0 :: .ref a :: st) h = some (.inr (.inl (0, 98, [.ref a, b0], st))) := gn_call m118 f118_96 rfl rfl rfl rfl rfl rfl rfl (gc_virt (bs := [b0]) (w := 844) rfl rfl rfl rfl hs he hr) (by decide)
theorem f118_99 : gm_ft 118 99 = some (.return_, 1) := by decide +kernel
theorem r118_99 {E : Nat → Value} {d : Nat} {h : gm_H} {r : gm_R × gm_H} {lv : List Value} : gm_Go E d 118 99 lv [] h r ↔ r = (.inl none, h) := gr_ret m118 f118_99 rfl rfl rfl rfl rfl rfl rfl rfl rfl
theorem f118_100 : gm_ft 118 100 = some (.iconst (-1), 1) := by decide +kernel
theorem r118_100 {E : Nat → Value} {d : Nat} {st : List Value} {h : gm_H} {r : gm_R × gm_H} {lv : List Value} : gm_Go E d 118 100 lv st h r ↔ gm_Go E d 118 101 lv (.int (-1 : Int32) :: st) h r := gr_pure m118 f118_100 rfl
theorem f118_101 : gm_ft 118 101 = some (.istore 6, 2) := by decide +kernel
theorem r118_101 {E : Nat → Value} {d : Nat} {st : List Value} {h : gm_H} {r : gm_R × gm_H} {a0 a1 a2 a3 a4 a5 a6 a7 : Value} {x : Int32} : gm_Go E d 118 101 [a0, a1, a2, a3, a4, a5, a6, a7] (.int x :: st) h r ↔ gm_Go E d 118 103 [a0, a1, a2, a3, a4, gm_k a5, .int x, a7] st h r := gr_loc m118 f118_101 rfl rfl
theorem f118_103 : gm_ft 118 103 = some (.iconst 0, 1) := by decide +kernel
theorem r118_103 {E : Nat → Value} {d : Nat} {st : List Value} {h : gm_H} {r : gm_R × gm_H} {lv : List Value} : gm_Go E d 118 103 lv st h r ↔ gm_Go E d 118 104 lv (.int (0 : Int32) :: st) h r := gr_pure m118 f118_103 rfl
theorem f118_104 : gm_ft 118 104 = some (.istore 7, 2) := by decide +kernel
theorem r118_104 {E : Nat → Value} {d : Nat} {st : List Value} {h : gm_H} {r : gm_R × gm_H} {a0 a1 a2 a3 a4 a5 a6 a7 : Value} {x : Int32} : gm_Go E d 118 104 [a0, a1, a2, a3, a4, a5, a6, a7] (.int x :: st) h r ↔ gm_Go E d 118 106 [a0, a1, a2, a3, a4, a5, gm_k a6, .int x] st h r := gr_loc m118 f118_104 rfl rfl
theorem f118_106 : gm_ft 118 106 = some (.iload 7, 2) := by decide +kernel
theorem r118_106 {E : Nat → Value} {d : Nat} {st : List Value} {h : gm_H} {r : gm_R × gm_H} {a0 a1 a2 a3 a4 a5 a6 : Value} {x : Int32} : gm_Go E d 118 106 [a0, a1, a2, a3, a4, a5, a6, .int x] st h r ↔ gm_Go E d 118 108 [a0, a1, a2, a3, a4, a5, a6, .int x] (.int x :: st) h r := gr_loc m118 f118_106 rfl rfl
theorem f118_108 : gm_ft 118 108 = some (.aload_n 0, 1) := by decide +kernel
theorem r118_108 {E : Nat → Value} {d : Nat} {st : List Value} {h : gm_H} {r : gm_R × gm_H} {a1 a2 a3 a4 a5 a6 a7 : Value} {x : Nat} : gm_Go E d 118 108 [.ref x, a1, a2, a3, a4, a5, a6, a7] st h r ↔ gm_Go E d 118 109 [.ref x, a1, a2, a3, a4, a5, a6, a7] (.ref x :: st) h r := gr_loc m118 f118_108 rfl rfl
theorem r118_108n {E : Nat → Value} {d : Nat} {st : List Value} {h : gm_H} {r : gm_R × gm_H} {a1 a2 a3 a4 a5 a6 a7 : Value}  : gm_Go E d 118 108 [.null, a1, a2, a3, a4, a5, a6, a7] st h r ↔ gm_Go E d 118 109 [.null, a1, a2, a3, a4, a5, a6, a7] (.null :: st) h r := gr_loc m118 f118_108 rfl rfl
theorem f118_109 : gm_ft 118 109 = some (.getfield 139, 3) := by decide +kernel
theorem r118_109 {E : Nat → Value} {d : Nat} {st : List Value} {h : gm_H} {r : gm_R × gm_H} {lv : List Value} {a : Nat} {vs : List Value} {v : Value} (hr : gm_rd h a = some (5, vs)) (hv : vs[23]? = some v) : gm_Go E d 118 109 lv (.ref a :: st) h r ↔ gm_Go E d 118 112 lv (v :: st) h r := gr_rd m118 f118_109 rfl rfl rfl rfl (gf_get k5_139 hr hv)
theorem f118_112 : gm_ft 118 112 = some (.if_icmp .ge 52, 3) := by decide +kernel
theorem r118_112 {E : Nat → Value} {d : Nat} {st : List Value} {h : gm_H} {r : gm_R × gm_H} {lv : List Value} {x y : Int32} : gm_Go E d 118 112 lv (.int y :: .int x :: st) h r ↔ (if y ≤ x then gm_Go E d 118 164 lv st h r else gm_Go E d 118 115 lv st h r) := (gr_br m118 f118_112 rfl rfl rfl rfl).trans gr_if
theorem f118_115 : gm_ft 118 115 = some (.iload 6, 2) := by decide +kernel
theorem r118_115 {E : Nat → Value} {d : Nat} {st : List Value} {h : gm_H} {r : gm_R × gm_H} {a0 a1 a2 a3 a4 a5 a7 : Value} {x : Int32} : gm_Go E d 118 115 [a0, a1, a2, a3, a4, a5, .int x, a7] st h r ↔ gm_Go E d 118 117 [a0, a1, a2, a3, a4, a5, .int x, a7] (.int x :: st) h r := gr_loc m118 f118_115 rfl rfl
theorem f118_117 : gm_ft 118 117 = some (.ifCond .ge 41, 3) := by decide +kernel
theorem r118_117 {E : Nat → Value} {d : Nat} {st : List Value} {h : gm_H} {r : gm_R × gm_H} {lv : List Value} {x : Int32} : gm_Go E d 118 117 lv (.int x :: st) h r ↔ (if 0 ≤ x then gm_Go E d 118 158 lv st h r else gm_Go E d 118 120 lv st h r) := (gr_br m118 f118_117 rfl rfl rfl rfl).trans gr_if
theorem f118_120 : gm_ft 118 120 = some (.aload_n 0, 1) := by decide +kernel
theorem r118_120 {E : Nat → Value} {d : Nat} {st : List Value} {h : gm_H} {r : gm_R × gm_H} {a1 a2 a3 a4 a5 a6 a7 : Value} {x : Nat} : gm_Go E d 118 120 [.ref x, a1, a2, a3, a4, a5, a6, a7] st h r ↔ gm_Go E d 118 121 [.ref x, a1, a2, a3, a4, a5, a6, a7] (.ref x :: st) h r := gr_loc m118 f118_120 rfl rfl
theorem r118_120n {E : Nat → Value} {d : Nat} {st : List Value} {h : gm_H} {r : gm_R × gm_H} {a1 a2 a3 a4 a5 a6 a7 : Value}  : gm_Go E d 118 120 [.null, a1, a2, a3, a4, a5, a6, a7] st h r ↔ gm_Go E d 118 121 [.null, a1, a2, a3, a4, a5, a6, a7] (.null :: st) h r := gr_loc m118 f118_120 rfl rfl
theorem f118_121 : gm_ft 118 121 = some (.getfield 39, 3) := by decide +kernel
theorem r118_121 {E : Nat → Value} {d : Nat} {st : List Value} {h : gm_H} {r : gm_R × gm_H} {lv : List Value} {a : Nat} {vs : List Value} {v : Value} (hr : gm_rd h a = some (5, vs)) (hv : vs[18]? = some v) : gm_Go E d 118 121 lv (.ref a :: st) h r ↔ gm_Go E d 118 124 lv (v :: st) h r := gr_rd m118 f118_121 rfl rfl rfl rfl (gf_get k5_39 hr hv)
theorem f118_124 : gm_ft 118 124 = some (.iload 7, 2) := by decide +kernel
theorem r118_124 {E : Nat → Value} {d : Nat} {st : List Value} {h : gm_H} {r : gm_R × gm_H} {a0 a1 a2 a3 a4 a5 a6 : Value} {x : Int32} : gm_Go E d 118 124 [a0, a1, a2, a3, a4, a5, a6, .int x] st h r ↔ gm_Go E d 118 126 [a0, a1, a2, a3, a4, a5, a6, .int x] (.int x :: st) h r := gr_loc m118 f118_124 rfl rfl
theorem f118_126 : gm_ft 118 126 = some (.iaload, 1) := by decide +kernel
theorem r118_126 {E : Nat → Value} {d : Nat} {st : List Value} {h : gm_H} {r : gm_R × gm_H} {lv : List Value} {a k j : Nat} {vs : List Value} {v : Value} (hr : gm_rd h a = some (k, vs)) (hk : 100 ≤ k ∧ (fun t => t == 0) (k % 100) = true) (hj : j < 2 ^ 31) (hv : vs[j]? = some v) : gm_Go E d 118 126 lv (.int (nI j) :: .ref a :: st) h r ↔ gm_Go E d 118 127 lv (v :: st) h r := gr_rd m118 f118_126 rfl rfl rfl rfl (ga_ld (P := fun t => t == 0) hr hk hj hv)
theorem f118_127 : gm_ft 118 127 = some (.iconst 4, 1) := by decide +kernel
theorem r118_127 {E : Nat → Value} {d : Nat} {st : List Value} {h : gm_H} {r : gm_R × gm_H} {lv : List Value} : gm_Go E d 118 127 lv st h r ↔ gm_Go E d 118 128 lv (.int (4 : Int32) :: st) h r := gr_pure m118 f118_127 rfl
theorem f118_128 : gm_ft 118 128 = some (.if_icmp .ne 30, 3) := by decide +kernel
theorem r118_128 {E : Nat → Value} {d : Nat} {st : List Value} {h : gm_H} {r : gm_R × gm_H} {lv : List Value} {x y : Int32} : gm_Go E d 118 128 lv (.int y :: .int x :: st) h r ↔ (if x = y then gm_Go E d 118 131 lv st h r else gm_Go E d 118 158 lv st h r) := (gr_br m118 f118_128 rfl rfl rfl rfl).trans gr_ifn
theorem f118_131 : gm_ft 118 131 = some (.aload_n 0, 1) := by decide +kernel
theorem r118_131 {E : Nat → Value} {d : Nat} {st : List Value} {h : gm_H} {r : gm_R × gm_H} {a1 a2 a3 a4 a5 a6 a7 : Value} {x : Nat} : gm_Go E d 118 131 [.ref x, a1, a2, a3, a4, a5, a6, a7] st h r ↔ gm_Go E d 118 132 [.ref x, a1, a2, a3, a4, a5, a6, a7] (.ref x :: st) h r := gr_loc m118 f118_131 rfl rfl
theorem r118_131n {E : Nat → Value} {d : Nat} {st : List Value} {h : gm_H} {r : gm_R × gm_H} {a1 a2 a3 a4 a5 a6 a7 : Value}  : gm_Go E d 118 131 [.null, a1, a2, a3, a4, a5, a6, a7] st h r ↔ gm_Go E d 118 132 [.null, a1, a2, a3, a4, a5, a6, a7] (.null :: st) h r := gr_loc m118 f118_131 rfl rfl
theorem f118_132 : gm_ft 118 132 = some (.getfield 42, 3) := by decide +kernel
theorem r118_132 {E : Nat → Value} {d : Nat} {st : List Value} {h : gm_H} {r : gm_R × gm_H} {lv : List Value} {a : Nat} {vs : List Value} {v : Value} (hr : gm_rd h a = some (5, vs)) (hv : vs[19]? = some v) : gm_Go E d 118 132 lv (.ref a :: st) h r ↔ gm_Go E d 118 135 lv (v :: st) h r := gr_rd m118 f118_132 rfl rfl rfl rfl (gf_get k5_42 hr hv)
theorem f118_135 : gm_ft 118 135 = some (.iload 7, 2) := by decide +kernel
theorem r118_135 {E : Nat → Value} {d : Nat} {st : List Value} {h : gm_H} {r : gm_R × gm_H} {a0 a1 a2 a3 a4 a5 a6 : Value} {x : Int32} : gm_Go E d 118 135 [a0, a1, a2, a3, a4, a5, a6, .int x] st h r ↔ gm_Go E d 118 137 [a0, a1, a2, a3, a4, a5, a6, .int x] (.int x :: st) h r := gr_loc m118 f118_135 rfl rfl
theorem f118_137 : gm_ft 118 137 = some (.iaload, 1) := by decide +kernel
theorem r118_137 {E : Nat → Value} {d : Nat} {st : List Value} {h : gm_H} {r : gm_R × gm_H} {lv : List Value} {a k j : Nat} {vs : List Value} {v : Value} (hr : gm_rd h a = some (k, vs)) (hk : 100 ≤ k ∧ (fun t => t == 0) (k % 100) = true) (hj : j < 2 ^ 31) (hv : vs[j]? = some v) : gm_Go E d 118 137 lv (.int (nI j) :: .ref a :: st) h r ↔ gm_Go E d 118 138 lv (v :: st) h r := gr_rd m118 f118_137 rfl rfl rfl rfl (ga_ld (P := fun t => t == 0) hr hk hj hv)
theorem f118_138 : gm_ft 118 138 = some (.iload_n 3, 1) := by decide +kernel
theorem r118_138 {E : Nat → Value} {d : Nat} {st : List Value} {h : gm_H} {r : gm_R × gm_H} {a0 a1 a2 a4 a5 a6 a7 : Value} {x : Int32} : gm_Go E d 118 138 [a0, a1, a2, .int x, a4, a5, a6, a7] st h r ↔ gm_Go E d 118 139 [a0, a1, a2, .int x, a4, a5, a6, a7] (.int x :: st) h r := gr_loc m118 f118_138 rfl rfl
theorem f118_139 : gm_ft 118 139 = some (.if_icmp .ne 19, 3) := by decide +kernel
theorem r118_139 {E : Nat → Value} {d : Nat} {st : List Value} {h : gm_H} {r : gm_R × gm_H} {lv : List Value} {x y : Int32} : gm_Go E d 118 139 lv (.int y :: .int x :: st) h r ↔ (if x = y then gm_Go E d 118 142 lv st h r else gm_Go E d 118 158 lv st h r) := (gr_br m118 f118_139 rfl rfl rfl rfl).trans gr_ifn
theorem f118_142 : gm_ft 118 142 = some (.aload_n 0, 1) := by decide +kernel
theorem r118_142 {E : Nat → Value} {d : Nat} {st : List Value} {h : gm_H} {r : gm_R × gm_H} {a1 a2 a3 a4 a5 a6 a7 : Value} {x : Nat} : gm_Go E d 118 142 [.ref x, a1, a2, a3, a4, a5, a6, a7] st h r ↔ gm_Go E d 118 143 [.ref x, a1, a2, a3, a4, a5, a6, a7] (.ref x :: st) h r := gr_loc m118 f118_142 rfl rfl
theorem r118_142n {E : Nat → Value} {d : Nat} {st : List Value} {h : gm_H} {r : gm_R × gm_H} {a1 a2 a3 a4 a5 a6 a7 : Value}  : gm_Go E d 118 142 [.null, a1, a2, a3, a4, a5, a6, a7] st h r ↔ gm_Go E d 118 143 [.null, a1, a2, a3, a4, a5, a6, a7] (.null :: st) h r := gr_loc m118 f118_142 rfl rfl
theorem f118_143 : gm_ft 118 143 = some (.getfield 45, 3) := by decide +kernel
theorem r118_143 {E : Nat → Value} {d : Nat} {st : List Value} {h : gm_H} {r : gm_R × gm_H} {lv : List Value} {a : Nat} {vs : List Value} {v : Value} (hr : gm_rd h a = some (5, vs)) (hv : vs[20]? = some v) : gm_Go E d 118 143 lv (.ref a :: st) h r ↔ gm_Go E d 118 146 lv (v :: st) h r := gr_rd m118 f118_143 rfl rfl rfl rfl (gf_get k5_45 hr hv)
theorem f118_146 : gm_ft 118 146 = some (.iload 7, 2) := by decide +kernel
theorem r118_146 {E : Nat → Value} {d : Nat} {st : List Value} {h : gm_H} {r : gm_R × gm_H} {a0 a1 a2 a3 a4 a5 a6 : Value} {x : Int32} : gm_Go E d 118 146 [a0, a1, a2, a3, a4, a5, a6, .int x] st h r ↔ gm_Go E d 118 148 [a0, a1, a2, a3, a4, a5, a6, .int x] (.int x :: st) h r := gr_loc m118 f118_146 rfl rfl
theorem f118_148 : gm_ft 118 148 = some (.iaload, 1) := by decide +kernel
theorem r118_148 {E : Nat → Value} {d : Nat} {st : List Value} {h : gm_H} {r : gm_R × gm_H} {lv : List Value} {a k j : Nat} {vs : List Value} {v : Value} (hr : gm_rd h a = some (k, vs)) (hk : 100 ≤ k ∧ (fun t => t == 0) (k % 100) = true) (hj : j < 2 ^ 31) (hv : vs[j]? = some v) : gm_Go E d 118 148 lv (.int (nI j) :: .ref a :: st) h r ↔ gm_Go E d 118 149 lv (v :: st) h r := gr_rd m118 f118_148 rfl rfl rfl rfl (ga_ld (P := fun t => t == 0) hr hk hj hv)
theorem f118_149 : gm_ft 118 149 = some (.iload 5, 2) := by decide +kernel
theorem r118_149 {E : Nat → Value} {d : Nat} {st : List Value} {h : gm_H} {r : gm_R × gm_H} {a0 a1 a2 a3 a4 a6 a7 : Value} {x : Int32} : gm_Go E d 118 149 [a0, a1, a2, a3, a4, .int x, a6, a7] st h r ↔ gm_Go E d 118 151 [a0, a1, a2, a3, a4, .int x, a6, a7] (.int x :: st) h r := gr_loc m118 f118_149 rfl rfl
theorem f118_151 : gm_ft 118 151 = some (.if_icmp .ne 7, 3) := by decide +kernel
theorem r118_151 {E : Nat → Value} {d : Nat} {st : List Value} {h : gm_H} {r : gm_R × gm_H} {lv : List Value} {x y : Int32} : gm_Go E d 118 151 lv (.int y :: .int x :: st) h r ↔ (if x = y then gm_Go E d 118 154 lv st h r else gm_Go E d 118 158 lv st h r) := (gr_br m118 f118_151 rfl rfl rfl rfl).trans gr_ifn
theorem f118_154 : gm_ft 118 154 = some (.iload 7, 2) := by decide +kernel
theorem r118_154 {E : Nat → Value} {d : Nat} {st : List Value} {h : gm_H} {r : gm_R × gm_H} {a0 a1 a2 a3 a4 a5 a6 : Value} {x : Int32} : gm_Go E d 118 154 [a0, a1, a2, a3, a4, a5, a6, .int x] st h r ↔ gm_Go E d 118 156 [a0, a1, a2, a3, a4, a5, a6, .int x] (.int x :: st) h r := gr_loc m118 f118_154 rfl rfl
theorem f118_156 : gm_ft 118 156 = some (.istore 6, 2) := by decide +kernel
theorem r118_156 {E : Nat → Value} {d : Nat} {st : List Value} {h : gm_H} {r : gm_R × gm_H} {a0 a1 a2 a3 a4 a5 a6 a7 : Value} {x : Int32} : gm_Go E d 118 156 [a0, a1, a2, a3, a4, a5, a6, a7] (.int x :: st) h r ↔ gm_Go E d 118 158 [a0, a1, a2, a3, a4, gm_k a5, .int x, a7] st h r := gr_loc m118 f118_156 rfl rfl
theorem f118_158 : gm_ft 118 158 = some (.iinc 7 1, 3) := by decide +kernel
theorem r118_158 {E : Nat → Value} {d : Nat} {st : List Value} {h : gm_H} {r : gm_R × gm_H} {a0 a1 a2 a3 a4 a5 a6 : Value} {x : Int32} : gm_Go E d 118 158 [a0, a1, a2, a3, a4, a5, a6, .int x] st h r ↔ gm_Go E d 118 161 [a0, a1, a2, a3, a4, a5, gm_k a6, .int (x + (1 : Int32))] st h r := gr_loc m118 f118_158 rfl rfl
theorem f118_161 : gm_ft 118 161 = some (.goto (-55), 3) := by decide +kernel
theorem r118_161 {E : Nat → Value} {d : Nat} {st : List Value} {h : gm_H} {r : gm_R × gm_H} {lv : List Value} : gm_Go E d 118 161 lv st h r ↔ gm_Go E d 118 106 lv st h r := gr_brT m118 f118_161 rfl rfl rfl rfl
theorem f118_164 : gm_ft 118 164 = some (.iload 6, 2) := by decide +kernel
theorem r118_164 {E : Nat → Value} {d : Nat} {st : List Value} {h : gm_H} {r : gm_R × gm_H} {a0 a1 a2 a3 a4 a5 a7 : Value} {x : Int32} : gm_Go E d 118 164 [a0, a1, a2, a3, a4, a5, .int x, a7] st h r ↔ gm_Go E d 118 166 [a0, a1, a2, a3, a4, a5, .int x, a7] (.int x :: st) h r := gr_loc m118 f118_164 rfl rfl
theorem f118_166 : gm_ft 118 166 = some (.ifCond .ge 14, 3) := by decide +kernel
theorem r118_166 {E : Nat → Value} {d : Nat} {st : List Value} {h : gm_H} {r : gm_R × gm_H} {lv : List Value} {x : Int32} : gm_Go E d 118 166 lv (.int x :: st) h r ↔ (if 0 ≤ x then gm_Go E d 118 180 lv st h r else gm_Go E d 118 169 lv st h r) := (gr_br m118 f118_166 rfl rfl rfl rfl).trans gr_if
theorem f118_169 : gm_ft 118 169 = some (.aload_n 0, 1) := by decide +kernel
theorem r118_169 {E : Nat → Value} {d : Nat} {st : List Value} {h : gm_H} {r : gm_R × gm_H} {a1 a2 a3 a4 a5 a6 a7 : Value} {x : Nat} : gm_Go E d 118 169 [.ref x, a1, a2, a3, a4, a5, a6, a7] st h r ↔ gm_Go E d 118 170 [.ref x, a1, a2, a3, a4, a5, a6, a7] (.ref x :: st) h r := gr_loc m118 f118_169 rfl rfl
theorem r118_169n {E : Nat → Value} {d : Nat} {st : List Value} {h : gm_H} {r : gm_R × gm_H} {a1 a2 a3 a4 a5 a6 a7 : Value}  : gm_Go E d 118 169 [.null, a1, a2, a3, a4, a5, a6, a7] st h r ↔ gm_Go E d 118 170 [.null, a1, a2, a3, a4, a5, a6, a7] (.null :: st) h r := gr_loc m118 f118_169 rfl rfl
theorem f118_170 : gm_ft 118 170 = some (.iconst 4, 1) := by decide +kernel
theorem r118_170 {E : Nat → Value} {d : Nat} {st : List Value} {h : gm_H} {r : gm_R × gm_H} {lv : List Value} : gm_Go E d 118 170 lv st h r ↔ gm_Go E d 118 171 lv (.int (4 : Int32) :: st) h r := gr_pure m118 f118_170 rfl
theorem f118_171 : gm_ft 118 171 = some (.iload_n 3, 1) := by decide +kernel
theorem r118_171 {E : Nat → Value} {d : Nat} {st : List Value} {h : gm_H} {r : gm_R × gm_H} {a0 a1 a2 a4 a5 a6 a7 : Value} {x : Int32} : gm_Go E d 118 171 [a0, a1, a2, .int x, a4, a5, a6, a7] st h r ↔ gm_Go E d 118 172 [a0, a1, a2, .int x, a4, a5, a6, a7] (.int x :: st) h r := gr_loc m118 f118_171 rfl rfl
theorem f118_172 : gm_ft 118 172 = some (.iload 5, 2) := by decide +kernel
theorem r118_172 {E : Nat → Value} {d : Nat} {st : List Value} {h : gm_H} {r : gm_R × gm_H} {a0 a1 a2 a3 a4 a6 a7 : Value} {x : Int32} : gm_Go E d 118 172 [a0, a1, a2, a3, a4, .int x, a6, a7] st h r ↔ gm_Go E d 118 174 [a0, a1, a2, a3, a4, .int x, a6, a7] (.int x :: st) h r := gr_loc m118 f118_172 rfl rfl
theorem f118_174 : gm_ft 118 174 = some (.iconst 0, 1) := by decide +kernel
theorem r118_174 {E : Nat → Value} {d : Nat} {st : List Value} {h : gm_H} {r : gm_R × gm_H} {lv : List Value} : gm_Go E d 118 174 lv st h r ↔ gm_Go E d 118 175 lv (.int (0 : Int32) :: st) h r := gr_pure m118 f118_174 rfl
theorem f118_175 : gm_ft 118 175 = some (.invokevirtual 196, 3) := by decide +kernel
theorem n118_175 {st : List Value} {h : gm_H} {E : Nat → Value} {lv : List Value} {b0 b1 b2 b3 : Value} {a : Nat} (hs : (st.map fun v => v.category).sum ≤ 8) (he : (gm_en1 [.ref a, b0, b1, b2, b3]).length ≤ 5) {vs : List Value} (hr : gm_rd h a = some (5, vs)) : gm_next E 118 175 lv (b3 :: b2 :: b1 :: b0 :: .ref a :: st) h = some (.inr (.inl (0, 110, [.ref a, b0, b1, b2, b3], st))) := gn_call m118 f118_175 rfl rfl rfl rfl rfl rfl rfl (gc_virt (bs := [b3, b2, b1, b0]) (w := 893) rfl rfl rfl rfl hs he hr) (by decide)
theorem f118_178 : gm_ft 118 178 = some (.istore 6, 2) := by decide +kernel
theorem r118_178 {E : Nat → Value} {d : Nat} {st : List Value} {h : gm_H} {r : gm_R × gm_H} {a0 a1 a2 a3 a4 a5 a6 a7 : Value} {x : Int32} : gm_Go E d 118 178 [a0, a1, a2, a3, a4, a5, a6, a7] (.int x :: st) h r ↔ gm_Go E d 118 180 [a0, a1, a2, a3, a4, gm_k a5, .int x, a7] st h r := gr_loc m118 f118_178 rfl rfl
theorem f118_180 : gm_ft 118 180 = some (.aload_n 0, 1) := by decide +kernel
theorem r118_180 {E : Nat → Value} {d : Nat} {st : List Value} {h : gm_H} {r : gm_R × gm_H} {a1 a2 a3 a4 a5 a6 a7 : Value} {x : Nat} : gm_Go E d 118 180 [.ref x, a1, a2, a3, a4, a5, a6, a7] st h r ↔ gm_Go E d 118 181 [.ref x, a1, a2, a3, a4, a5, a6, a7] (.ref x :: st) h r := gr_loc m118 f118_180 rfl rfl
theorem r118_180n {E : Nat → Value} {d : Nat} {st : List Value} {h : gm_H} {r : gm_R × gm_H} {a1 a2 a3 a4 a5 a6 a7 : Value}  : gm_Go E d 118 180 [.null, a1, a2, a3, a4, a5, a6, a7] st h r ↔ gm_Go E d 118 181 [.null, a1, a2, a3, a4, a5, a6, a7] (.null :: st) h r := gr_loc m118 f118_180 rfl rfl
theorem f118_181 : gm_ft 118 181 = some (.getfield 57, 3) := by decide +kernel
theorem r118_181 {E : Nat → Value} {d : Nat} {st : List Value} {h : gm_H} {r : gm_R × gm_H} {lv : List Value} {a : Nat} {vs : List Value} {v : Value} (hr : gm_rd h a = some (5, vs)) (hv : vs[26]? = some v) : gm_Go E d 118 181 lv (.ref a :: st) h r ↔ gm_Go E d 118 184 lv (v :: st) h r := gr_rd m118 f118_181 rfl rfl rfl rfl (gf_get k5_57 hr hv)
theorem f118_184 : gm_ft 118 184 = some (.aload_n 0, 1) := by decide +kernel
theorem r118_184 {E : Nat → Value} {d : Nat} {st : List Value} {h : gm_H} {r : gm_R × gm_H} {a1 a2 a3 a4 a5 a6 a7 : Value} {x : Nat} : gm_Go E d 118 184 [.ref x, a1, a2, a3, a4, a5, a6, a7] st h r ↔ gm_Go E d 118 185 [.ref x, a1, a2, a3, a4, a5, a6, a7] (.ref x :: st) h r := gr_loc m118 f118_184 rfl rfl
theorem r118_184n {E : Nat → Value} {d : Nat} {st : List Value} {h : gm_H} {r : gm_R × gm_H} {a1 a2 a3 a4 a5 a6 a7 : Value}  : gm_Go E d 118 184 [.null, a1, a2, a3, a4, a5, a6, a7] st h r ↔ gm_Go E d 118 185 [.null, a1, a2, a3, a4, a5, a6, a7] (.null :: st) h r := gr_loc m118 f118_184 rfl rfl
theorem f118_185 : gm_ft 118 185 = some (.getfield 102, 3) := by decide +kernel
theorem r118_185 {E : Nat → Value} {d : Nat} {st : List Value} {h : gm_H} {r : gm_R × gm_H} {lv : List Value} {a : Nat} {vs : List Value} {v : Value} (hr : gm_rd h a = some (5, vs)) (hv : vs[43]? = some v) : gm_Go E d 118 185 lv (.ref a :: st) h r ↔ gm_Go E d 118 188 lv (v :: st) h r := gr_rd m118 f118_185 rfl rfl rfl rfl (gf_get k5_102 hr hv)
theorem f118_188 : gm_ft 118 188 = some (.iload_n 1, 1) := by decide +kernel
theorem r118_188 {E : Nat → Value} {d : Nat} {st : List Value} {h : gm_H} {r : gm_R × gm_H} {a0 a2 a3 a4 a5 a6 a7 : Value} {x : Int32} : gm_Go E d 118 188 [a0, .int x, a2, a3, a4, a5, a6, a7] st h r ↔ gm_Go E d 118 189 [a0, .int x, a2, a3, a4, a5, a6, a7] (.int x :: st) h r := gr_loc m118 f118_188 rfl rfl
theorem f118_189 : gm_ft 118 189 = some (.iaload, 1) := by decide +kernel
theorem r118_189 {E : Nat → Value} {d : Nat} {st : List Value} {h : gm_H} {r : gm_R × gm_H} {lv : List Value} {a k j : Nat} {vs : List Value} {v : Value} (hr : gm_rd h a = some (k, vs)) (hk : 100 ≤ k ∧ (fun t => t == 0) (k % 100) = true) (hj : j < 2 ^ 31) (hv : vs[j]? = some v) : gm_Go E d 118 189 lv (.int (nI j) :: .ref a :: st) h r ↔ gm_Go E d 118 190 lv (v :: st) h r := gr_rd m118 f118_189 rfl rfl rfl rfl (ga_ld (P := fun t => t == 0) hr hk hj hv)
theorem f118_190 : gm_ft 118 190 = some (.iconst 2, 1) := by decide +kernel
theorem r118_190 {E : Nat → Value} {d : Nat} {st : List Value} {h : gm_H} {r : gm_R × gm_H} {lv : List Value} : gm_Go E d 118 190 lv st h r ↔ gm_Go E d 118 191 lv (.int (2 : Int32) :: st) h r := gr_pure m118 f118_190 rfl
theorem f118_191 : gm_ft 118 191 = some (.iastore, 1) := by decide +kernel
theorem r118_191 {E : Nat → Value} {d : Nat} {st : List Value} {h : gm_H} {r : gm_R × gm_H} {lv : List Value} {a k j : Nat} {vs : List Value} {x : Int32} (hr : gm_rd h a = some (k, vs)) (hk : 100 ≤ k ∧ k % 100 = 0 ∧ gm_ko k = 2 ∧ 2 < 3) (hj : j < 2 ^ 31) (hl : j < vs.length) : gm_Go E d 118 191 lv (.int x :: .int (nI j) :: .ref a :: st) h r ↔ gm_Go E d 118 192 lv st (gm_wr h a (k, vs.set j (.int x))) r := gr_wr m118 f118_191 rfl rfl rfl rfl rfl (ga_st hr hk hj hl)
theorem f118_192 : gm_ft 118 192 = some (.aload_n 0, 1) := by decide +kernel
theorem r118_192 {E : Nat → Value} {d : Nat} {st : List Value} {h : gm_H} {r : gm_R × gm_H} {a1 a2 a3 a4 a5 a6 a7 : Value} {x : Nat} : gm_Go E d 118 192 [.ref x, a1, a2, a3, a4, a5, a6, a7] st h r ↔ gm_Go E d 118 193 [.ref x, a1, a2, a3, a4, a5, a6, a7] (.ref x :: st) h r := gr_loc m118 f118_192 rfl rfl
theorem r118_192n {E : Nat → Value} {d : Nat} {st : List Value} {h : gm_H} {r : gm_R × gm_H} {a1 a2 a3 a4 a5 a6 a7 : Value}  : gm_Go E d 118 192 [.null, a1, a2, a3, a4, a5, a6, a7] st h r ↔ gm_Go E d 118 193 [.null, a1, a2, a3, a4, a5, a6, a7] (.null :: st) h r := gr_loc m118 f118_192 rfl rfl
theorem f118_193 : gm_ft 118 193 = some (.getfield 60, 3) := by decide +kernel
theorem r118_193 {E : Nat → Value} {d : Nat} {st : List Value} {h : gm_H} {r : gm_R × gm_H} {lv : List Value} {a : Nat} {vs : List Value} {v : Value} (hr : gm_rd h a = some (5, vs)) (hv : vs[27]? = some v) : gm_Go E d 118 193 lv (.ref a :: st) h r ↔ gm_Go E d 118 196 lv (v :: st) h r := gr_rd m118 f118_193 rfl rfl rfl rfl (gf_get k5_60 hr hv)
theorem f118_196 : gm_ft 118 196 = some (.aload_n 0, 1) := by decide +kernel
theorem r118_196 {E : Nat → Value} {d : Nat} {st : List Value} {h : gm_H} {r : gm_R × gm_H} {a1 a2 a3 a4 a5 a6 a7 : Value} {x : Nat} : gm_Go E d 118 196 [.ref x, a1, a2, a3, a4, a5, a6, a7] st h r ↔ gm_Go E d 118 197 [.ref x, a1, a2, a3, a4, a5, a6, a7] (.ref x :: st) h r := gr_loc m118 f118_196 rfl rfl
theorem r118_196n {E : Nat → Value} {d : Nat} {st : List Value} {h : gm_H} {r : gm_R × gm_H} {a1 a2 a3 a4 a5 a6 a7 : Value}  : gm_Go E d 118 196 [.null, a1, a2, a3, a4, a5, a6, a7] st h r ↔ gm_Go E d 118 197 [.null, a1, a2, a3, a4, a5, a6, a7] (.null :: st) h r := gr_loc m118 f118_196 rfl rfl
theorem f118_197 : gm_ft 118 197 = some (.getfield 102, 3) := by decide +kernel
theorem r118_197 {E : Nat → Value} {d : Nat} {st : List Value} {h : gm_H} {r : gm_R × gm_H} {lv : List Value} {a : Nat} {vs : List Value} {v : Value} (hr : gm_rd h a = some (5, vs)) (hv : vs[43]? = some v) : gm_Go E d 118 197 lv (.ref a :: st) h r ↔ gm_Go E d 118 200 lv (v :: st) h r := gr_rd m118 f118_197 rfl rfl rfl rfl (gf_get k5_102 hr hv)
theorem f118_200 : gm_ft 118 200 = some (.iload_n 1, 1) := by decide +kernel
theorem r118_200 {E : Nat → Value} {d : Nat} {st : List Value} {h : gm_H} {r : gm_R × gm_H} {a0 a2 a3 a4 a5 a6 a7 : Value} {x : Int32} : gm_Go E d 118 200 [a0, .int x, a2, a3, a4, a5, a6, a7] st h r ↔ gm_Go E d 118 201 [a0, .int x, a2, a3, a4, a5, a6, a7] (.int x :: st) h r := gr_loc m118 f118_200 rfl rfl
theorem f118_201 : gm_ft 118 201 = some (.iaload, 1) := by decide +kernel
theorem r118_201 {E : Nat → Value} {d : Nat} {st : List Value} {h : gm_H} {r : gm_R × gm_H} {lv : List Value} {a k j : Nat} {vs : List Value} {v : Value} (hr : gm_rd h a = some (k, vs)) (hk : 100 ≤ k ∧ (fun t => t == 0) (k % 100) = true) (hj : j < 2 ^ 31) (hv : vs[j]? = some v) : gm_Go E d 118 201 lv (.int (nI j) :: .ref a :: st) h r ↔ gm_Go E d 118 202 lv (v :: st) h r := gr_rd m118 f118_201 rfl rfl rfl rfl (ga_ld (P := fun t => t == 0) hr hk hj hv)
theorem f118_202 : gm_ft 118 202 = some (.iload 6, 2) := by decide +kernel
theorem r118_202 {E : Nat → Value} {d : Nat} {st : List Value} {h : gm_H} {r : gm_R × gm_H} {a0 a1 a2 a3 a4 a5 a7 : Value} {x : Int32} : gm_Go E d 118 202 [a0, a1, a2, a3, a4, a5, .int x, a7] st h r ↔ gm_Go E d 118 204 [a0, a1, a2, a3, a4, a5, .int x, a7] (.int x :: st) h r := gr_loc m118 f118_202 rfl rfl
theorem f118_204 : gm_ft 118 204 = some (.iastore, 1) := by decide +kernel
theorem r118_204 {E : Nat → Value} {d : Nat} {st : List Value} {h : gm_H} {r : gm_R × gm_H} {lv : List Value} {a k j : Nat} {vs : List Value} {x : Int32} (hr : gm_rd h a = some (k, vs)) (hk : 100 ≤ k ∧ k % 100 = 0 ∧ gm_ko k = 2 ∧ 2 < 3) (hj : j < 2 ^ 31) (hl : j < vs.length) : gm_Go E d 118 204 lv (.int x :: .int (nI j) :: .ref a :: st) h r ↔ gm_Go E d 118 205 lv st (gm_wr h a (k, vs.set j (.int x))) r := gr_wr m118 f118_204 rfl rfl rfl rfl rfl (ga_st hr hk hj hl)
theorem f118_205 : gm_ft 118 205 = some (.aload_n 0, 1) := by decide +kernel
theorem r118_205 {E : Nat → Value} {d : Nat} {st : List Value} {h : gm_H} {r : gm_R × gm_H} {a1 a2 a3 a4 a5 a6 a7 : Value} {x : Nat} : gm_Go E d 118 205 [.ref x, a1, a2, a3, a4, a5, a6, a7] st h r ↔ gm_Go E d 118 206 [.ref x, a1, a2, a3, a4, a5, a6, a7] (.ref x :: st) h r := gr_loc m118 f118_205 rfl rfl
theorem r118_205n {E : Nat → Value} {d : Nat} {st : List Value} {h : gm_H} {r : gm_R × gm_H} {a1 a2 a3 a4 a5 a6 a7 : Value}  : gm_Go E d 118 205 [.null, a1, a2, a3, a4, a5, a6, a7] st h r ↔ gm_Go E d 118 206 [.null, a1, a2, a3, a4, a5, a6, a7] (.null :: st) h r := gr_loc m118 f118_205 rfl rfl
theorem f118_206 : gm_ft 118 206 = some (.iload 6, 2) := by decide +kernel
theorem r118_206 {E : Nat → Value} {d : Nat} {st : List Value} {h : gm_H} {r : gm_R × gm_H} {a0 a1 a2 a3 a4 a5 a7 : Value} {x : Int32} : gm_Go E d 118 206 [a0, a1, a2, a3, a4, a5, .int x, a7] st h r ↔ gm_Go E d 118 208 [a0, a1, a2, a3, a4, a5, .int x, a7] (.int x :: st) h r := gr_loc m118 f118_206 rfl rfl
theorem f118_208 : gm_ft 118 208 = some (.invokevirtual 182, 3) := by decide +kernel
theorem n118_208 {st : List Value} {h : gm_H} {E : Nat → Value} {lv : List Value} {b0 : Value} {a : Nat} (hs : (st.map fun v => v.category).sum ≤ 8) (he : (gm_en1 [.ref a, b0]).length ≤ 2) {vs : List Value} (hr : gm_rd h a = some (5, vs)) : gm_next E 118 208 lv (b0 :: .ref a :: st) h = some (.inr (.inl (0, 105, [.ref a, b0], st))) := gn_call m118 f118_208 rfl rfl rfl rfl rfl rfl rfl (gc_virt (bs := [b0]) (w := 872) rfl rfl rfl rfl hs he hr) (by decide)
theorem f118_211 : gm_ft 118 211 = some (.return_, 1) := by decide +kernel
theorem r118_211 {E : Nat → Value} {d : Nat} {h : gm_H} {r : gm_R × gm_H} {lv : List Value} : gm_Go E d 118 211 lv [] h r ↔ r = (.inl none, h) := gr_ret m118 f118_211 rfl rfl rfl rfl rfl rfl rfl rfl rfl
/-! GraphReaderModel.stepDescriptor(I)V -/
theorem m119 : gm_mt[119]? = some (⟨"GraphReaderModel", "stepDescriptor", "(I)V"⟩, prog_7_method_36_code, 2, none, [], 5, 2) := rfl
theorem f119_0 : gm_ft 119 0 = some (.aload_n 0, 1) := by decide +kernel
theorem r119_0 {E : Nat → Value} {d : Nat} {st : List Value} {h : gm_H} {r : gm_R × gm_H} {a1 : Value} {x : Nat} : gm_Go E d 119 0 [.ref x, a1] st h r ↔ gm_Go E d 119 1 [.ref x, a1] (.ref x :: st) h r := gr_loc m119 f119_0 rfl rfl
theorem r119_0n {E : Nat → Value} {d : Nat} {st : List Value} {h : gm_H} {r : gm_R × gm_H} {a1 : Value}  : gm_Go E d 119 0 [.null, a1] st h r ↔ gm_Go E d 119 1 [.null, a1] (.null :: st) h r := gr_loc m119 f119_0 rfl rfl
theorem f119_1 : gm_ft 119 1 = some (.getfield 96, 3) := by decide +kernel
theorem r119_1 {E : Nat → Value} {d : Nat} {st : List Value} {h : gm_H} {r : gm_R × gm_H} {lv : List Value} {a : Nat} {vs : List Value} {v : Value} (hr : gm_rd h a = some (5, vs)) (hv : vs[41]? = some v) : gm_Go E d 119 1 lv (.ref a :: st) h r ↔ gm_Go E d 119 4 lv (v :: st) h r := gr_rd m119 f119_1 rfl rfl rfl rfl (gf_get k5_96 hr hv)
theorem f119_4 : gm_ft 119 4 = some (.iload_n 1, 1) := by decide +kernel
theorem r119_4 {E : Nat → Value} {d : Nat} {st : List Value} {h : gm_H} {r : gm_R × gm_H} {a0 : Value} {x : Int32} : gm_Go E d 119 4 [a0, .int x] st h r ↔ gm_Go E d 119 5 [a0, .int x] (.int x :: st) h r := gr_loc m119 f119_4 rfl rfl
theorem f119_5 : gm_ft 119 5 = some (.iaload, 1) := by decide +kernel
theorem r119_5 {E : Nat → Value} {d : Nat} {st : List Value} {h : gm_H} {r : gm_R × gm_H} {lv : List Value} {a k j : Nat} {vs : List Value} {v : Value} (hr : gm_rd h a = some (k, vs)) (hk : 100 ≤ k ∧ (fun t => t == 0) (k % 100) = true) (hj : j < 2 ^ 31) (hv : vs[j]? = some v) : gm_Go E d 119 5 lv (.int (nI j) :: .ref a :: st) h r ↔ gm_Go E d 119 6 lv (v :: st) h r := gr_rd m119 f119_5 rfl rfl rfl rfl (ga_ld (P := fun t => t == 0) hr hk hj hv)
theorem f119_6 : gm_ft 119 6 = some (.tableswitch 112 0 3 #[30, 38, 46, 82], 30) := by decide +kernel
theorem r119_6d {E : Nat → Value} {d : Nat} {st : List Value} {h : gm_H} {r : gm_R × gm_H} {lv : List Value} {x : Int32} (hx : x.toInt < 0 ∨ 3 < x.toInt) : gm_Go E d 119 6 lv (.int x :: st) h r ↔ gm_Go E d 119 118 lv st h r := gr_sw m119 f119_6 rfl rfl rfl (by unfold gm_sw; dsimp only; rw [if_pos hx]) rfl
theorem r119_6_0 {E : Nat → Value} {d : Nat} {st : List Value} {h : gm_H} {r : gm_R × gm_H} {lv : List Value} : gm_Go E d 119 6 lv (.int (0 : Int32) :: st) h r ↔ gm_Go E d 119 36 lv st h r := gr_sw m119 f119_6 rfl rfl rfl rfl rfl
theorem r119_6_1 {E : Nat → Value} {d : Nat} {st : List Value} {h : gm_H} {r : gm_R × gm_H} {lv : List Value} : gm_Go E d 119 6 lv (.int (1 : Int32) :: st) h r ↔ gm_Go E d 119 44 lv st h r := gr_sw m119 f119_6 rfl rfl rfl rfl rfl
theorem r119_6_2 {E : Nat → Value} {d : Nat} {st : List Value} {h : gm_H} {r : gm_R × gm_H} {lv : List Value} : gm_Go E d 119 6 lv (.int (2 : Int32) :: st) h r ↔ gm_Go E d 119 52 lv st h r := gr_sw m119 f119_6 rfl rfl rfl rfl rfl
theorem r119_6_3 {E : Nat → Value} {d : Nat} {st : List Value} {h : gm_H} {r : gm_R × gm_H} {lv : List Value} : gm_Go E d 119 6 lv (.int (3 : Int32) :: st) h r ↔ gm_Go E d 119 88 lv st h r := gr_sw m119 f119_6 rfl rfl rfl rfl rfl
theorem f119_36 : gm_ft 119 36 = some (.aload_n 0, 1) := by decide +kernel
theorem r119_36 {E : Nat → Value} {d : Nat} {st : List Value} {h : gm_H} {r : gm_R × gm_H} {a1 : Value} {x : Nat} : gm_Go E d 119 36 [.ref x, a1] st h r ↔ gm_Go E d 119 37 [.ref x, a1] (.ref x :: st) h r := gr_loc m119 f119_36 rfl rfl
theorem r119_36n {E : Nat → Value} {d : Nat} {st : List Value} {h : gm_H} {r : gm_R × gm_H} {a1 : Value}  : gm_Go E d 119 36 [.null, a1] st h r ↔ gm_Go E d 119 37 [.null, a1] (.null :: st) h r := gr_loc m119 f119_36 rfl rfl
theorem f119_37 : gm_ft 119 37 = some (.iload_n 1, 1) := by decide +kernel
theorem r119_37 {E : Nat → Value} {d : Nat} {st : List Value} {h : gm_H} {r : gm_R × gm_H} {a0 : Value} {x : Int32} : gm_Go E d 119 37 [a0, .int x] st h r ↔ gm_Go E d 119 38 [a0, .int x] (.int x :: st) h r := gr_loc m119 f119_37 rfl rfl
theorem f119_38 : gm_ft 119 38 = some (.invokevirtual 251, 3) := by decide +kernel
theorem n119_38 {st : List Value} {h : gm_H} {E : Nat → Value} {lv : List Value} {b0 : Value} {a : Nat} (hs : (st.map fun v => v.category).sum ≤ 8) (he : (gm_en1 [.ref a, b0]).length ≤ 11) {vs : List Value} (hr : gm_rd h a = some (5, vs)) : gm_next E 119 38 lv (b0 :: .ref a :: st) h = some (.inr (.inl (0, 120, [.ref a, b0], st))) := gn_call m119 f119_38 rfl rfl rfl rfl rfl rfl rfl (gc_virt (bs := [b0]) (w := 935) rfl rfl rfl rfl hs he hr) (by decide)
theorem f119_41 : gm_ft 119 41 = some (.goto 82, 3) := by decide +kernel
theorem r119_41 {E : Nat → Value} {d : Nat} {st : List Value} {h : gm_H} {r : gm_R × gm_H} {lv : List Value} : gm_Go E d 119 41 lv st h r ↔ gm_Go E d 119 123 lv st h r := gr_brT m119 f119_41 rfl rfl rfl rfl
theorem f119_44 : gm_ft 119 44 = some (.aload_n 0, 1) := by decide +kernel
theorem r119_44 {E : Nat → Value} {d : Nat} {st : List Value} {h : gm_H} {r : gm_R × gm_H} {a1 : Value} {x : Nat} : gm_Go E d 119 44 [.ref x, a1] st h r ↔ gm_Go E d 119 45 [.ref x, a1] (.ref x :: st) h r := gr_loc m119 f119_44 rfl rfl
theorem r119_44n {E : Nat → Value} {d : Nat} {st : List Value} {h : gm_H} {r : gm_R × gm_H} {a1 : Value}  : gm_Go E d 119 44 [.null, a1] st h r ↔ gm_Go E d 119 45 [.null, a1] (.null :: st) h r := gr_loc m119 f119_44 rfl rfl
theorem f119_45 : gm_ft 119 45 = some (.iload_n 1, 1) := by decide +kernel
theorem r119_45 {E : Nat → Value} {d : Nat} {st : List Value} {h : gm_H} {r : gm_R × gm_H} {a0 : Value} {x : Int32} : gm_Go E d 119 45 [a0, .int x] st h r ↔ gm_Go E d 119 46 [a0, .int x] (.int x :: st) h r := gr_loc m119 f119_45 rfl rfl
theorem f119_46 : gm_ft 119 46 = some (.invokevirtual 254, 3) := by decide +kernel
theorem n119_46 {st : List Value} {h : gm_H} {E : Nat → Value} {lv : List Value} {b0 : Value} {a : Nat} (hs : (st.map fun v => v.category).sum ≤ 8) (he : (gm_en1 [.ref a, b0]).length ≤ 6) {vs : List Value} (hr : gm_rd h a = some (5, vs)) : gm_next E 119 46 lv (b0 :: .ref a :: st) h = some (.inr (.inl (0, 122, [.ref a, b0], st))) := gn_call m119 f119_46 rfl rfl rfl rfl rfl rfl rfl (gc_virt (bs := [b0]) (w := 945) rfl rfl rfl rfl hs he hr) (by decide)
theorem f119_49 : gm_ft 119 49 = some (.goto 74, 3) := by decide +kernel
theorem r119_49 {E : Nat → Value} {d : Nat} {st : List Value} {h : gm_H} {r : gm_R × gm_H} {lv : List Value} : gm_Go E d 119 49 lv st h r ↔ gm_Go E d 119 123 lv st h r := gr_brT m119 f119_49 rfl rfl rfl rfl
theorem f119_52 : gm_ft 119 52 = some (.aload_n 0, 1) := by decide +kernel
theorem r119_52 {E : Nat → Value} {d : Nat} {st : List Value} {h : gm_H} {r : gm_R × gm_H} {a1 : Value} {x : Nat} : gm_Go E d 119 52 [.ref x, a1] st h r ↔ gm_Go E d 119 53 [.ref x, a1] (.ref x :: st) h r := gr_loc m119 f119_52 rfl rfl
theorem r119_52n {E : Nat → Value} {d : Nat} {st : List Value} {h : gm_H} {r : gm_R × gm_H} {a1 : Value}  : gm_Go E d 119 52 [.null, a1] st h r ↔ gm_Go E d 119 53 [.null, a1] (.null :: st) h r := gr_loc m119 f119_52 rfl rfl
theorem f119_53 : gm_ft 119 53 = some (.getfield 178, 3) := by decide +kernel
theorem r119_53 {E : Nat → Value} {d : Nat} {st : List Value} {h : gm_H} {r : gm_R × gm_H} {lv : List Value} {a : Nat} {vs : List Value} {v : Value} (hr : gm_rd h a = some (5, vs)) (hv : vs[9]? = some v) : gm_Go E d 119 53 lv (.ref a :: st) h r ↔ gm_Go E d 119 56 lv (v :: st) h r := gr_rd m119 f119_53 rfl rfl rfl rfl (gf_get k5_178 hr hv)
theorem f119_56 : gm_ft 119 56 = some (.ifCond .lt 16, 3) := by decide +kernel
theorem r119_56 {E : Nat → Value} {d : Nat} {st : List Value} {h : gm_H} {r : gm_R × gm_H} {lv : List Value} {x : Int32} : gm_Go E d 119 56 lv (.int x :: st) h r ↔ (if x < 0 then gm_Go E d 119 72 lv st h r else gm_Go E d 119 59 lv st h r) := (gr_br m119 f119_56 rfl rfl rfl rfl).trans gr_if
theorem f119_59 : gm_ft 119 59 = some (.aload_n 0, 1) := by decide +kernel
theorem r119_59 {E : Nat → Value} {d : Nat} {st : List Value} {h : gm_H} {r : gm_R × gm_H} {a1 : Value} {x : Nat} : gm_Go E d 119 59 [.ref x, a1] st h r ↔ gm_Go E d 119 60 [.ref x, a1] (.ref x :: st) h r := gr_loc m119 f119_59 rfl rfl
theorem r119_59n {E : Nat → Value} {d : Nat} {st : List Value} {h : gm_H} {r : gm_R × gm_H} {a1 : Value}  : gm_Go E d 119 59 [.null, a1] st h r ↔ gm_Go E d 119 60 [.null, a1] (.null :: st) h r := gr_loc m119 f119_59 rfl rfl
theorem f119_60 : gm_ft 119 60 = some (.getfield 39, 3) := by decide +kernel
theorem r119_60 {E : Nat → Value} {d : Nat} {st : List Value} {h : gm_H} {r : gm_R × gm_H} {lv : List Value} {a : Nat} {vs : List Value} {v : Value} (hr : gm_rd h a = some (5, vs)) (hv : vs[18]? = some v) : gm_Go E d 119 60 lv (.ref a :: st) h r ↔ gm_Go E d 119 63 lv (v :: st) h r := gr_rd m119 f119_60 rfl rfl rfl rfl (gf_get k5_39 hr hv)
theorem f119_63 : gm_ft 119 63 = some (.aload_n 0, 1) := by decide +kernel
theorem r119_63 {E : Nat → Value} {d : Nat} {st : List Value} {h : gm_H} {r : gm_R × gm_H} {a1 : Value} {x : Nat} : gm_Go E d 119 63 [.ref x, a1] st h r ↔ gm_Go E d 119 64 [.ref x, a1] (.ref x :: st) h r := gr_loc m119 f119_63 rfl rfl
theorem r119_63n {E : Nat → Value} {d : Nat} {st : List Value} {h : gm_H} {r : gm_R × gm_H} {a1 : Value}  : gm_Go E d 119 63 [.null, a1] st h r ↔ gm_Go E d 119 64 [.null, a1] (.null :: st) h r := gr_loc m119 f119_63 rfl rfl
theorem f119_64 : gm_ft 119 64 = some (.getfield 178, 3) := by decide +kernel
theorem r119_64 {E : Nat → Value} {d : Nat} {st : List Value} {h : gm_H} {r : gm_R × gm_H} {lv : List Value} {a : Nat} {vs : List Value} {v : Value} (hr : gm_rd h a = some (5, vs)) (hv : vs[9]? = some v) : gm_Go E d 119 64 lv (.ref a :: st) h r ↔ gm_Go E d 119 67 lv (v :: st) h r := gr_rd m119 f119_64 rfl rfl rfl rfl (gf_get k5_178 hr hv)
theorem f119_67 : gm_ft 119 67 = some (.iaload, 1) := by decide +kernel
theorem r119_67 {E : Nat → Value} {d : Nat} {st : List Value} {h : gm_H} {r : gm_R × gm_H} {lv : List Value} {a k j : Nat} {vs : List Value} {v : Value} (hr : gm_rd h a = some (k, vs)) (hk : 100 ≤ k ∧ (fun t => t == 0) (k % 100) = true) (hj : j < 2 ^ 31) (hv : vs[j]? = some v) : gm_Go E d 119 67 lv (.int (nI j) :: .ref a :: st) h r ↔ gm_Go E d 119 68 lv (v :: st) h r := gr_rd m119 f119_67 rfl rfl rfl rfl (ga_ld (P := fun t => t == 0) hr hk hj hv)
theorem f119_68 : gm_ft 119 68 = some (.iconst 1, 1) := by decide +kernel
theorem r119_68 {E : Nat → Value} {d : Nat} {st : List Value} {h : gm_H} {r : gm_R × gm_H} {lv : List Value} : gm_Go E d 119 68 lv st h r ↔ gm_Go E d 119 69 lv (.int (1 : Int32) :: st) h r := gr_pure m119 f119_68 rfl
theorem f119_69 : gm_ft 119 69 = some (.if_icmp .eq 9, 3) := by decide +kernel
theorem r119_69 {E : Nat → Value} {d : Nat} {st : List Value} {h : gm_H} {r : gm_R × gm_H} {lv : List Value} {x y : Int32} : gm_Go E d 119 69 lv (.int y :: .int x :: st) h r ↔ (if x = y then gm_Go E d 119 78 lv st h r else gm_Go E d 119 72 lv st h r) := (gr_br m119 f119_69 rfl rfl rfl rfl).trans gr_if
theorem f119_72 : gm_ft 119 72 = some (.aload_n 0, 1) := by decide +kernel
theorem r119_72 {E : Nat → Value} {d : Nat} {st : List Value} {h : gm_H} {r : gm_R × gm_H} {a1 : Value} {x : Nat} : gm_Go E d 119 72 [.ref x, a1] st h r ↔ gm_Go E d 119 73 [.ref x, a1] (.ref x :: st) h r := gr_loc m119 f119_72 rfl rfl
theorem r119_72n {E : Nat → Value} {d : Nat} {st : List Value} {h : gm_H} {r : gm_R × gm_H} {a1 : Value}  : gm_Go E d 119 72 [.null, a1] st h r ↔ gm_Go E d 119 73 [.null, a1] (.null :: st) h r := gr_loc m119 f119_72 rfl rfl
theorem f119_73 : gm_ft 119 73 = some (.bipush (-4), 2) := by decide +kernel
theorem r119_73 {E : Nat → Value} {d : Nat} {st : List Value} {h : gm_H} {r : gm_R × gm_H} {lv : List Value} : gm_Go E d 119 73 lv st h r ↔ gm_Go E d 119 75 lv (.int (-4 : Int32) :: st) h r := gr_pure m119 f119_73 rfl
theorem f119_75 : gm_ft 119 75 = some (.invokevirtual 151, 3) := by decide +kernel
theorem n119_75 {st : List Value} {h : gm_H} {E : Nat → Value} {lv : List Value} {b0 : Value} {a : Nat} (hs : (st.map fun v => v.category).sum ≤ 8) (he : (gm_en1 [.ref a, b0]).length ≤ 2) {vs : List Value} (hr : gm_rd h a = some (5, vs)) : gm_next E 119 75 lv (b0 :: .ref a :: st) h = some (.inr (.inl (0, 98, [.ref a, b0], st))) := gn_call m119 f119_75 rfl rfl rfl rfl rfl rfl rfl (gc_virt (bs := [b0]) (w := 844) rfl rfl rfl rfl hs he hr) (by decide)
theorem f119_78 : gm_ft 119 78 = some (.aload_n 0, 1) := by decide +kernel
theorem r119_78 {E : Nat → Value} {d : Nat} {st : List Value} {h : gm_H} {r : gm_R × gm_H} {a1 : Value} {x : Nat} : gm_Go E d 119 78 [.ref x, a1] st h r ↔ gm_Go E d 119 79 [.ref x, a1] (.ref x :: st) h r := gr_loc m119 f119_78 rfl rfl
theorem r119_78n {E : Nat → Value} {d : Nat} {st : List Value} {h : gm_H} {r : gm_R × gm_H} {a1 : Value}  : gm_Go E d 119 78 [.null, a1] st h r ↔ gm_Go E d 119 79 [.null, a1] (.null :: st) h r := gr_loc m119 f119_78 rfl rfl
theorem f119_79 : gm_ft 119 79 = some (.getfield 96, 3) := by decide +kernel
theorem r119_79 {E : Nat → Value} {d : Nat} {st : List Value} {h : gm_H} {r : gm_R × gm_H} {lv : List Value} {a : Nat} {vs : List Value} {v : Value} (hr : gm_rd h a = some (5, vs)) (hv : vs[41]? = some v) : gm_Go E d 119 79 lv (.ref a :: st) h r ↔ gm_Go E d 119 82 lv (v :: st) h r := gr_rd m119 f119_79 rfl rfl rfl rfl (gf_get k5_96 hr hv)
theorem f119_82 : gm_ft 119 82 = some (.iload_n 1, 1) := by decide +kernel
theorem r119_82 {E : Nat → Value} {d : Nat} {st : List Value} {h : gm_H} {r : gm_R × gm_H} {a0 : Value} {x : Int32} : gm_Go E d 119 82 [a0, .int x] st h r ↔ gm_Go E d 119 83 [a0, .int x] (.int x :: st) h r := gr_loc m119 f119_82 rfl rfl
theorem f119_83 : gm_ft 119 83 = some (.iconst 1, 1) := by decide +kernel
theorem r119_83 {E : Nat → Value} {d : Nat} {st : List Value} {h : gm_H} {r : gm_R × gm_H} {lv : List Value} : gm_Go E d 119 83 lv st h r ↔ gm_Go E d 119 84 lv (.int (1 : Int32) :: st) h r := gr_pure m119 f119_83 rfl
theorem f119_84 : gm_ft 119 84 = some (.iastore, 1) := by decide +kernel
theorem r119_84 {E : Nat → Value} {d : Nat} {st : List Value} {h : gm_H} {r : gm_R × gm_H} {lv : List Value} {a k j : Nat} {vs : List Value} {x : Int32} (hr : gm_rd h a = some (k, vs)) (hk : 100 ≤ k ∧ k % 100 = 0 ∧ gm_ko k = 2 ∧ 2 < 3) (hj : j < 2 ^ 31) (hl : j < vs.length) : gm_Go E d 119 84 lv (.int x :: .int (nI j) :: .ref a :: st) h r ↔ gm_Go E d 119 85 lv st (gm_wr h a (k, vs.set j (.int x))) r := gr_wr m119 f119_84 rfl rfl rfl rfl rfl (ga_st hr hk hj hl)
theorem f119_85 : gm_ft 119 85 = some (.goto 38, 3) := by decide +kernel
theorem r119_85 {E : Nat → Value} {d : Nat} {st : List Value} {h : gm_H} {r : gm_R × gm_H} {lv : List Value} : gm_Go E d 119 85 lv st h r ↔ gm_Go E d 119 123 lv st h r := gr_brT m119 f119_85 rfl rfl rfl rfl
theorem f119_88 : gm_ft 119 88 = some (.aload_n 0, 1) := by decide +kernel
theorem r119_88 {E : Nat → Value} {d : Nat} {st : List Value} {h : gm_H} {r : gm_R × gm_H} {a1 : Value} {x : Nat} : gm_Go E d 119 88 [.ref x, a1] st h r ↔ gm_Go E d 119 89 [.ref x, a1] (.ref x :: st) h r := gr_loc m119 f119_88 rfl rfl
theorem r119_88n {E : Nat → Value} {d : Nat} {st : List Value} {h : gm_H} {r : gm_R × gm_H} {a1 : Value}  : gm_Go E d 119 88 [.null, a1] st h r ↔ gm_Go E d 119 89 [.null, a1] (.null :: st) h r := gr_loc m119 f119_88 rfl rfl
theorem f119_89 : gm_ft 119 89 = some (.getfield 96, 3) := by decide +kernel
theorem r119_89 {E : Nat → Value} {d : Nat} {st : List Value} {h : gm_H} {r : gm_R × gm_H} {lv : List Value} {a : Nat} {vs : List Value} {v : Value} (hr : gm_rd h a = some (5, vs)) (hv : vs[41]? = some v) : gm_Go E d 119 89 lv (.ref a :: st) h r ↔ gm_Go E d 119 92 lv (v :: st) h r := gr_rd m119 f119_89 rfl rfl rfl rfl (gf_get k5_96 hr hv)
theorem f119_92 : gm_ft 119 92 = some (.iload_n 1, 1) := by decide +kernel
theorem r119_92 {E : Nat → Value} {d : Nat} {st : List Value} {h : gm_H} {r : gm_R × gm_H} {a0 : Value} {x : Int32} : gm_Go E d 119 92 [a0, .int x] st h r ↔ gm_Go E d 119 93 [a0, .int x] (.int x :: st) h r := gr_loc m119 f119_92 rfl rfl
theorem f119_93 : gm_ft 119 93 = some (.iconst 4, 1) := by decide +kernel
theorem r119_93 {E : Nat → Value} {d : Nat} {st : List Value} {h : gm_H} {r : gm_R × gm_H} {lv : List Value} : gm_Go E d 119 93 lv st h r ↔ gm_Go E d 119 94 lv (.int (4 : Int32) :: st) h r := gr_pure m119 f119_93 rfl
theorem f119_94 : gm_ft 119 94 = some (.iastore, 1) := by decide +kernel
theorem r119_94 {E : Nat → Value} {d : Nat} {st : List Value} {h : gm_H} {r : gm_R × gm_H} {lv : List Value} {a k j : Nat} {vs : List Value} {x : Int32} (hr : gm_rd h a = some (k, vs)) (hk : 100 ≤ k ∧ k % 100 = 0 ∧ gm_ko k = 2 ∧ 2 < 3) (hj : j < 2 ^ 31) (hl : j < vs.length) : gm_Go E d 119 94 lv (.int x :: .int (nI j) :: .ref a :: st) h r ↔ gm_Go E d 119 95 lv st (gm_wr h a (k, vs.set j (.int x))) r := gr_wr m119 f119_94 rfl rfl rfl rfl rfl (ga_st hr hk hj hl)
theorem f119_95 : gm_ft 119 95 = some (.aload_n 0, 1) := by decide +kernel
theorem r119_95 {E : Nat → Value} {d : Nat} {st : List Value} {h : gm_H} {r : gm_R × gm_H} {a1 : Value} {x : Nat} : gm_Go E d 119 95 [.ref x, a1] st h r ↔ gm_Go E d 119 96 [.ref x, a1] (.ref x :: st) h r := gr_loc m119 f119_95 rfl rfl
theorem r119_95n {E : Nat → Value} {d : Nat} {st : List Value} {h : gm_H} {r : gm_R × gm_H} {a1 : Value}  : gm_Go E d 119 95 [.null, a1] st h r ↔ gm_Go E d 119 96 [.null, a1] (.null :: st) h r := gr_loc m119 f119_95 rfl rfl
theorem f119_96 : gm_ft 119 96 = some (.iconst 2, 1) := by decide +kernel
theorem r119_96 {E : Nat → Value} {d : Nat} {st : List Value} {h : gm_H} {r : gm_R × gm_H} {lv : List Value} : gm_Go E d 119 96 lv st h r ↔ gm_Go E d 119 97 lv (.int (2 : Int32) :: st) h r := gr_pure m119 f119_96 rfl
theorem f119_97 : gm_ft 119 97 = some (.aload_n 0, 1) := by decide +kernel
theorem r119_97 {E : Nat → Value} {d : Nat} {st : List Value} {h : gm_H} {r : gm_R × gm_H} {a1 : Value} {x : Nat} : gm_Go E d 119 97 [.ref x, a1] st h r ↔ gm_Go E d 119 98 [.ref x, a1] (.ref x :: st) h r := gr_loc m119 f119_97 rfl rfl
theorem r119_97n {E : Nat → Value} {d : Nat} {st : List Value} {h : gm_H} {r : gm_R × gm_H} {a1 : Value}  : gm_Go E d 119 97 [.null, a1] st h r ↔ gm_Go E d 119 98 [.null, a1] (.null :: st) h r := gr_loc m119 f119_97 rfl rfl
theorem f119_98 : gm_ft 119 98 = some (.getfield 99, 3) := by decide +kernel
theorem r119_98 {E : Nat → Value} {d : Nat} {st : List Value} {h : gm_H} {r : gm_R × gm_H} {lv : List Value} {a : Nat} {vs : List Value} {v : Value} (hr : gm_rd h a = some (5, vs)) (hv : vs[42]? = some v) : gm_Go E d 119 98 lv (.ref a :: st) h r ↔ gm_Go E d 119 101 lv (v :: st) h r := gr_rd m119 f119_98 rfl rfl rfl rfl (gf_get k5_99 hr hv)
theorem f119_101 : gm_ft 119 101 = some (.iload_n 1, 1) := by decide +kernel
theorem r119_101 {E : Nat → Value} {d : Nat} {st : List Value} {h : gm_H} {r : gm_R × gm_H} {a0 : Value} {x : Int32} : gm_Go E d 119 101 [a0, .int x] st h r ↔ gm_Go E d 119 102 [a0, .int x] (.int x :: st) h r := gr_loc m119 f119_101 rfl rfl
theorem f119_102 : gm_ft 119 102 = some (.iaload, 1) := by decide +kernel
theorem r119_102 {E : Nat → Value} {d : Nat} {st : List Value} {h : gm_H} {r : gm_R × gm_H} {lv : List Value} {a k j : Nat} {vs : List Value} {v : Value} (hr : gm_rd h a = some (k, vs)) (hk : 100 ≤ k ∧ (fun t => t == 0) (k % 100) = true) (hj : j < 2 ^ 31) (hv : vs[j]? = some v) : gm_Go E d 119 102 lv (.int (nI j) :: .ref a :: st) h r ↔ gm_Go E d 119 103 lv (v :: st) h r := gr_rd m119 f119_102 rfl rfl rfl rfl (ga_ld (P := fun t => t == 0) hr hk hj hv)
theorem f119_103 : gm_ft 119 103 = some (.aload_n 0, 1) := by decide +kernel
theorem r119_103 {E : Nat → Value} {d : Nat} {st : List Value} {h : gm_H} {r : gm_R × gm_H} {a1 : Value} {x : Nat} : gm_Go E d 119 103 [.ref x, a1] st h r ↔ gm_Go E d 119 104 [.ref x, a1] (.ref x :: st) h r := gr_loc m119 f119_103 rfl rfl
theorem r119_103n {E : Nat → Value} {d : Nat} {st : List Value} {h : gm_H} {r : gm_R × gm_H} {a1 : Value}  : gm_Go E d 119 103 [.null, a1] st h r ↔ gm_Go E d 119 104 [.null, a1] (.null :: st) h r := gr_loc m119 f119_103 rfl rfl
theorem f119_104 : gm_ft 119 104 = some (.getfield 102, 3) := by decide +kernel
theorem r119_104 {E : Nat → Value} {d : Nat} {st : List Value} {h : gm_H} {r : gm_R × gm_H} {lv : List Value} {a : Nat} {vs : List Value} {v : Value} (hr : gm_rd h a = some (5, vs)) (hv : vs[43]? = some v) : gm_Go E d 119 104 lv (.ref a :: st) h r ↔ gm_Go E d 119 107 lv (v :: st) h r := gr_rd m119 f119_104 rfl rfl rfl rfl (gf_get k5_102 hr hv)
theorem f119_107 : gm_ft 119 107 = some (.iload_n 1, 1) := by decide +kernel
theorem r119_107 {E : Nat → Value} {d : Nat} {st : List Value} {h : gm_H} {r : gm_R × gm_H} {a0 : Value} {x : Int32} : gm_Go E d 119 107 [a0, .int x] st h r ↔ gm_Go E d 119 108 [a0, .int x] (.int x :: st) h r := gr_loc m119 f119_107 rfl rfl
theorem f119_108 : gm_ft 119 108 = some (.iaload, 1) := by decide +kernel
theorem r119_108 {E : Nat → Value} {d : Nat} {st : List Value} {h : gm_H} {r : gm_R × gm_H} {lv : List Value} {a k j : Nat} {vs : List Value} {v : Value} (hr : gm_rd h a = some (k, vs)) (hk : 100 ≤ k ∧ (fun t => t == 0) (k % 100) = true) (hj : j < 2 ^ 31) (hv : vs[j]? = some v) : gm_Go E d 119 108 lv (.int (nI j) :: .ref a :: st) h r ↔ gm_Go E d 119 109 lv (v :: st) h r := gr_rd m119 f119_108 rfl rfl rfl rfl (ga_ld (P := fun t => t == 0) hr hk hj hv)
theorem f119_109 : gm_ft 119 109 = some (.iconst 1, 1) := by decide +kernel
theorem r119_109 {E : Nat → Value} {d : Nat} {st : List Value} {h : gm_H} {r : gm_R × gm_H} {lv : List Value} : gm_Go E d 119 109 lv st h r ↔ gm_Go E d 119 110 lv (.int (1 : Int32) :: st) h r := gr_pure m119 f119_109 rfl
theorem f119_110 : gm_ft 119 110 = some (.iadd, 1) := by decide +kernel
theorem r119_110 {E : Nat → Value} {d : Nat} {st : List Value} {h : gm_H} {r : gm_R × gm_H} {lv : List Value} {x y : Int32} : gm_Go E d 119 110 lv (.int y :: .int x :: st) h r ↔ gm_Go E d 119 111 lv (.int (x + y) :: st) h r := gr_pure m119 f119_110 rfl
theorem f119_111 : gm_ft 119 111 = some (.iconst 0, 1) := by decide +kernel
theorem r119_111 {E : Nat → Value} {d : Nat} {st : List Value} {h : gm_H} {r : gm_R × gm_H} {lv : List Value} : gm_Go E d 119 111 lv st h r ↔ gm_Go E d 119 112 lv (.int (0 : Int32) :: st) h r := gr_pure m119 f119_111 rfl
theorem f119_112 : gm_ft 119 112 = some (.invokevirtual 200, 3) := by decide +kernel
theorem n119_112 {st : List Value} {h : gm_H} {E : Nat → Value} {lv : List Value} {b0 b1 b2 b3 : Value} {a : Nat} (hs : (st.map fun v => v.category).sum ≤ 8) (he : (gm_en1 [.ref a, b0, b1, b2, b3]).length ≤ 5) {vs : List Value} (hr : gm_rd h a = some (5, vs)) : gm_next E 119 112 lv (b3 :: b2 :: b1 :: b0 :: .ref a :: st) h = some (.inr (.inl (0, 101, [.ref a, b0, b1, b2, b3], st))) := gn_call m119 f119_112 rfl rfl rfl rfl rfl rfl rfl (gc_virt (bs := [b3, b2, b1, b0]) (w := 856) rfl rfl rfl rfl hs he hr) (by decide)
theorem f119_115 : gm_ft 119 115 = some (.goto 8, 3) := by decide +kernel
theorem r119_115 {E : Nat → Value} {d : Nat} {st : List Value} {h : gm_H} {r : gm_R × gm_H} {lv : List Value} : gm_Go E d 119 115 lv st h r ↔ gm_Go E d 119 123 lv st h r := gr_brT m119 f119_115 rfl rfl rfl rfl
theorem f119_118 : gm_ft 119 118 = some (.aload_n 0, 1) := by decide +kernel
theorem r119_118 {E : Nat → Value} {d : Nat} {st : List Value} {h : gm_H} {r : gm_R × gm_H} {a1 : Value} {x : Nat} : gm_Go E d 119 118 [.ref x, a1] st h r ↔ gm_Go E d 119 119 [.ref x, a1] (.ref x :: st) h r := gr_loc m119 f119_118 rfl rfl
theorem r119_118n {E : Nat → Value} {d : Nat} {st : List Value} {h : gm_H} {r : gm_R × gm_H} {a1 : Value}  : gm_Go E d 119 118 [.null, a1] st h r ↔ gm_Go E d 119 119 [.null, a1] (.null :: st) h r := gr_loc m119 f119_118 rfl rfl
theorem f119_119 : gm_ft 119 119 = some (.iload_n 1, 1) := by decide +kernel
theorem r119_119 {E : Nat → Value} {d : Nat} {st : List Value} {h : gm_H} {r : gm_R × gm_H} {a0 : Value} {x : Int32} : gm_Go E d 119 119 [a0, .int x] st h r ↔ gm_Go E d 119 120 [a0, .int x] (.int x :: st) h r := gr_loc m119 f119_119 rfl rfl
theorem f119_120 : gm_ft 119 120 = some (.invokevirtual 257, 3) := by decide +kernel
theorem n119_120 {st : List Value} {h : gm_H} {E : Nat → Value} {lv : List Value} {b0 : Value} {a : Nat} (hs : (st.map fun v => v.category).sum ≤ 8) (he : (gm_en1 [.ref a, b0]).length ≤ 4) {vs : List Value} (hr : gm_rd h a = some (5, vs)) : gm_next E 119 120 lv (b0 :: .ref a :: st) h = some (.inr (.inl (0, 124, [.ref a, b0], st))) := gn_call m119 f119_120 rfl rfl rfl rfl rfl rfl rfl (gc_virt (bs := [b0]) (w := 953) rfl rfl rfl rfl hs he hr) (by decide)
theorem f119_123 : gm_ft 119 123 = some (.return_, 1) := by decide +kernel
theorem r119_123 {E : Nat → Value} {d : Nat} {h : gm_H} {r : gm_R × gm_H} {lv : List Value} : gm_Go E d 119 123 lv [] h r ↔ r = (.inl none, h) := gr_ret m119 f119_123 rfl rfl rfl rfl rfl rfl rfl rfl rfl
/-! GraphReaderModel.startDescriptor(I)V -/
theorem m120 : gm_mt[120]? = some (⟨"GraphReaderModel", "startDescriptor", "(I)V"⟩, prog_7_method_31_code, 11, none, [], 5, 2) := rfl
theorem f120_0 : gm_ft 120 0 = some (.aload_n 0, 1) := by decide +kernel
theorem r120_0 {E : Nat → Value} {d : Nat} {st : List Value} {h : gm_H} {r : gm_R × gm_H} {a1 a2 a3 a4 a5 a6 a7 a8 a9 a10 : Value} {x : Nat} : gm_Go E d 120 0 [.ref x, a1, a2, a3, a4, a5, a6, a7, a8, a9, a10] st h r ↔ gm_Go E d 120 1 [.ref x, a1, a2, a3, a4, a5, a6, a7, a8, a9, a10] (.ref x :: st) h r := gr_loc m120 f120_0 rfl rfl
theorem r120_0n {E : Nat → Value} {d : Nat} {st : List Value} {h : gm_H} {r : gm_R × gm_H} {a1 a2 a3 a4 a5 a6 a7 a8 a9 a10 : Value}  : gm_Go E d 120 0 [.null, a1, a2, a3, a4, a5, a6, a7, a8, a9, a10] st h r ↔ gm_Go E d 120 1 [.null, a1, a2, a3, a4, a5, a6, a7, a8, a9, a10] (.null :: st) h r := gr_loc m120 f120_0 rfl rfl
theorem f120_1 : gm_ft 120 1 = some (.invokevirtual 155, 3) := by decide +kernel
theorem n120_1 {st : List Value} {h : gm_H} {E : Nat → Value} {lv : List Value} {a : Nat} (hs : (st.map fun v => v.category).sum ≤ 8) (he : (gm_en1 [.ref a]).length ≤ 1) {vs : List Value} (hr : gm_rd h a = some (5, vs)) : gm_next E 120 1 lv (.ref a :: st) h = some (.inr (.inl (0, 99, [.ref a], st))) := gn_call m120 f120_1 rfl rfl rfl rfl rfl rfl rfl (gc_virt (bs := []) (w := 848) rfl rfl rfl rfl hs he hr) (by decide)
theorem f120_4 : gm_ft 120 4 = some (.istore_n 2, 1) := by decide +kernel
theorem r120_4 {E : Nat → Value} {d : Nat} {st : List Value} {h : gm_H} {r : gm_R × gm_H} {a0 a1 a2 a3 a4 a5 a6 a7 a8 a9 a10 : Value} {x : Int32} : gm_Go E d 120 4 [a0, a1, a2, a3, a4, a5, a6, a7, a8, a9, a10] (.int x :: st) h r ↔ gm_Go E d 120 5 [a0, gm_k a1, .int x, a3, a4, a5, a6, a7, a8, a9, a10] st h r := gr_loc m120 f120_4 rfl rfl
theorem f120_5 : gm_ft 120 5 = some (.aload_n 0, 1) := by decide +kernel
theorem r120_5 {E : Nat → Value} {d : Nat} {st : List Value} {h : gm_H} {r : gm_R × gm_H} {a1 a2 a3 a4 a5 a6 a7 a8 a9 a10 : Value} {x : Nat} : gm_Go E d 120 5 [.ref x, a1, a2, a3, a4, a5, a6, a7, a8, a9, a10] st h r ↔ gm_Go E d 120 6 [.ref x, a1, a2, a3, a4, a5, a6, a7, a8, a9, a10] (.ref x :: st) h r := gr_loc m120 f120_5 rfl rfl
theorem r120_5n {E : Nat → Value} {d : Nat} {st : List Value} {h : gm_H} {r : gm_R × gm_H} {a1 a2 a3 a4 a5 a6 a7 a8 a9 a10 : Value}  : gm_Go E d 120 5 [.null, a1, a2, a3, a4, a5, a6, a7, a8, a9, a10] st h r ↔ gm_Go E d 120 6 [.null, a1, a2, a3, a4, a5, a6, a7, a8, a9, a10] (.null :: st) h r := gr_loc m120 f120_5 rfl rfl
theorem f120_6 : gm_ft 120 6 = some (.getfield 145, 3) := by decide +kernel
theorem r120_6 {E : Nat → Value} {d : Nat} {st : List Value} {h : gm_H} {r : gm_R × gm_H} {lv : List Value} {a : Nat} {vs : List Value} {v : Value} (hr : gm_rd h a = some (5, vs)) (hv : vs[8]? = some v) : gm_Go E d 120 6 lv (.ref a :: st) h r ↔ gm_Go E d 120 9 lv (v :: st) h r := gr_rd m120 f120_6 rfl rfl rfl rfl (gf_get k5_145 hr hv)
theorem f120_9 : gm_ft 120 9 = some (.ifCond .eq 4, 3) := by decide +kernel
theorem r120_9 {E : Nat → Value} {d : Nat} {st : List Value} {h : gm_H} {r : gm_R × gm_H} {lv : List Value} {x : Int32} : gm_Go E d 120 9 lv (.int x :: st) h r ↔ (if x = 0 then gm_Go E d 120 13 lv st h r else gm_Go E d 120 12 lv st h r) := (gr_br m120 f120_9 rfl rfl rfl rfl).trans gr_if
theorem f120_12 : gm_ft 120 12 = some (.return_, 1) := by decide +kernel
theorem r120_12 {E : Nat → Value} {d : Nat} {h : gm_H} {r : gm_R × gm_H} {lv : List Value} : gm_Go E d 120 12 lv [] h r ↔ r = (.inl none, h) := gr_ret m120 f120_12 rfl rfl rfl rfl rfl rfl rfl rfl rfl
theorem f120_13 : gm_ft 120 13 = some (.iload_n 2, 1) := by decide +kernel
theorem r120_13 {E : Nat → Value} {d : Nat} {st : List Value} {h : gm_H} {r : gm_R × gm_H} {a0 a1 a3 a4 a5 a6 a7 a8 a9 a10 : Value} {x : Int32} : gm_Go E d 120 13 [a0, a1, .int x, a3, a4, a5, a6, a7, a8, a9, a10] st h r ↔ gm_Go E d 120 14 [a0, a1, .int x, a3, a4, a5, a6, a7, a8, a9, a10] (.int x :: st) h r := gr_loc m120 f120_13 rfl rfl
theorem f120_14 : gm_ft 120 14 = some (.bipush 112, 2) := by decide +kernel
theorem r120_14 {E : Nat → Value} {d : Nat} {st : List Value} {h : gm_H} {r : gm_R × gm_H} {lv : List Value} : gm_Go E d 120 14 lv st h r ↔ gm_Go E d 120 16 lv (.int (112 : Int32) :: st) h r := gr_pure m120 f120_14 rfl
theorem f120_16 : gm_ft 120 16 = some (.if_icmp .ne 10, 3) := by decide +kernel
theorem r120_16 {E : Nat → Value} {d : Nat} {st : List Value} {h : gm_H} {r : gm_R × gm_H} {lv : List Value} {x y : Int32} : gm_Go E d 120 16 lv (.int y :: .int x :: st) h r ↔ (if x = y then gm_Go E d 120 19 lv st h r else gm_Go E d 120 26 lv st h r) := (gr_br m120 f120_16 rfl rfl rfl rfl).trans gr_ifn
theorem f120_19 : gm_ft 120 19 = some (.aload_n 0, 1) := by decide +kernel
theorem r120_19 {E : Nat → Value} {d : Nat} {st : List Value} {h : gm_H} {r : gm_R × gm_H} {a1 a2 a3 a4 a5 a6 a7 a8 a9 a10 : Value} {x : Nat} : gm_Go E d 120 19 [.ref x, a1, a2, a3, a4, a5, a6, a7, a8, a9, a10] st h r ↔ gm_Go E d 120 20 [.ref x, a1, a2, a3, a4, a5, a6, a7, a8, a9, a10] (.ref x :: st) h r := gr_loc m120 f120_19 rfl rfl
theorem r120_19n {E : Nat → Value} {d : Nat} {st : List Value} {h : gm_H} {r : gm_R × gm_H} {a1 a2 a3 a4 a5 a6 a7 a8 a9 a10 : Value}  : gm_Go E d 120 19 [.null, a1, a2, a3, a4, a5, a6, a7, a8, a9, a10] st h r ↔ gm_Go E d 120 20 [.null, a1, a2, a3, a4, a5, a6, a7, a8, a9, a10] (.null :: st) h r := gr_loc m120 f120_19 rfl rfl
theorem f120_20 : gm_ft 120 20 = some (.bipush (-2), 2) := by decide +kernel
theorem r120_20 {E : Nat → Value} {d : Nat} {st : List Value} {h : gm_H} {r : gm_R × gm_H} {lv : List Value} : gm_Go E d 120 20 lv st h r ↔ gm_Go E d 120 22 lv (.int (-2 : Int32) :: st) h r := gr_pure m120 f120_20 rfl
theorem f120_22 : gm_ft 120 22 = some (.invokevirtual 182, 3) := by decide +kernel
theorem n120_22 {st : List Value} {h : gm_H} {E : Nat → Value} {lv : List Value} {b0 : Value} {a : Nat} (hs : (st.map fun v => v.category).sum ≤ 8) (he : (gm_en1 [.ref a, b0]).length ≤ 2) {vs : List Value} (hr : gm_rd h a = some (5, vs)) : gm_next E 120 22 lv (b0 :: .ref a :: st) h = some (.inr (.inl (0, 105, [.ref a, b0], st))) := gn_call m120 f120_22 rfl rfl rfl rfl rfl rfl rfl (gc_virt (bs := [b0]) (w := 872) rfl rfl rfl rfl hs he hr) (by decide)
theorem f120_25 : gm_ft 120 25 = some (.return_, 1) := by decide +kernel
theorem r120_25 {E : Nat → Value} {d : Nat} {h : gm_H} {r : gm_R × gm_H} {lv : List Value} : gm_Go E d 120 25 lv [] h r ↔ r = (.inl none, h) := gr_ret m120 f120_25 rfl rfl rfl rfl rfl rfl rfl rfl rfl
theorem f120_26 : gm_ft 120 26 = some (.iload_n 2, 1) := by decide +kernel
theorem r120_26 {E : Nat → Value} {d : Nat} {st : List Value} {h : gm_H} {r : gm_R × gm_H} {a0 a1 a3 a4 a5 a6 a7 a8 a9 a10 : Value} {x : Int32} : gm_Go E d 120 26 [a0, a1, .int x, a3, a4, a5, a6, a7, a8, a9, a10] st h r ↔ gm_Go E d 120 27 [a0, a1, .int x, a3, a4, a5, a6, a7, a8, a9, a10] (.int x :: st) h r := gr_loc m120 f120_26 rfl rfl
theorem f120_27 : gm_ft 120 27 = some (.bipush 113, 2) := by decide +kernel
theorem r120_27 {E : Nat → Value} {d : Nat} {st : List Value} {h : gm_H} {r : gm_R × gm_H} {lv : List Value} : gm_Go E d 120 27 lv st h r ↔ gm_Go E d 120 29 lv (.int (113 : Int32) :: st) h r := gr_pure m120 f120_27 rfl
theorem f120_29 : gm_ft 120 29 = some (.if_icmp .ne 10, 3) := by decide +kernel
theorem r120_29 {E : Nat → Value} {d : Nat} {st : List Value} {h : gm_H} {r : gm_R × gm_H} {lv : List Value} {x y : Int32} : gm_Go E d 120 29 lv (.int y :: .int x :: st) h r ↔ (if x = y then gm_Go E d 120 32 lv st h r else gm_Go E d 120 39 lv st h r) := (gr_br m120 f120_29 rfl rfl rfl rfl).trans gr_ifn
theorem f120_32 : gm_ft 120 32 = some (.aload_n 0, 1) := by decide +kernel
theorem r120_32 {E : Nat → Value} {d : Nat} {st : List Value} {h : gm_H} {r : gm_R × gm_H} {a1 a2 a3 a4 a5 a6 a7 a8 a9 a10 : Value} {x : Nat} : gm_Go E d 120 32 [.ref x, a1, a2, a3, a4, a5, a6, a7, a8, a9, a10] st h r ↔ gm_Go E d 120 33 [.ref x, a1, a2, a3, a4, a5, a6, a7, a8, a9, a10] (.ref x :: st) h r := gr_loc m120 f120_32 rfl rfl
theorem r120_32n {E : Nat → Value} {d : Nat} {st : List Value} {h : gm_H} {r : gm_R × gm_H} {a1 a2 a3 a4 a5 a6 a7 a8 a9 a10 : Value}  : gm_Go E d 120 32 [.null, a1, a2, a3, a4, a5, a6, a7, a8, a9, a10] st h r ↔ gm_Go E d 120 33 [.null, a1, a2, a3, a4, a5, a6, a7, a8, a9, a10] (.null :: st) h r := gr_loc m120 f120_32 rfl rfl
theorem f120_33 : gm_ft 120 33 = some (.iload_n 1, 1) := by decide +kernel
theorem r120_33 {E : Nat → Value} {d : Nat} {st : List Value} {h : gm_H} {r : gm_R × gm_H} {a0 a2 a3 a4 a5 a6 a7 a8 a9 a10 : Value} {x : Int32} : gm_Go E d 120 33 [a0, .int x, a2, a3, a4, a5, a6, a7, a8, a9, a10] st h r ↔ gm_Go E d 120 34 [a0, .int x, a2, a3, a4, a5, a6, a7, a8, a9, a10] (.int x :: st) h r := gr_loc m120 f120_33 rfl rfl
theorem f120_34 : gm_ft 120 34 = some (.iconst 1, 1) := by decide +kernel
theorem r120_34 {E : Nat → Value} {d : Nat} {st : List Value} {h : gm_H} {r : gm_R × gm_H} {lv : List Value} : gm_Go E d 120 34 lv st h r ↔ gm_Go E d 120 35 lv (.int (1 : Int32) :: st) h r := gr_pure m120 f120_34 rfl
theorem f120_35 : gm_ft 120 35 = some (.invokevirtual 185, 3) := by decide +kernel
theorem n120_35 {st : List Value} {h : gm_H} {E : Nat → Value} {lv : List Value} {b0 b1 : Value} {a : Nat} (hs : (st.map fun v => v.category).sum ≤ 8) (he : (gm_en1 [.ref a, b0, b1]).length ≤ 5) {vs : List Value} (hr : gm_rd h a = some (5, vs)) : gm_next E 120 35 lv (b1 :: b0 :: .ref a :: st) h = some (.inr (.inl (0, 106, [.ref a, b0, b1], st))) := gn_call m120 f120_35 rfl rfl rfl rfl rfl rfl rfl (gc_virt (bs := [b1, b0]) (w := 876) rfl rfl rfl rfl hs he hr) (by decide)
theorem f120_38 : gm_ft 120 38 = some (.return_, 1) := by decide +kernel
theorem r120_38 {E : Nat → Value} {d : Nat} {h : gm_H} {r : gm_R × gm_H} {lv : List Value} : gm_Go E d 120 38 lv [] h r ↔ r = (.inl none, h) := gr_ret m120 f120_38 rfl rfl rfl rfl rfl rfl rfl rfl rfl
theorem f120_39 : gm_ft 120 39 = some (.iload_n 2, 1) := by decide +kernel
theorem r120_39 {E : Nat → Value} {d : Nat} {st : List Value} {h : gm_H} {r : gm_R × gm_H} {a0 a1 a3 a4 a5 a6 a7 a8 a9 a10 : Value} {x : Int32} : gm_Go E d 120 39 [a0, a1, .int x, a3, a4, a5, a6, a7, a8, a9, a10] st h r ↔ gm_Go E d 120 40 [a0, a1, .int x, a3, a4, a5, a6, a7, a8, a9, a10] (.int x :: st) h r := gr_loc m120 f120_39 rfl rfl
theorem f120_40 : gm_ft 120 40 = some (.bipush 114, 2) := by decide +kernel
theorem r120_40 {E : Nat → Value} {d : Nat} {st : List Value} {h : gm_H} {r : gm_R × gm_H} {lv : List Value} : gm_Go E d 120 40 lv st h r ↔ gm_Go E d 120 42 lv (.int (114 : Int32) :: st) h r := gr_pure m120 f120_40 rfl
theorem f120_42 : gm_ft 120 42 = some (.if_icmp .ne 14, 3) := by decide +kernel
theorem r120_42 {E : Nat → Value} {d : Nat} {st : List Value} {h : gm_H} {r : gm_R × gm_H} {lv : List Value} {x y : Int32} : gm_Go E d 120 42 lv (.int y :: .int x :: st) h r ↔ (if x = y then gm_Go E d 120 45 lv st h r else gm_Go E d 120 56 lv st h r) := (gr_br m120 f120_42 rfl rfl rfl rfl).trans gr_ifn
theorem f120_45 : gm_ft 120 45 = some (.aload_n 0, 1) := by decide +kernel
theorem r120_45 {E : Nat → Value} {d : Nat} {st : List Value} {h : gm_H} {r : gm_R × gm_H} {a1 a2 a3 a4 a5 a6 a7 a8 a9 a10 : Value} {x : Nat} : gm_Go E d 120 45 [.ref x, a1, a2, a3, a4, a5, a6, a7, a8, a9, a10] st h r ↔ gm_Go E d 120 46 [.ref x, a1, a2, a3, a4, a5, a6, a7, a8, a9, a10] (.ref x :: st) h r := gr_loc m120 f120_45 rfl rfl
theorem r120_45n {E : Nat → Value} {d : Nat} {st : List Value} {h : gm_H} {r : gm_R × gm_H} {a1 a2 a3 a4 a5 a6 a7 a8 a9 a10 : Value}  : gm_Go E d 120 45 [.null, a1, a2, a3, a4, a5, a6, a7, a8, a9, a10] st h r ↔ gm_Go E d 120 46 [.null, a1, a2, a3, a4, a5, a6, a7, a8, a9, a10] (.null :: st) h r := gr_loc m120 f120_45 rfl rfl
theorem f120_46 : gm_ft 120 46 = some (.getfield 102, 3) := by decide +kernel
theorem r120_46 {E : Nat → Value} {d : Nat} {st : List Value} {h : gm_H} {r : gm_R × gm_H} {lv : List Value} {a : Nat} {vs : List Value} {v : Value} (hr : gm_rd h a = some (5, vs)) (hv : vs[43]? = some v) : gm_Go E d 120 46 lv (.ref a :: st) h r ↔ gm_Go E d 120 49 lv (v :: st) h r := gr_rd m120 f120_46 rfl rfl rfl rfl (gf_get k5_102 hr hv)
theorem f120_49 : gm_ft 120 49 = some (.iload_n 1, 1) := by decide +kernel
theorem r120_49 {E : Nat → Value} {d : Nat} {st : List Value} {h : gm_H} {r : gm_R × gm_H} {a0 a2 a3 a4 a5 a6 a7 a8 a9 a10 : Value} {x : Int32} : gm_Go E d 120 49 [a0, .int x, a2, a3, a4, a5, a6, a7, a8, a9, a10] st h r ↔ gm_Go E d 120 50 [a0, .int x, a2, a3, a4, a5, a6, a7, a8, a9, a10] (.int x :: st) h r := gr_loc m120 f120_49 rfl rfl
theorem f120_50 : gm_ft 120 50 = some (.iaload, 1) := by decide +kernel
theorem r120_50 {E : Nat → Value} {d : Nat} {st : List Value} {h : gm_H} {r : gm_R × gm_H} {lv : List Value} {a k j : Nat} {vs : List Value} {v : Value} (hr : gm_rd h a = some (k, vs)) (hk : 100 ≤ k ∧ (fun t => t == 0) (k % 100) = true) (hj : j < 2 ^ 31) (hv : vs[j]? = some v) : gm_Go E d 120 50 lv (.int (nI j) :: .ref a :: st) h r ↔ gm_Go E d 120 51 lv (v :: st) h r := gr_rd m120 f120_50 rfl rfl rfl rfl (ga_ld (P := fun t => t == 0) hr hk hj hv)
theorem f120_51 : gm_ft 120 51 = some (.bipush 8, 2) := by decide +kernel
theorem r120_51 {E : Nat → Value} {d : Nat} {st : List Value} {h : gm_H} {r : gm_R × gm_H} {lv : List Value} : gm_Go E d 120 51 lv st h r ↔ gm_Go E d 120 53 lv (.int (8 : Int32) :: st) h r := gr_pure m120 f120_51 rfl
theorem f120_53 : gm_ft 120 53 = some (.if_icmp .le 10, 3) := by decide +kernel
theorem r120_53 {E : Nat → Value} {d : Nat} {st : List Value} {h : gm_H} {r : gm_R × gm_H} {lv : List Value} {x y : Int32} : gm_Go E d 120 53 lv (.int y :: .int x :: st) h r ↔ (if x ≤ y then gm_Go E d 120 63 lv st h r else gm_Go E d 120 56 lv st h r) := (gr_br m120 f120_53 rfl rfl rfl rfl).trans gr_if
theorem f120_56 : gm_ft 120 56 = some (.aload_n 0, 1) := by decide +kernel
theorem r120_56 {E : Nat → Value} {d : Nat} {st : List Value} {h : gm_H} {r : gm_R × gm_H} {a1 a2 a3 a4 a5 a6 a7 a8 a9 a10 : Value} {x : Nat} : gm_Go E d 120 56 [.ref x, a1, a2, a3, a4, a5, a6, a7, a8, a9, a10] st h r ↔ gm_Go E d 120 57 [.ref x, a1, a2, a3, a4, a5, a6, a7, a8, a9, a10] (.ref x :: st) h r := gr_loc m120 f120_56 rfl rfl
theorem r120_56n {E : Nat → Value} {d : Nat} {st : List Value} {h : gm_H} {r : gm_R × gm_H} {a1 a2 a3 a4 a5 a6 a7 a8 a9 a10 : Value}  : gm_Go E d 120 56 [.null, a1, a2, a3, a4, a5, a6, a7, a8, a9, a10] st h r ↔ gm_Go E d 120 57 [.null, a1, a2, a3, a4, a5, a6, a7, a8, a9, a10] (.null :: st) h r := gr_loc m120 f120_56 rfl rfl
theorem f120_57 : gm_ft 120 57 = some (.bipush (-4), 2) := by decide +kernel
theorem r120_57 {E : Nat → Value} {d : Nat} {st : List Value} {h : gm_H} {r : gm_R × gm_H} {lv : List Value} : gm_Go E d 120 57 lv st h r ↔ gm_Go E d 120 59 lv (.int (-4 : Int32) :: st) h r := gr_pure m120 f120_57 rfl
theorem f120_59 : gm_ft 120 59 = some (.invokevirtual 151, 3) := by decide +kernel
theorem n120_59 {st : List Value} {h : gm_H} {E : Nat → Value} {lv : List Value} {b0 : Value} {a : Nat} (hs : (st.map fun v => v.category).sum ≤ 8) (he : (gm_en1 [.ref a, b0]).length ≤ 2) {vs : List Value} (hr : gm_rd h a = some (5, vs)) : gm_next E 120 59 lv (b0 :: .ref a :: st) h = some (.inr (.inl (0, 98, [.ref a, b0], st))) := gn_call m120 f120_59 rfl rfl rfl rfl rfl rfl rfl (gc_virt (bs := [b0]) (w := 844) rfl rfl rfl rfl hs he hr) (by decide)
theorem f120_62 : gm_ft 120 62 = some (.return_, 1) := by decide +kernel
theorem r120_62 {E : Nat → Value} {d : Nat} {h : gm_H} {r : gm_R × gm_H} {lv : List Value} : gm_Go E d 120 62 lv [] h r ↔ r = (.inl none, h) := gr_ret m120 f120_62 rfl rfl rfl rfl rfl rfl rfl rfl rfl
theorem f120_63 : gm_ft 120 63 = some (.aload_n 0, 1) := by decide +kernel
theorem r120_63 {E : Nat → Value} {d : Nat} {st : List Value} {h : gm_H} {r : gm_R × gm_H} {a1 a2 a3 a4 a5 a6 a7 a8 a9 a10 : Value} {x : Nat} : gm_Go E d 120 63 [.ref x, a1, a2, a3, a4, a5, a6, a7, a8, a9, a10] st h r ↔ gm_Go E d 120 64 [.ref x, a1, a2, a3, a4, a5, a6, a7, a8, a9, a10] (.ref x :: st) h r := gr_loc m120 f120_63 rfl rfl
theorem r120_63n {E : Nat → Value} {d : Nat} {st : List Value} {h : gm_H} {r : gm_R × gm_H} {a1 a2 a3 a4 a5 a6 a7 a8 a9 a10 : Value}  : gm_Go E d 120 63 [.null, a1, a2, a3, a4, a5, a6, a7, a8, a9, a10] st h r ↔ gm_Go E d 120 64 [.null, a1, a2, a3, a4, a5, a6, a7, a8, a9, a10] (.null :: st) h r := gr_loc m120 f120_63 rfl rfl
theorem f120_64 : gm_ft 120 64 = some (.invokevirtual 193, 3) := by decide +kernel
theorem n120_64 {st : List Value} {h : gm_H} {E : Nat → Value} {lv : List Value} {a : Nat} (hs : (st.map fun v => v.category).sum ≤ 8) (he : (gm_en1 [.ref a]).length ≤ 4) {vs : List Value} (hr : gm_rd h a = some (5, vs)) : gm_next E 120 64 lv (.ref a :: st) h = some (.inr (.inl (0, 109, [.ref a], st))) := gn_call m120 f120_64 rfl rfl rfl rfl rfl rfl rfl (gc_virt (bs := []) (w := 889) rfl rfl rfl rfl hs he hr) (by decide)
theorem f120_67 : gm_ft 120 67 = some (.istore_n 3, 1) := by decide +kernel
theorem r120_67 {E : Nat → Value} {d : Nat} {st : List Value} {h : gm_H} {r : gm_R × gm_H} {a0 a1 a2 a3 a4 a5 a6 a7 a8 a9 a10 : Value} {x : Int32} : gm_Go E d 120 67 [a0, a1, a2, a3, a4, a5, a6, a7, a8, a9, a10] (.int x :: st) h r ↔ gm_Go E d 120 68 [a0, a1, gm_k a2, .int x, a4, a5, a6, a7, a8, a9, a10] st h r := gr_loc m120 f120_67 rfl rfl
theorem f120_68 : gm_ft 120 68 = some (.aload_n 0, 1) := by decide +kernel
theorem r120_68 {E : Nat → Value} {d : Nat} {st : List Value} {h : gm_H} {r : gm_R × gm_H} {a1 a2 a3 a4 a5 a6 a7 a8 a9 a10 : Value} {x : Nat} : gm_Go E d 120 68 [.ref x, a1, a2, a3, a4, a5, a6, a7, a8, a9, a10] st h r ↔ gm_Go E d 120 69 [.ref x, a1, a2, a3, a4, a5, a6, a7, a8, a9, a10] (.ref x :: st) h r := gr_loc m120 f120_68 rfl rfl
theorem r120_68n {E : Nat → Value} {d : Nat} {st : List Value} {h : gm_H} {r : gm_R × gm_H} {a1 a2 a3 a4 a5 a6 a7 a8 a9 a10 : Value}  : gm_Go E d 120 68 [.null, a1, a2, a3, a4, a5, a6, a7, a8, a9, a10] st h r ↔ gm_Go E d 120 69 [.null, a1, a2, a3, a4, a5, a6, a7, a8, a9, a10] (.null :: st) h r := gr_loc m120 f120_68 rfl rfl
theorem f120_69 : gm_ft 120 69 = some (.getfield 148, 3) := by decide +kernel
theorem r120_69 {E : Nat → Value} {d : Nat} {st : List Value} {h : gm_H} {r : gm_R × gm_H} {lv : List Value} {a : Nat} {vs : List Value} {v : Value} (hr : gm_rd h a = some (5, vs)) (hv : vs[6]? = some v) : gm_Go E d 120 69 lv (.ref a :: st) h r ↔ gm_Go E d 120 72 lv (v :: st) h r := gr_rd m120 f120_69 rfl rfl rfl rfl (gf_get k5_148 hr hv)
theorem f120_72 : gm_ft 120 72 = some (.iload_n 3, 1) := by decide +kernel
theorem r120_72 {E : Nat → Value} {d : Nat} {st : List Value} {h : gm_H} {r : gm_R × gm_H} {a0 a1 a2 a4 a5 a6 a7 a8 a9 a10 : Value} {x : Int32} : gm_Go E d 120 72 [a0, a1, a2, .int x, a4, a5, a6, a7, a8, a9, a10] st h r ↔ gm_Go E d 120 73 [a0, a1, a2, .int x, a4, a5, a6, a7, a8, a9, a10] (.int x :: st) h r := gr_loc m120 f120_72 rfl rfl
theorem f120_73 : gm_ft 120 73 = some (.isub, 1) := by decide +kernel
theorem r120_73 {E : Nat → Value} {d : Nat} {st : List Value} {h : gm_H} {r : gm_R × gm_H} {lv : List Value} {x y : Int32} : gm_Go E d 120 73 lv (.int y :: .int x :: st) h r ↔ gm_Go E d 120 74 lv (.int (x - y) :: st) h r := gr_pure m120 f120_73 rfl
theorem f120_74 : gm_ft 120 74 = some (.istore 4, 2) := by decide +kernel
theorem r120_74 {E : Nat → Value} {d : Nat} {st : List Value} {h : gm_H} {r : gm_R × gm_H} {a0 a1 a2 a3 a4 a5 a6 a7 a8 a9 a10 : Value} {x : Int32} : gm_Go E d 120 74 [a0, a1, a2, a3, a4, a5, a6, a7, a8, a9, a10] (.int x :: st) h r ↔ gm_Go E d 120 76 [a0, a1, a2, gm_k a3, .int x, a5, a6, a7, a8, a9, a10] st h r := gr_loc m120 f120_74 rfl rfl
theorem f120_76 : gm_ft 120 76 = some (.aload_n 0, 1) := by decide +kernel
theorem r120_76 {E : Nat → Value} {d : Nat} {st : List Value} {h : gm_H} {r : gm_R × gm_H} {a1 a2 a3 a4 a5 a6 a7 a8 a9 a10 : Value} {x : Nat} : gm_Go E d 120 76 [.ref x, a1, a2, a3, a4, a5, a6, a7, a8, a9, a10] st h r ↔ gm_Go E d 120 77 [.ref x, a1, a2, a3, a4, a5, a6, a7, a8, a9, a10] (.ref x :: st) h r := gr_loc m120 f120_76 rfl rfl
theorem r120_76n {E : Nat → Value} {d : Nat} {st : List Value} {h : gm_H} {r : gm_R × gm_H} {a1 a2 a3 a4 a5 a6 a7 a8 a9 a10 : Value}  : gm_Go E d 120 76 [.null, a1, a2, a3, a4, a5, a6, a7, a8, a9, a10] st h r ↔ gm_Go E d 120 77 [.null, a1, a2, a3, a4, a5, a6, a7, a8, a9, a10] (.null :: st) h r := gr_loc m120 f120_76 rfl rfl
theorem f120_77 : gm_ft 120 77 = some (.bipush 8, 2) := by decide +kernel
theorem r120_77 {E : Nat → Value} {d : Nat} {st : List Value} {h : gm_H} {r : gm_R × gm_H} {lv : List Value} : gm_Go E d 120 77 lv st h r ↔ gm_Go E d 120 79 lv (.int (8 : Int32) :: st) h r := gr_pure m120 f120_77 rfl
theorem f120_79 : gm_ft 120 79 = some (.invokevirtual 159, 3) := by decide +kernel
theorem n120_79 {st : List Value} {h : gm_H} {E : Nat → Value} {lv : List Value} {b0 : Value} {a : Nat} (hs : (st.map fun v => v.category).sum ≤ 8) (he : (gm_en1 [.ref a, b0]).length ≤ 5) {vs : List Value} (hr : gm_rd h a = some (5, vs)) : gm_next E 120 79 lv (b0 :: .ref a :: st) h = some (.inr (.inl (0, 107, [.ref a, b0], st))) := gn_call m120 f120_79 rfl rfl rfl rfl rfl rfl rfl (gc_virt (bs := [b0]) (w := 880) rfl rfl rfl rfl hs he hr) (by decide)
theorem f120_82 : gm_ft 120 82 = some (.lstore 5, 2) := by decide +kernel
theorem r120_82 {E : Nat → Value} {d : Nat} {st : List Value} {h : gm_H} {r : gm_R × gm_H} {a0 a1 a2 a3 a4 a5 a6 a7 a8 a9 a10 : Value} {x : Int64} : gm_Go E d 120 82 [a0, a1, a2, a3, a4, a5, a6, a7, a8, a9, a10] (.long x :: st) h r ↔ gm_Go E d 120 84 [a0, a1, a2, a3, gm_k a4, .long x, gm_u, a7, a8, a9, a10] st h r := gr_loc m120 f120_82 rfl rfl
theorem f120_84 : gm_ft 120 84 = some (.aload_n 0, 1) := by decide +kernel
theorem r120_84 {E : Nat → Value} {d : Nat} {st : List Value} {h : gm_H} {r : gm_R × gm_H} {a1 a2 a3 a4 a5 a6 a7 a8 a9 a10 : Value} {x : Nat} : gm_Go E d 120 84 [.ref x, a1, a2, a3, a4, a5, a6, a7, a8, a9, a10] st h r ↔ gm_Go E d 120 85 [.ref x, a1, a2, a3, a4, a5, a6, a7, a8, a9, a10] (.ref x :: st) h r := gr_loc m120 f120_84 rfl rfl
theorem r120_84n {E : Nat → Value} {d : Nat} {st : List Value} {h : gm_H} {r : gm_R × gm_H} {a1 a2 a3 a4 a5 a6 a7 a8 a9 a10 : Value}  : gm_Go E d 120 84 [.null, a1, a2, a3, a4, a5, a6, a7, a8, a9, a10] st h r ↔ gm_Go E d 120 85 [.null, a1, a2, a3, a4, a5, a6, a7, a8, a9, a10] (.null :: st) h r := gr_loc m120 f120_84 rfl rfl
theorem f120_85 : gm_ft 120 85 = some (.getfield 145, 3) := by decide +kernel
theorem r120_85 {E : Nat → Value} {d : Nat} {st : List Value} {h : gm_H} {r : gm_R × gm_H} {lv : List Value} {a : Nat} {vs : List Value} {v : Value} (hr : gm_rd h a = some (5, vs)) (hv : vs[8]? = some v) : gm_Go E d 120 85 lv (.ref a :: st) h r ↔ gm_Go E d 120 88 lv (v :: st) h r := gr_rd m120 f120_85 rfl rfl rfl rfl (gf_get k5_145 hr hv)
theorem f120_88 : gm_ft 120 88 = some (.ifCond .eq 4, 3) := by decide +kernel
theorem r120_88 {E : Nat → Value} {d : Nat} {st : List Value} {h : gm_H} {r : gm_R × gm_H} {lv : List Value} {x : Int32} : gm_Go E d 120 88 lv (.int x :: st) h r ↔ (if x = 0 then gm_Go E d 120 92 lv st h r else gm_Go E d 120 91 lv st h r) := (gr_br m120 f120_88 rfl rfl rfl rfl).trans gr_if
theorem f120_91 : gm_ft 120 91 = some (.return_, 1) := by decide +kernel
theorem r120_91 {E : Nat → Value} {d : Nat} {h : gm_H} {r : gm_R × gm_H} {lv : List Value} : gm_Go E d 120 91 lv [] h r ↔ r = (.inl none, h) := gr_ret m120 f120_91 rfl rfl rfl rfl rfl rfl rfl rfl rfl
theorem f120_92 : gm_ft 120 92 = some (.aload_n 0, 1) := by decide +kernel
theorem r120_92 {E : Nat → Value} {d : Nat} {st : List Value} {h : gm_H} {r : gm_R × gm_H} {a1 a2 a3 a4 a5 a6 a7 a8 a9 a10 : Value} {x : Nat} : gm_Go E d 120 92 [.ref x, a1, a2, a3, a4, a5, a6, a7, a8, a9, a10] st h r ↔ gm_Go E d 120 93 [.ref x, a1, a2, a3, a4, a5, a6, a7, a8, a9, a10] (.ref x :: st) h r := gr_loc m120 f120_92 rfl rfl
theorem r120_92n {E : Nat → Value} {d : Nat} {st : List Value} {h : gm_H} {r : gm_R × gm_H} {a1 a2 a3 a4 a5 a6 a7 a8 a9 a10 : Value}  : gm_Go E d 120 92 [.null, a1, a2, a3, a4, a5, a6, a7, a8, a9, a10] st h r ↔ gm_Go E d 120 93 [.null, a1, a2, a3, a4, a5, a6, a7, a8, a9, a10] (.null :: st) h r := gr_loc m120 f120_92 rfl rfl
theorem f120_93 : gm_ft 120 93 = some (.getfield 169, 3) := by decide +kernel
theorem r120_93 {E : Nat → Value} {d : Nat} {st : List Value} {h : gm_H} {r : gm_R × gm_H} {lv : List Value} {a : Nat} {vs : List Value} {v : Value} (hr : gm_rd h a = some (5, vs)) (hv : vs[39]? = some v) : gm_Go E d 120 93 lv (.ref a :: st) h r ↔ gm_Go E d 120 96 lv (v :: st) h r := gr_rd m120 f120_93 rfl rfl rfl rfl (gf_get k5_169 hr hv)
theorem f120_96 : gm_ft 120 96 = some (.istore 7, 2) := by decide +kernel
theorem r120_96 {E : Nat → Value} {d : Nat} {st : List Value} {h : gm_H} {r : gm_R × gm_H} {a0 a1 a2 a3 a4 a5 a6 a7 a8 a9 a10 : Value} {x : Int32} : gm_Go E d 120 96 [a0, a1, a2, a3, a4, a5, a6, a7, a8, a9, a10] (.int x :: st) h r ↔ gm_Go E d 120 98 [a0, a1, a2, a3, a4, a5, gm_k a6, .int x, a8, a9, a10] st h r := gr_loc m120 f120_96 rfl rfl
theorem f120_98 : gm_ft 120 98 = some (.aload_n 0, 1) := by decide +kernel
theorem r120_98 {E : Nat → Value} {d : Nat} {st : List Value} {h : gm_H} {r : gm_R × gm_H} {a1 a2 a3 a4 a5 a6 a7 a8 a9 a10 : Value} {x : Nat} : gm_Go E d 120 98 [.ref x, a1, a2, a3, a4, a5, a6, a7, a8, a9, a10] st h r ↔ gm_Go E d 120 99 [.ref x, a1, a2, a3, a4, a5, a6, a7, a8, a9, a10] (.ref x :: st) h r := gr_loc m120 f120_98 rfl rfl
theorem r120_98n {E : Nat → Value} {d : Nat} {st : List Value} {h : gm_H} {r : gm_R × gm_H} {a1 a2 a3 a4 a5 a6 a7 a8 a9 a10 : Value}  : gm_Go E d 120 98 [.null, a1, a2, a3, a4, a5, a6, a7, a8, a9, a10] st h r ↔ gm_Go E d 120 99 [.null, a1, a2, a3, a4, a5, a6, a7, a8, a9, a10] (.null :: st) h r := gr_loc m120 f120_98 rfl rfl
theorem f120_99 : gm_ft 120 99 = some (.dup, 1) := by decide +kernel
theorem r120_99 {E : Nat → Value} {d : Nat} {st : List Value} {h : gm_H} {r : gm_R × gm_H} {lv : List Value} {a : Nat} : gm_Go E d 120 99 lv (.ref a :: st) h r ↔ gm_Go E d 120 100 lv (.ref a :: .ref a :: st) h r := gr_pure m120 f120_99 rfl
theorem r120_99i {E : Nat → Value} {d : Nat} {st : List Value} {h : gm_H} {r : gm_R × gm_H} {lv : List Value} {x : Int32} : gm_Go E d 120 99 lv (.int x :: st) h r ↔ gm_Go E d 120 100 lv (.int x :: .int x :: st) h r := gr_pure m120 f120_99 rfl
theorem f120_100 : gm_ft 120 100 = some (.getfield 169, 3) := by decide +kernel
theorem r120_100 {E : Nat → Value} {d : Nat} {st : List Value} {h : gm_H} {r : gm_R × gm_H} {lv : List Value} {a : Nat} {vs : List Value} {v : Value} (hr : gm_rd h a = some (5, vs)) (hv : vs[39]? = some v) : gm_Go E d 120 100 lv (.ref a :: st) h r ↔ gm_Go E d 120 103 lv (v :: st) h r := gr_rd m120 f120_100 rfl rfl rfl rfl (gf_get k5_169 hr hv)
theorem f120_103 : gm_ft 120 103 = some (.iconst 1, 1) := by decide +kernel
theorem r120_103 {E : Nat → Value} {d : Nat} {st : List Value} {h : gm_H} {r : gm_R × gm_H} {lv : List Value} : gm_Go E d 120 103 lv st h r ↔ gm_Go E d 120 104 lv (.int (1 : Int32) :: st) h r := gr_pure m120 f120_103 rfl
theorem f120_104 : gm_ft 120 104 = some (.iadd, 1) := by decide +kernel
theorem r120_104 {E : Nat → Value} {d : Nat} {st : List Value} {h : gm_H} {r : gm_R × gm_H} {lv : List Value} {x y : Int32} : gm_Go E d 120 104 lv (.int y :: .int x :: st) h r ↔ gm_Go E d 120 105 lv (.int (x + y) :: st) h r := gr_pure m120 f120_104 rfl
theorem f120_105 : gm_ft 120 105 = some (.putfield 169, 3) := by decide +kernel
theorem r120_105 {E : Nat → Value} {d : Nat} {st : List Value} {h : gm_H} {r : gm_R × gm_H} {lv : List Value} {a : Nat} {vs : List Value} {v : Value} (hr : gm_rd h a = some (5, vs)) (hk : 39 < vs.length) (hn : narrow (gm_ty 5 39) v = v ∧ fits (gm_ty 5 39) v = true) : gm_Go E d 120 105 lv (v :: .ref a :: st) h r ↔ gm_Go E d 120 108 lv st (gm_wr h a (5, vs.set 39 v)) r := gr_wr m120 f120_105 rfl rfl rfl rfl rfl (gf_put k5_169 hr (by decide) hk hn (by decide))
theorem f120_108 : gm_ft 120 108 = some (.iload_n 3, 1) := by decide +kernel
theorem r120_108 {E : Nat → Value} {d : Nat} {st : List Value} {h : gm_H} {r : gm_R × gm_H} {a0 a1 a2 a4 a5 a6 a7 a8 a9 a10 : Value} {x : Int32} : gm_Go E d 120 108 [a0, a1, a2, .int x, a4, a5, a6, a7, a8, a9, a10] st h r ↔ gm_Go E d 120 109 [a0, a1, a2, .int x, a4, a5, a6, a7, a8, a9, a10] (.int x :: st) h r := gr_loc m120 f120_108 rfl rfl
theorem f120_109 : gm_ft 120 109 = some (.iconst 1, 1) := by decide +kernel
theorem r120_109 {E : Nat → Value} {d : Nat} {st : List Value} {h : gm_H} {r : gm_R × gm_H} {lv : List Value} : gm_Go E d 120 109 lv st h r ↔ gm_Go E d 120 110 lv (.int (1 : Int32) :: st) h r := gr_pure m120 f120_109 rfl
theorem f120_110 : gm_ft 120 110 = some (.if_icmp .ne 16, 3) := by decide +kernel
theorem r120_110 {E : Nat → Value} {d : Nat} {st : List Value} {h : gm_H} {r : gm_R × gm_H} {lv : List Value} {x y : Int32} : gm_Go E d 120 110 lv (.int y :: .int x :: st) h r ↔ (if x = y then gm_Go E d 120 113 lv st h r else gm_Go E d 120 126 lv st h r) := (gr_br m120 f120_110 rfl rfl rfl rfl).trans gr_ifn
theorem f120_113 : gm_ft 120 113 = some (.aload_n 0, 1) := by decide +kernel
theorem r120_113 {E : Nat → Value} {d : Nat} {st : List Value} {h : gm_H} {r : gm_R × gm_H} {a1 a2 a3 a4 a5 a6 a7 a8 a9 a10 : Value} {x : Nat} : gm_Go E d 120 113 [.ref x, a1, a2, a3, a4, a5, a6, a7, a8, a9, a10] st h r ↔ gm_Go E d 120 114 [.ref x, a1, a2, a3, a4, a5, a6, a7, a8, a9, a10] (.ref x :: st) h r := gr_loc m120 f120_113 rfl rfl
theorem r120_113n {E : Nat → Value} {d : Nat} {st : List Value} {h : gm_H} {r : gm_R × gm_H} {a1 a2 a3 a4 a5 a6 a7 a8 a9 a10 : Value}  : gm_Go E d 120 113 [.null, a1, a2, a3, a4, a5, a6, a7, a8, a9, a10] st h r ↔ gm_Go E d 120 114 [.null, a1, a2, a3, a4, a5, a6, a7, a8, a9, a10] (.null :: st) h r := gr_loc m120 f120_113 rfl rfl
theorem f120_114 : gm_ft 120 114 = some (.getfield 7, 3) := by decide +kernel
theorem r120_114 {E : Nat → Value} {d : Nat} {st : List Value} {h : gm_H} {r : gm_R × gm_H} {lv : List Value} {a : Nat} {vs : List Value} {v : Value} (hr : gm_rd h a = some (5, vs)) (hv : vs[4]? = some v) : gm_Go E d 120 114 lv (.ref a :: st) h r ↔ gm_Go E d 120 117 lv (v :: st) h r := gr_rd m120 f120_114 rfl rfl rfl rfl (gf_get k5_7 hr hv)
theorem f120_117 : gm_ft 120 117 = some (.iload 4, 2) := by decide +kernel
theorem r120_117 {E : Nat → Value} {d : Nat} {st : List Value} {h : gm_H} {r : gm_R × gm_H} {a0 a1 a2 a3 a5 a6 a7 a8 a9 a10 : Value} {x : Int32} : gm_Go E d 120 117 [a0, a1, a2, a3, .int x, a5, a6, a7, a8, a9, a10] st h r ↔ gm_Go E d 120 119 [a0, a1, a2, a3, .int x, a5, a6, a7, a8, a9, a10] (.int x :: st) h r := gr_loc m120 f120_117 rfl rfl
theorem f120_119 : gm_ft 120 119 = some (.iaload, 1) := by decide +kernel
theorem r120_119 {E : Nat → Value} {d : Nat} {st : List Value} {h : gm_H} {r : gm_R × gm_H} {lv : List Value} {a k j : Nat} {vs : List Value} {v : Value} (hr : gm_rd h a = some (k, vs)) (hk : 100 ≤ k ∧ (fun t => t == 0) (k % 100) = true) (hj : j < 2 ^ 31) (hv : vs[j]? = some v) : gm_Go E d 120 119 lv (.int (nI j) :: .ref a :: st) h r ↔ gm_Go E d 120 120 lv (v :: st) h r := gr_rd m120 f120_119 rfl rfl rfl rfl (ga_ld (P := fun t => t == 0) hr hk hj hv)
theorem f120_120 : gm_ft 120 120 = some (.bipush 65, 2) := by decide +kernel
theorem r120_120 {E : Nat → Value} {d : Nat} {st : List Value} {h : gm_H} {r : gm_R × gm_H} {lv : List Value} : gm_Go E d 120 120 lv st h r ↔ gm_Go E d 120 122 lv (.int (65 : Int32) :: st) h r := gr_pure m120 f120_120 rfl
theorem f120_122 : gm_ft 120 122 = some (.isub, 1) := by decide +kernel
theorem r120_122 {E : Nat → Value} {d : Nat} {st : List Value} {h : gm_H} {r : gm_R × gm_H} {lv : List Value} {x y : Int32} : gm_Go E d 120 122 lv (.int y :: .int x :: st) h r ↔ gm_Go E d 120 123 lv (.int (x - y) :: st) h r := gr_pure m120 f120_122 rfl
theorem f120_123 : gm_ft 120 123 = some (.goto 4, 3) := by decide +kernel
theorem r120_123 {E : Nat → Value} {d : Nat} {st : List Value} {h : gm_H} {r : gm_R × gm_H} {lv : List Value} : gm_Go E d 120 123 lv st h r ↔ gm_Go E d 120 127 lv st h r := gr_brT m120 f120_123 rfl rfl rfl rfl
theorem f120_126 : gm_ft 120 126 = some (.iconst (-1), 1) := by decide +kernel
theorem r120_126 {E : Nat → Value} {d : Nat} {st : List Value} {h : gm_H} {r : gm_R × gm_H} {lv : List Value} : gm_Go E d 120 126 lv st h r ↔ gm_Go E d 120 127 lv (.int (-1 : Int32) :: st) h r := gr_pure m120 f120_126 rfl
theorem f120_127 : gm_ft 120 127 = some (.istore 8, 2) := by decide +kernel
theorem r120_127 {E : Nat → Value} {d : Nat} {st : List Value} {h : gm_H} {r : gm_R × gm_H} {a0 a1 a2 a3 a4 a5 a6 a7 a8 a9 a10 : Value} {x : Int32} : gm_Go E d 120 127 [a0, a1, a2, a3, a4, a5, a6, a7, a8, a9, a10] (.int x :: st) h r ↔ gm_Go E d 120 129 [a0, a1, a2, a3, a4, a5, a6, gm_k a7, .int x, a9, a10] st h r := gr_loc m120 f120_127 rfl rfl
theorem f120_129 : gm_ft 120 129 = some (.aload_n 0, 1) := by decide +kernel
theorem r120_129 {E : Nat → Value} {d : Nat} {st : List Value} {h : gm_H} {r : gm_R × gm_H} {a1 a2 a3 a4 a5 a6 a7 a8 a9 a10 : Value} {x : Nat} : gm_Go E d 120 129 [.ref x, a1, a2, a3, a4, a5, a6, a7, a8, a9, a10] st h r ↔ gm_Go E d 120 130 [.ref x, a1, a2, a3, a4, a5, a6, a7, a8, a9, a10] (.ref x :: st) h r := gr_loc m120 f120_129 rfl rfl
theorem r120_129n {E : Nat → Value} {d : Nat} {st : List Value} {h : gm_H} {r : gm_R × gm_H} {a1 a2 a3 a4 a5 a6 a7 a8 a9 a10 : Value}  : gm_Go E d 120 129 [.null, a1, a2, a3, a4, a5, a6, a7, a8, a9, a10] st h r ↔ gm_Go E d 120 130 [.null, a1, a2, a3, a4, a5, a6, a7, a8, a9, a10] (.null :: st) h r := gr_loc m120 f120_129 rfl rfl
theorem f120_130 : gm_ft 120 130 = some (.getfield 69, 3) := by decide +kernel
theorem r120_130 {E : Nat → Value} {d : Nat} {st : List Value} {h : gm_H} {r : gm_R × gm_H} {lv : List Value} {a : Nat} {vs : List Value} {v : Value} (hr : gm_rd h a = some (5, vs)) (hv : vs[31]? = some v) : gm_Go E d 120 130 lv (.ref a :: st) h r ↔ gm_Go E d 120 133 lv (v :: st) h r := gr_rd m120 f120_130 rfl rfl rfl rfl (gf_get k5_69 hr hv)
theorem f120_133 : gm_ft 120 133 = some (.iload 7, 2) := by decide +kernel
theorem r120_133 {E : Nat → Value} {d : Nat} {st : List Value} {h : gm_H} {r : gm_R × gm_H} {a0 a1 a2 a3 a4 a5 a6 a8 a9 a10 : Value} {x : Int32} : gm_Go E d 120 133 [a0, a1, a2, a3, a4, a5, a6, .int x, a8, a9, a10] st h r ↔ gm_Go E d 120 135 [a0, a1, a2, a3, a4, a5, a6, .int x, a8, a9, a10] (.int x :: st) h r := gr_loc m120 f120_133 rfl rfl
theorem f120_135 : gm_ft 120 135 = some (.aload_n 0, 1) := by decide +kernel
theorem r120_135 {E : Nat → Value} {d : Nat} {st : List Value} {h : gm_H} {r : gm_R × gm_H} {a1 a2 a3 a4 a5 a6 a7 a8 a9 a10 : Value} {x : Nat} : gm_Go E d 120 135 [.ref x, a1, a2, a3, a4, a5, a6, a7, a8, a9, a10] st h r ↔ gm_Go E d 120 136 [.ref x, a1, a2, a3, a4, a5, a6, a7, a8, a9, a10] (.ref x :: st) h r := gr_loc m120 f120_135 rfl rfl
theorem r120_135n {E : Nat → Value} {d : Nat} {st : List Value} {h : gm_H} {r : gm_R × gm_H} {a1 a2 a3 a4 a5 a6 a7 a8 a9 a10 : Value}  : gm_Go E d 120 135 [.null, a1, a2, a3, a4, a5, a6, a7, a8, a9, a10] st h r ↔ gm_Go E d 120 136 [.null, a1, a2, a3, a4, a5, a6, a7, a8, a9, a10] (.null :: st) h r := gr_loc m120 f120_135 rfl rfl
theorem f120_136 : gm_ft 120 136 = some (.iload 8, 2) := by decide +kernel
theorem r120_136 {E : Nat → Value} {d : Nat} {st : List Value} {h : gm_H} {r : gm_R × gm_H} {a0 a1 a2 a3 a4 a5 a6 a7 a9 a10 : Value} {x : Int32} : gm_Go E d 120 136 [a0, a1, a2, a3, a4, a5, a6, a7, .int x, a9, a10] st h r ↔ gm_Go E d 120 138 [a0, a1, a2, a3, a4, a5, a6, a7, .int x, a9, a10] (.int x :: st) h r := gr_loc m120 f120_136 rfl rfl
theorem f120_138 : gm_ft 120 138 = some (.bipush 6, 2) := by decide +kernel
theorem r120_138 {E : Nat → Value} {d : Nat} {st : List Value} {h : gm_H} {r : gm_R × gm_H} {lv : List Value} : gm_Go E d 120 138 lv st h r ↔ gm_Go E d 120 140 lv (.int (6 : Int32) :: st) h r := gr_pure m120 f120_138 rfl
theorem f120_140 : gm_ft 120 140 = some (.invokevirtual 131, 3) := by decide +kernel
theorem n120_140 {st : List Value} {h : gm_H} {E : Nat → Value} {lv : List Value} {b0 b1 : Value} {a : Nat} (hs : (st.map fun v => v.category).sum ≤ 8) (he : (gm_en1 [.ref a, b0, b1]).length ≤ 3) {vs : List Value} (hr : gm_rd h a = some (5, vs)) : gm_next E 120 140 lv (b1 :: b0 :: .ref a :: st) h = some (.inr (.inl (0, 92, [.ref a, b0, b1], st))) := gn_call m120 f120_140 rfl rfl rfl rfl rfl rfl rfl (gc_virt (bs := [b1, b0]) (w := 820) rfl rfl rfl rfl hs he hr) (by decide)
theorem f120_143 : gm_ft 120 143 = some (.ifCond .ne 13, 3) := by decide +kernel
theorem r120_143 {E : Nat → Value} {d : Nat} {st : List Value} {h : gm_H} {r : gm_R × gm_H} {lv : List Value} {x : Int32} : gm_Go E d 120 143 lv (.int x :: st) h r ↔ (if x = 0 then gm_Go E d 120 146 lv st h r else gm_Go E d 120 156 lv st h r) := (gr_br m120 f120_143 rfl rfl rfl rfl).trans gr_ifn
theorem f120_146 : gm_ft 120 146 = some (.aload_n 0, 1) := by decide +kernel
theorem r120_146 {E : Nat → Value} {d : Nat} {st : List Value} {h : gm_H} {r : gm_R × gm_H} {a1 a2 a3 a4 a5 a6 a7 a8 a9 a10 : Value} {x : Nat} : gm_Go E d 120 146 [.ref x, a1, a2, a3, a4, a5, a6, a7, a8, a9, a10] st h r ↔ gm_Go E d 120 147 [.ref x, a1, a2, a3, a4, a5, a6, a7, a8, a9, a10] (.ref x :: st) h r := gr_loc m120 f120_146 rfl rfl
theorem r120_146n {E : Nat → Value} {d : Nat} {st : List Value} {h : gm_H} {r : gm_R × gm_H} {a1 a2 a3 a4 a5 a6 a7 a8 a9 a10 : Value}  : gm_Go E d 120 146 [.null, a1, a2, a3, a4, a5, a6, a7, a8, a9, a10] st h r ↔ gm_Go E d 120 147 [.null, a1, a2, a3, a4, a5, a6, a7, a8, a9, a10] (.null :: st) h r := gr_loc m120 f120_146 rfl rfl
theorem f120_147 : gm_ft 120 147 = some (.getfield 13, 3) := by decide +kernel
theorem r120_147 {E : Nat → Value} {d : Nat} {st : List Value} {h : gm_H} {r : gm_R × gm_H} {lv : List Value} {a : Nat} {vs : List Value} {v : Value} (hr : gm_rd h a = some (5, vs)) (hv : vs[10]? = some v) : gm_Go E d 120 147 lv (.ref a :: st) h r ↔ gm_Go E d 120 150 lv (v :: st) h r := gr_rd m120 f120_147 rfl rfl rfl rfl (gf_get k5_13 hr hv)
theorem f120_150 : gm_ft 120 150 = some (.iload 8, 2) := by decide +kernel
theorem r120_150 {E : Nat → Value} {d : Nat} {st : List Value} {h : gm_H} {r : gm_R × gm_H} {a0 a1 a2 a3 a4 a5 a6 a7 a9 a10 : Value} {x : Int32} : gm_Go E d 120 150 [a0, a1, a2, a3, a4, a5, a6, a7, .int x, a9, a10] st h r ↔ gm_Go E d 120 152 [a0, a1, a2, a3, a4, a5, a6, a7, .int x, a9, a10] (.int x :: st) h r := gr_loc m120 f120_150 rfl rfl
theorem f120_152 : gm_ft 120 152 = some (.iaload, 1) := by decide +kernel
theorem r120_152 {E : Nat → Value} {d : Nat} {st : List Value} {h : gm_H} {r : gm_R × gm_H} {lv : List Value} {a k j : Nat} {vs : List Value} {v : Value} (hr : gm_rd h a = some (k, vs)) (hk : 100 ≤ k ∧ (fun t => t == 0) (k % 100) = true) (hj : j < 2 ^ 31) (hv : vs[j]? = some v) : gm_Go E d 120 152 lv (.int (nI j) :: .ref a :: st) h r ↔ gm_Go E d 120 153 lv (v :: st) h r := gr_rd m120 f120_152 rfl rfl rfl rfl (ga_ld (P := fun t => t == 0) hr hk hj hv)
theorem f120_153 : gm_ft 120 153 = some (.ifCond .ge 7, 3) := by decide +kernel
theorem r120_153 {E : Nat → Value} {d : Nat} {st : List Value} {h : gm_H} {r : gm_R × gm_H} {lv : List Value} {x : Int32} : gm_Go E d 120 153 lv (.int x :: st) h r ↔ (if 0 ≤ x then gm_Go E d 120 160 lv st h r else gm_Go E d 120 156 lv st h r) := (gr_br m120 f120_153 rfl rfl rfl rfl).trans gr_if
theorem f120_156 : gm_ft 120 156 = some (.iconst (-1), 1) := by decide +kernel
theorem r120_156 {E : Nat → Value} {d : Nat} {st : List Value} {h : gm_H} {r : gm_R × gm_H} {lv : List Value} : gm_Go E d 120 156 lv st h r ↔ gm_Go E d 120 157 lv (.int (-1 : Int32) :: st) h r := gr_pure m120 f120_156 rfl
theorem f120_157 : gm_ft 120 157 = some (.goto 5, 3) := by decide +kernel
theorem r120_157 {E : Nat → Value} {d : Nat} {st : List Value} {h : gm_H} {r : gm_R × gm_H} {lv : List Value} : gm_Go E d 120 157 lv st h r ↔ gm_Go E d 120 162 lv st h r := gr_brT m120 f120_157 rfl rfl rfl rfl
theorem f120_160 : gm_ft 120 160 = some (.iload 8, 2) := by decide +kernel
theorem r120_160 {E : Nat → Value} {d : Nat} {st : List Value} {h : gm_H} {r : gm_R × gm_H} {a0 a1 a2 a3 a4 a5 a6 a7 a9 a10 : Value} {x : Int32} : gm_Go E d 120 160 [a0, a1, a2, a3, a4, a5, a6, a7, .int x, a9, a10] st h r ↔ gm_Go E d 120 162 [a0, a1, a2, a3, a4, a5, a6, a7, .int x, a9, a10] (.int x :: st) h r := gr_loc m120 f120_160 rfl rfl
theorem f120_162 : gm_ft 120 162 = some (.iastore, 1) := by decide +kernel
theorem r120_162 {E : Nat → Value} {d : Nat} {st : List Value} {h : gm_H} {r : gm_R × gm_H} {lv : List Value} {a k j : Nat} {vs : List Value} {x : Int32} (hr : gm_rd h a = some (k, vs)) (hk : 100 ≤ k ∧ k % 100 = 0 ∧ gm_ko k = 2 ∧ 2 < 3) (hj : j < 2 ^ 31) (hl : j < vs.length) : gm_Go E d 120 162 lv (.int x :: .int (nI j) :: .ref a :: st) h r ↔ gm_Go E d 120 163 lv st (gm_wr h a (k, vs.set j (.int x))) r := gr_wr m120 f120_162 rfl rfl rfl rfl rfl (ga_st hr hk hj hl)
theorem f120_163 : gm_ft 120 163 = some (.aload_n 0, 1) := by decide +kernel
theorem r120_163 {E : Nat → Value} {d : Nat} {st : List Value} {h : gm_H} {r : gm_R × gm_H} {a1 a2 a3 a4 a5 a6 a7 a8 a9 a10 : Value} {x : Nat} : gm_Go E d 120 163 [.ref x, a1, a2, a3, a4, a5, a6, a7, a8, a9, a10] st h r ↔ gm_Go E d 120 164 [.ref x, a1, a2, a3, a4, a5, a6, a7, a8, a9, a10] (.ref x :: st) h r := gr_loc m120 f120_163 rfl rfl
theorem r120_163n {E : Nat → Value} {d : Nat} {st : List Value} {h : gm_H} {r : gm_R × gm_H} {a1 a2 a3 a4 a5 a6 a7 a8 a9 a10 : Value}  : gm_Go E d 120 163 [.null, a1, a2, a3, a4, a5, a6, a7, a8, a9, a10] st h r ↔ gm_Go E d 120 164 [.null, a1, a2, a3, a4, a5, a6, a7, a8, a9, a10] (.null :: st) h r := gr_loc m120 f120_163 rfl rfl
theorem f120_164 : gm_ft 120 164 = some (.getfield 72, 3) := by decide +kernel
theorem r120_164 {E : Nat → Value} {d : Nat} {st : List Value} {h : gm_H} {r : gm_R × gm_H} {lv : List Value} {a : Nat} {vs : List Value} {v : Value} (hr : gm_rd h a = some (5, vs)) (hv : vs[32]? = some v) : gm_Go E d 120 164 lv (.ref a :: st) h r ↔ gm_Go E d 120 167 lv (v :: st) h r := gr_rd m120 f120_164 rfl rfl rfl rfl (gf_get k5_72 hr hv)
theorem f120_167 : gm_ft 120 167 = some (.iload 7, 2) := by decide +kernel
theorem r120_167 {E : Nat → Value} {d : Nat} {st : List Value} {h : gm_H} {r : gm_R × gm_H} {a0 a1 a2 a3 a4 a5 a6 a8 a9 a10 : Value} {x : Int32} : gm_Go E d 120 167 [a0, a1, a2, a3, a4, a5, a6, .int x, a8, a9, a10] st h r ↔ gm_Go E d 120 169 [a0, a1, a2, a3, a4, a5, a6, .int x, a8, a9, a10] (.int x :: st) h r := gr_loc m120 f120_167 rfl rfl
theorem f120_169 : gm_ft 120 169 = some (.aload_n 0, 1) := by decide +kernel
theorem r120_169 {E : Nat → Value} {d : Nat} {st : List Value} {h : gm_H} {r : gm_R × gm_H} {a1 a2 a3 a4 a5 a6 a7 a8 a9 a10 : Value} {x : Nat} : gm_Go E d 120 169 [.ref x, a1, a2, a3, a4, a5, a6, a7, a8, a9, a10] st h r ↔ gm_Go E d 120 170 [.ref x, a1, a2, a3, a4, a5, a6, a7, a8, a9, a10] (.ref x :: st) h r := gr_loc m120 f120_169 rfl rfl
theorem r120_169n {E : Nat → Value} {d : Nat} {st : List Value} {h : gm_H} {r : gm_R × gm_H} {a1 a2 a3 a4 a5 a6 a7 a8 a9 a10 : Value}  : gm_Go E d 120 169 [.null, a1, a2, a3, a4, a5, a6, a7, a8, a9, a10] st h r ↔ gm_Go E d 120 170 [.null, a1, a2, a3, a4, a5, a6, a7, a8, a9, a10] (.null :: st) h r := gr_loc m120 f120_169 rfl rfl
theorem f120_170 : gm_ft 120 170 = some (.iload 4, 2) := by decide +kernel
theorem r120_170 {E : Nat → Value} {d : Nat} {st : List Value} {h : gm_H} {r : gm_R × gm_H} {a0 a1 a2 a3 a5 a6 a7 a8 a9 a10 : Value} {x : Int32} : gm_Go E d 120 170 [a0, a1, a2, a3, .int x, a5, a6, a7, a8, a9, a10] st h r ↔ gm_Go E d 120 172 [a0, a1, a2, a3, .int x, a5, a6, a7, a8, a9, a10] (.int x :: st) h r := gr_loc m120 f120_170 rfl rfl
theorem f120_172 : gm_ft 120 172 = some (.iload_n 3, 1) := by decide +kernel
theorem r120_172 {E : Nat → Value} {d : Nat} {st : List Value} {h : gm_H} {r : gm_R × gm_H} {a0 a1 a2 a4 a5 a6 a7 a8 a9 a10 : Value} {x : Int32} : gm_Go E d 120 172 [a0, a1, a2, .int x, a4, a5, a6, a7, a8, a9, a10] st h r ↔ gm_Go E d 120 173 [a0, a1, a2, .int x, a4, a5, a6, a7, a8, a9, a10] (.int x :: st) h r := gr_loc m120 f120_172 rfl rfl
theorem f120_173 : gm_ft 120 173 = some (.iconst 1, 1) := by decide +kernel
theorem r120_173 {E : Nat → Value} {d : Nat} {st : List Value} {h : gm_H} {r : gm_R × gm_H} {lv : List Value} : gm_Go E d 120 173 lv st h r ↔ gm_Go E d 120 174 lv (.int (1 : Int32) :: st) h r := gr_pure m120 f120_173 rfl
theorem f120_174 : gm_ft 120 174 = some (.invokevirtual 241, 3) := by decide +kernel
theorem n120_174 {st : List Value} {h : gm_H} {E : Nat → Value} {lv : List Value} {b0 b1 b2 : Value} {a : Nat} (hs : (st.map fun v => v.category).sum ≤ 8) (he : (gm_en1 [.ref a, b0, b1, b2]).length ≤ 9) {vs : List Value} (hr : gm_rd h a = some (5, vs)) : gm_next E 120 174 lv (b2 :: b1 :: b0 :: .ref a :: st) h = some (.inr (.inl (0, 121, [.ref a, b0, b1, b2], st))) := gn_call m120 f120_174 rfl rfl rfl rfl rfl rfl rfl (gc_virt (bs := [b2, b1, b0]) (w := 939) rfl rfl rfl rfl hs he hr) (by decide)
theorem f120_177 : gm_ft 120 177 = some (.ifCond .eq 7, 3) := by decide +kernel
theorem r120_177 {E : Nat → Value} {d : Nat} {st : List Value} {h : gm_H} {r : gm_R × gm_H} {lv : List Value} {x : Int32} : gm_Go E d 120 177 lv (.int x :: st) h r ↔ (if x = 0 then gm_Go E d 120 184 lv st h r else gm_Go E d 120 180 lv st h r) := (gr_br m120 f120_177 rfl rfl rfl rfl).trans gr_if
theorem f120_180 : gm_ft 120 180 = some (.iconst 1, 1) := by decide +kernel
theorem r120_180 {E : Nat → Value} {d : Nat} {st : List Value} {h : gm_H} {r : gm_R × gm_H} {lv : List Value} : gm_Go E d 120 180 lv st h r ↔ gm_Go E d 120 181 lv (.int (1 : Int32) :: st) h r := gr_pure m120 f120_180 rfl
theorem f120_181 : gm_ft 120 181 = some (.goto 19, 3) := by decide +kernel
theorem r120_181 {E : Nat → Value} {d : Nat} {st : List Value} {h : gm_H} {r : gm_R × gm_H} {lv : List Value} : gm_Go E d 120 181 lv st h r ↔ gm_Go E d 120 200 lv st h r := gr_brT m120 f120_181 rfl rfl rfl rfl
theorem f120_184 : gm_ft 120 184 = some (.aload_n 0, 1) := by decide +kernel
theorem r120_184 {E : Nat → Value} {d : Nat} {st : List Value} {h : gm_H} {r : gm_R × gm_H} {a1 a2 a3 a4 a5 a6 a7 a8 a9 a10 : Value} {x : Nat} : gm_Go E d 120 184 [.ref x, a1, a2, a3, a4, a5, a6, a7, a8, a9, a10] st h r ↔ gm_Go E d 120 185 [.ref x, a1, a2, a3, a4, a5, a6, a7, a8, a9, a10] (.ref x :: st) h r := gr_loc m120 f120_184 rfl rfl
theorem r120_184n {E : Nat → Value} {d : Nat} {st : List Value} {h : gm_H} {r : gm_R × gm_H} {a1 a2 a3 a4 a5 a6 a7 a8 a9 a10 : Value}  : gm_Go E d 120 184 [.null, a1, a2, a3, a4, a5, a6, a7, a8, a9, a10] st h r ↔ gm_Go E d 120 185 [.null, a1, a2, a3, a4, a5, a6, a7, a8, a9, a10] (.null :: st) h r := gr_loc m120 f120_184 rfl rfl
theorem f120_185 : gm_ft 120 185 = some (.iload 4, 2) := by decide +kernel
theorem r120_185 {E : Nat → Value} {d : Nat} {st : List Value} {h : gm_H} {r : gm_R × gm_H} {a0 a1 a2 a3 a5 a6 a7 a8 a9 a10 : Value} {x : Int32} : gm_Go E d 120 185 [a0, a1, a2, a3, .int x, a5, a6, a7, a8, a9, a10] st h r ↔ gm_Go E d 120 187 [a0, a1, a2, a3, .int x, a5, a6, a7, a8, a9, a10] (.int x :: st) h r := gr_loc m120 f120_185 rfl rfl
theorem f120_187 : gm_ft 120 187 = some (.iload_n 3, 1) := by decide +kernel
theorem r120_187 {E : Nat → Value} {d : Nat} {st : List Value} {h : gm_H} {r : gm_R × gm_H} {a0 a1 a2 a4 a5 a6 a7 a8 a9 a10 : Value} {x : Int32} : gm_Go E d 120 187 [a0, a1, a2, .int x, a4, a5, a6, a7, a8, a9, a10] st h r ↔ gm_Go E d 120 188 [a0, a1, a2, .int x, a4, a5, a6, a7, a8, a9, a10] (.int x :: st) h r := gr_loc m120 f120_187 rfl rfl
theorem f120_188 : gm_ft 120 188 = some (.iconst 0, 1) := by decide +kernel
theorem r120_188 {E : Nat → Value} {d : Nat} {st : List Value} {h : gm_H} {r : gm_R × gm_H} {lv : List Value} : gm_Go E d 120 188 lv st h r ↔ gm_Go E d 120 189 lv (.int (0 : Int32) :: st) h r := gr_pure m120 f120_188 rfl
theorem f120_189 : gm_ft 120 189 = some (.invokevirtual 241, 3) := by decide +kernel
theorem n120_189 {st : List Value} {h : gm_H} {E : Nat → Value} {lv : List Value} {b0 b1 b2 : Value} {a : Nat} (hs : (st.map fun v => v.category).sum ≤ 8) (he : (gm_en1 [.ref a, b0, b1, b2]).length ≤ 9) {vs : List Value} (hr : gm_rd h a = some (5, vs)) : gm_next E 120 189 lv (b2 :: b1 :: b0 :: .ref a :: st) h = some (.inr (.inl (0, 121, [.ref a, b0, b1, b2], st))) := gn_call m120 f120_189 rfl rfl rfl rfl rfl rfl rfl (gc_virt (bs := [b2, b1, b0]) (w := 939) rfl rfl rfl rfl hs he hr) (by decide)
theorem f120_192 : gm_ft 120 192 = some (.ifCond .eq 7, 3) := by decide +kernel
theorem r120_192 {E : Nat → Value} {d : Nat} {st : List Value} {h : gm_H} {r : gm_R × gm_H} {lv : List Value} {x : Int32} : gm_Go E d 120 192 lv (.int x :: st) h r ↔ (if x = 0 then gm_Go E d 120 199 lv st h r else gm_Go E d 120 195 lv st h r) := (gr_br m120 f120_192 rfl rfl rfl rfl).trans gr_if
theorem f120_195 : gm_ft 120 195 = some (.iconst 2, 1) := by decide +kernel
theorem r120_195 {E : Nat → Value} {d : Nat} {st : List Value} {h : gm_H} {r : gm_R × gm_H} {lv : List Value} : gm_Go E d 120 195 lv st h r ↔ gm_Go E d 120 196 lv (.int (2 : Int32) :: st) h r := gr_pure m120 f120_195 rfl
theorem f120_196 : gm_ft 120 196 = some (.goto 4, 3) := by decide +kernel
theorem r120_196 {E : Nat → Value} {d : Nat} {st : List Value} {h : gm_H} {r : gm_R × gm_H} {lv : List Value} : gm_Go E d 120 196 lv st h r ↔ gm_Go E d 120 200 lv st h r := gr_brT m120 f120_196 rfl rfl rfl rfl
theorem f120_199 : gm_ft 120 199 = some (.iconst 0, 1) := by decide +kernel
theorem r120_199 {E : Nat → Value} {d : Nat} {st : List Value} {h : gm_H} {r : gm_R × gm_H} {lv : List Value} : gm_Go E d 120 199 lv st h r ↔ gm_Go E d 120 200 lv (.int (0 : Int32) :: st) h r := gr_pure m120 f120_199 rfl
theorem f120_200 : gm_ft 120 200 = some (.iastore, 1) := by decide +kernel
theorem r120_200 {E : Nat → Value} {d : Nat} {st : List Value} {h : gm_H} {r : gm_R × gm_H} {lv : List Value} {a k j : Nat} {vs : List Value} {x : Int32} (hr : gm_rd h a = some (k, vs)) (hk : 100 ≤ k ∧ k % 100 = 0 ∧ gm_ko k = 2 ∧ 2 < 3) (hj : j < 2 ^ 31) (hl : j < vs.length) : gm_Go E d 120 200 lv (.int x :: .int (nI j) :: .ref a :: st) h r ↔ gm_Go E d 120 201 lv st (gm_wr h a (k, vs.set j (.int x))) r := gr_wr m120 f120_200 rfl rfl rfl rfl rfl (ga_st hr hk hj hl)
theorem f120_201 : gm_ft 120 201 = some (.aload_n 0, 1) := by decide +kernel
theorem r120_201 {E : Nat → Value} {d : Nat} {st : List Value} {h : gm_H} {r : gm_R × gm_H} {a1 a2 a3 a4 a5 a6 a7 a8 a9 a10 : Value} {x : Nat} : gm_Go E d 120 201 [.ref x, a1, a2, a3, a4, a5, a6, a7, a8, a9, a10] st h r ↔ gm_Go E d 120 202 [.ref x, a1, a2, a3, a4, a5, a6, a7, a8, a9, a10] (.ref x :: st) h r := gr_loc m120 f120_201 rfl rfl
theorem r120_201n {E : Nat → Value} {d : Nat} {st : List Value} {h : gm_H} {r : gm_R × gm_H} {a1 a2 a3 a4 a5 a6 a7 a8 a9 a10 : Value}  : gm_Go E d 120 201 [.null, a1, a2, a3, a4, a5, a6, a7, a8, a9, a10] st h r ↔ gm_Go E d 120 202 [.null, a1, a2, a3, a4, a5, a6, a7, a8, a9, a10] (.null :: st) h r := gr_loc m120 f120_201 rfl rfl
theorem f120_202 : gm_ft 120 202 = some (.getfield 78, 3) := by decide +kernel
theorem r120_202 {E : Nat → Value} {d : Nat} {st : List Value} {h : gm_H} {r : gm_R × gm_H} {lv : List Value} {a : Nat} {vs : List Value} {v : Value} (hr : gm_rd h a = some (5, vs)) (hv : vs[34]? = some v) : gm_Go E d 120 202 lv (.ref a :: st) h r ↔ gm_Go E d 120 205 lv (v :: st) h r := gr_rd m120 f120_202 rfl rfl rfl rfl (gf_get k5_78 hr hv)
theorem f120_205 : gm_ft 120 205 = some (.iload 7, 2) := by decide +kernel
theorem r120_205 {E : Nat → Value} {d : Nat} {st : List Value} {h : gm_H} {r : gm_R × gm_H} {a0 a1 a2 a3 a4 a5 a6 a8 a9 a10 : Value} {x : Int32} : gm_Go E d 120 205 [a0, a1, a2, a3, a4, a5, a6, .int x, a8, a9, a10] st h r ↔ gm_Go E d 120 207 [a0, a1, a2, a3, a4, a5, a6, .int x, a8, a9, a10] (.int x :: st) h r := gr_loc m120 f120_205 rfl rfl
theorem f120_207 : gm_ft 120 207 = some (.lload 5, 2) := by decide +kernel
theorem r120_207 {E : Nat → Value} {d : Nat} {st : List Value} {h : gm_H} {r : gm_R × gm_H} {a0 a1 a2 a3 a4 a6 a7 a8 a9 a10 : Value} {x : Int64} : gm_Go E d 120 207 [a0, a1, a2, a3, a4, .long x, a6, a7, a8, a9, a10] st h r ↔ gm_Go E d 120 209 [a0, a1, a2, a3, a4, .long x, a6, a7, a8, a9, a10] (.long x :: st) h r := gr_loc m120 f120_207 rfl rfl
theorem f120_209 : gm_ft 120 209 = some (.lastore, 1) := by decide +kernel
theorem r120_209 {E : Nat → Value} {d : Nat} {st : List Value} {h : gm_H} {r : gm_R × gm_H} {lv : List Value} {a k j : Nat} {vs : List Value} {x : Int64} (hr : gm_rd h a = some (k, vs)) (hk : 100 ≤ k ∧ k % 100 = 1 ∧ gm_ko k = 2 ∧ 2 < 3) (hj : j < 2 ^ 31) (hl : j < vs.length) : gm_Go E d 120 209 lv (.long x :: .int (nI j) :: .ref a :: st) h r ↔ gm_Go E d 120 210 lv st (gm_wr h a (k, vs.set j (.long x))) r := gr_wr m120 f120_209 rfl rfl rfl rfl rfl (ga_st hr hk hj hl)
theorem f120_210 : gm_ft 120 210 = some (.aload_n 0, 1) := by decide +kernel
theorem r120_210 {E : Nat → Value} {d : Nat} {st : List Value} {h : gm_H} {r : gm_R × gm_H} {a1 a2 a3 a4 a5 a6 a7 a8 a9 a10 : Value} {x : Nat} : gm_Go E d 120 210 [.ref x, a1, a2, a3, a4, a5, a6, a7, a8, a9, a10] st h r ↔ gm_Go E d 120 211 [.ref x, a1, a2, a3, a4, a5, a6, a7, a8, a9, a10] (.ref x :: st) h r := gr_loc m120 f120_210 rfl rfl
theorem r120_210n {E : Nat → Value} {d : Nat} {st : List Value} {h : gm_H} {r : gm_R × gm_H} {a1 a2 a3 a4 a5 a6 a7 a8 a9 a10 : Value}  : gm_Go E d 120 210 [.null, a1, a2, a3, a4, a5, a6, a7, a8, a9, a10] st h r ↔ gm_Go E d 120 211 [.null, a1, a2, a3, a4, a5, a6, a7, a8, a9, a10] (.null :: st) h r := gr_loc m120 f120_210 rfl rfl
theorem f120_211 : gm_ft 120 211 = some (.getfield 105, 3) := by decide +kernel
theorem r120_211 {E : Nat → Value} {d : Nat} {st : List Value} {h : gm_H} {r : gm_R × gm_H} {lv : List Value} {a : Nat} {vs : List Value} {v : Value} (hr : gm_rd h a = some (5, vs)) (hv : vs[44]? = some v) : gm_Go E d 120 211 lv (.ref a :: st) h r ↔ gm_Go E d 120 214 lv (v :: st) h r := gr_rd m120 f120_211 rfl rfl rfl rfl (gf_get k5_105 hr hv)
theorem f120_214 : gm_ft 120 214 = some (.iload_n 1, 1) := by decide +kernel
theorem r120_214 {E : Nat → Value} {d : Nat} {st : List Value} {h : gm_H} {r : gm_R × gm_H} {a0 a2 a3 a4 a5 a6 a7 a8 a9 a10 : Value} {x : Int32} : gm_Go E d 120 214 [a0, .int x, a2, a3, a4, a5, a6, a7, a8, a9, a10] st h r ↔ gm_Go E d 120 215 [a0, .int x, a2, a3, a4, a5, a6, a7, a8, a9, a10] (.int x :: st) h r := gr_loc m120 f120_214 rfl rfl
theorem f120_215 : gm_ft 120 215 = some (.iload 7, 2) := by decide +kernel
theorem r120_215 {E : Nat → Value} {d : Nat} {st : List Value} {h : gm_H} {r : gm_R × gm_H} {a0 a1 a2 a3 a4 a5 a6 a8 a9 a10 : Value} {x : Int32} : gm_Go E d 120 215 [a0, a1, a2, a3, a4, a5, a6, .int x, a8, a9, a10] st h r ↔ gm_Go E d 120 217 [a0, a1, a2, a3, a4, a5, a6, .int x, a8, a9, a10] (.int x :: st) h r := gr_loc m120 f120_215 rfl rfl
theorem f120_217 : gm_ft 120 217 = some (.iastore, 1) := by decide +kernel
theorem r120_217 {E : Nat → Value} {d : Nat} {st : List Value} {h : gm_H} {r : gm_R × gm_H} {lv : List Value} {a k j : Nat} {vs : List Value} {x : Int32} (hr : gm_rd h a = some (k, vs)) (hk : 100 ≤ k ∧ k % 100 = 0 ∧ gm_ko k = 2 ∧ 2 < 3) (hj : j < 2 ^ 31) (hl : j < vs.length) : gm_Go E d 120 217 lv (.int x :: .int (nI j) :: .ref a :: st) h r ↔ gm_Go E d 120 218 lv st (gm_wr h a (k, vs.set j (.int x))) r := gr_wr m120 f120_217 rfl rfl rfl rfl rfl (ga_st hr hk hj hl)
theorem f120_218 : gm_ft 120 218 = some (.aload_n 0, 1) := by decide +kernel
theorem r120_218 {E : Nat → Value} {d : Nat} {st : List Value} {h : gm_H} {r : gm_R × gm_H} {a1 a2 a3 a4 a5 a6 a7 a8 a9 a10 : Value} {x : Nat} : gm_Go E d 120 218 [.ref x, a1, a2, a3, a4, a5, a6, a7, a8, a9, a10] st h r ↔ gm_Go E d 120 219 [.ref x, a1, a2, a3, a4, a5, a6, a7, a8, a9, a10] (.ref x :: st) h r := gr_loc m120 f120_218 rfl rfl
theorem r120_218n {E : Nat → Value} {d : Nat} {st : List Value} {h : gm_H} {r : gm_R × gm_H} {a1 a2 a3 a4 a5 a6 a7 a8 a9 a10 : Value}  : gm_Go E d 120 218 [.null, a1, a2, a3, a4, a5, a6, a7, a8, a9, a10] st h r ↔ gm_Go E d 120 219 [.null, a1, a2, a3, a4, a5, a6, a7, a8, a9, a10] (.null :: st) h r := gr_loc m120 f120_218 rfl rfl
theorem f120_219 : gm_ft 120 219 = some (.getfield 111, 3) := by decide +kernel
theorem r120_219 {E : Nat → Value} {d : Nat} {st : List Value} {h : gm_H} {r : gm_R × gm_H} {lv : List Value} {a : Nat} {vs : List Value} {v : Value} (hr : gm_rd h a = some (5, vs)) (hv : vs[46]? = some v) : gm_Go E d 120 219 lv (.ref a :: st) h r ↔ gm_Go E d 120 222 lv (v :: st) h r := gr_rd m120 f120_219 rfl rfl rfl rfl (gf_get k5_111 hr hv)
theorem f120_222 : gm_ft 120 222 = some (.iload_n 1, 1) := by decide +kernel
theorem r120_222 {E : Nat → Value} {d : Nat} {st : List Value} {h : gm_H} {r : gm_R × gm_H} {a0 a2 a3 a4 a5 a6 a7 a8 a9 a10 : Value} {x : Int32} : gm_Go E d 120 222 [a0, .int x, a2, a3, a4, a5, a6, a7, a8, a9, a10] st h r ↔ gm_Go E d 120 223 [a0, .int x, a2, a3, a4, a5, a6, a7, a8, a9, a10] (.int x :: st) h r := gr_loc m120 f120_222 rfl rfl
theorem f120_223 : gm_ft 120 223 = some (.aload_n 0, 1) := by decide +kernel
theorem r120_223 {E : Nat → Value} {d : Nat} {st : List Value} {h : gm_H} {r : gm_R × gm_H} {a1 a2 a3 a4 a5 a6 a7 a8 a9 a10 : Value} {x : Nat} : gm_Go E d 120 223 [.ref x, a1, a2, a3, a4, a5, a6, a7, a8, a9, a10] st h r ↔ gm_Go E d 120 224 [.ref x, a1, a2, a3, a4, a5, a6, a7, a8, a9, a10] (.ref x :: st) h r := gr_loc m120 f120_223 rfl rfl
theorem r120_223n {E : Nat → Value} {d : Nat} {st : List Value} {h : gm_H} {r : gm_R × gm_H} {a1 a2 a3 a4 a5 a6 a7 a8 a9 a10 : Value}  : gm_Go E d 120 223 [.null, a1, a2, a3, a4, a5, a6, a7, a8, a9, a10] st h r ↔ gm_Go E d 120 224 [.null, a1, a2, a3, a4, a5, a6, a7, a8, a9, a10] (.null :: st) h r := gr_loc m120 f120_223 rfl rfl
theorem f120_224 : gm_ft 120 224 = some (.iconst 0, 1) := by decide +kernel
theorem r120_224 {E : Nat → Value} {d : Nat} {st : List Value} {h : gm_H} {r : gm_R × gm_H} {lv : List Value} : gm_Go E d 120 224 lv st h r ↔ gm_Go E d 120 225 lv (.int (0 : Int32) :: st) h r := gr_pure m120 f120_224 rfl
theorem f120_225 : gm_ft 120 225 = some (.iload 7, 2) := by decide +kernel
theorem r120_225 {E : Nat → Value} {d : Nat} {st : List Value} {h : gm_H} {r : gm_R × gm_H} {a0 a1 a2 a3 a4 a5 a6 a8 a9 a10 : Value} {x : Int32} : gm_Go E d 120 225 [a0, a1, a2, a3, a4, a5, a6, .int x, a8, a9, a10] st h r ↔ gm_Go E d 120 227 [a0, a1, a2, a3, a4, a5, a6, .int x, a8, a9, a10] (.int x :: st) h r := gr_loc m120 f120_225 rfl rfl
theorem f120_227 : gm_ft 120 227 = some (.invokevirtual 189, 3) := by decide +kernel
theorem n120_227 {st : List Value} {h : gm_H} {E : Nat → Value} {lv : List Value} {b0 b1 : Value} {a : Nat} (hs : (st.map fun v => v.category).sum ≤ 8) (he : (gm_en1 [.ref a, b0, b1]).length ≤ 3) {vs : List Value} (hr : gm_rd h a = some (5, vs)) : gm_next E 120 227 lv (b1 :: b0 :: .ref a :: st) h = some (.inr (.inl (0, 108, [.ref a, b0, b1], st))) := gn_call m120 f120_227 rfl rfl rfl rfl rfl rfl rfl (gc_virt (bs := [b1, b0]) (w := 885) rfl rfl rfl rfl hs he hr) (by decide)
theorem f120_230 : gm_ft 120 230 = some (.iastore, 1) := by decide +kernel
theorem r120_230 {E : Nat → Value} {d : Nat} {st : List Value} {h : gm_H} {r : gm_R × gm_H} {lv : List Value} {a k j : Nat} {vs : List Value} {x : Int32} (hr : gm_rd h a = some (k, vs)) (hk : 100 ≤ k ∧ k % 100 = 0 ∧ gm_ko k = 2 ∧ 2 < 3) (hj : j < 2 ^ 31) (hl : j < vs.length) : gm_Go E d 120 230 lv (.int x :: .int (nI j) :: .ref a :: st) h r ↔ gm_Go E d 120 231 lv st (gm_wr h a (k, vs.set j (.int x))) r := gr_wr m120 f120_230 rfl rfl rfl rfl rfl (ga_st hr hk hj hl)
theorem f120_231 : gm_ft 120 231 = some (.aload_n 0, 1) := by decide +kernel
theorem r120_231 {E : Nat → Value} {d : Nat} {st : List Value} {h : gm_H} {r : gm_R × gm_H} {a1 a2 a3 a4 a5 a6 a7 a8 a9 a10 : Value} {x : Nat} : gm_Go E d 120 231 [.ref x, a1, a2, a3, a4, a5, a6, a7, a8, a9, a10] st h r ↔ gm_Go E d 120 232 [.ref x, a1, a2, a3, a4, a5, a6, a7, a8, a9, a10] (.ref x :: st) h r := gr_loc m120 f120_231 rfl rfl
theorem r120_231n {E : Nat → Value} {d : Nat} {st : List Value} {h : gm_H} {r : gm_R × gm_H} {a1 a2 a3 a4 a5 a6 a7 a8 a9 a10 : Value}  : gm_Go E d 120 231 [.null, a1, a2, a3, a4, a5, a6, a7, a8, a9, a10] st h r ↔ gm_Go E d 120 232 [.null, a1, a2, a3, a4, a5, a6, a7, a8, a9, a10] (.null :: st) h r := gr_loc m120 f120_231 rfl rfl
theorem f120_232 : gm_ft 120 232 = some (.invokevirtual 155, 3) := by decide +kernel
theorem n120_232 {st : List Value} {h : gm_H} {E : Nat → Value} {lv : List Value} {a : Nat} (hs : (st.map fun v => v.category).sum ≤ 8) (he : (gm_en1 [.ref a]).length ≤ 1) {vs : List Value} (hr : gm_rd h a = some (5, vs)) : gm_next E 120 232 lv (.ref a :: st) h = some (.inr (.inl (0, 99, [.ref a], st))) := gn_call m120 f120_232 rfl rfl rfl rfl rfl rfl rfl (gc_virt (bs := []) (w := 848) rfl rfl rfl rfl hs he hr) (by decide)
theorem f120_235 : gm_ft 120 235 = some (.istore 9, 2) := by decide +kernel
theorem r120_235 {E : Nat → Value} {d : Nat} {st : List Value} {h : gm_H} {r : gm_R × gm_H} {a0 a1 a2 a3 a4 a5 a6 a7 a8 a9 a10 : Value} {x : Int32} : gm_Go E d 120 235 [a0, a1, a2, a3, a4, a5, a6, a7, a8, a9, a10] (.int x :: st) h r ↔ gm_Go E d 120 237 [a0, a1, a2, a3, a4, a5, a6, a7, gm_k a8, .int x, a10] st h r := gr_loc m120 f120_235 rfl rfl
theorem f120_237 : gm_ft 120 237 = some (.aload_n 0, 1) := by decide +kernel
theorem r120_237 {E : Nat → Value} {d : Nat} {st : List Value} {h : gm_H} {r : gm_R × gm_H} {a1 a2 a3 a4 a5 a6 a7 a8 a9 a10 : Value} {x : Nat} : gm_Go E d 120 237 [.ref x, a1, a2, a3, a4, a5, a6, a7, a8, a9, a10] st h r ↔ gm_Go E d 120 238 [.ref x, a1, a2, a3, a4, a5, a6, a7, a8, a9, a10] (.ref x :: st) h r := gr_loc m120 f120_237 rfl rfl
theorem r120_237n {E : Nat → Value} {d : Nat} {st : List Value} {h : gm_H} {r : gm_R × gm_H} {a1 a2 a3 a4 a5 a6 a7 a8 a9 a10 : Value}  : gm_Go E d 120 237 [.null, a1, a2, a3, a4, a5, a6, a7, a8, a9, a10] st h r ↔ gm_Go E d 120 238 [.null, a1, a2, a3, a4, a5, a6, a7, a8, a9, a10] (.null :: st) h r := gr_loc m120 f120_237 rfl rfl
theorem f120_238 : gm_ft 120 238 = some (.getfield 75, 3) := by decide +kernel
theorem r120_238 {E : Nat → Value} {d : Nat} {st : List Value} {h : gm_H} {r : gm_R × gm_H} {lv : List Value} {a : Nat} {vs : List Value} {v : Value} (hr : gm_rd h a = some (5, vs)) (hv : vs[33]? = some v) : gm_Go E d 120 238 lv (.ref a :: st) h r ↔ gm_Go E d 120 241 lv (v :: st) h r := gr_rd m120 f120_238 rfl rfl rfl rfl (gf_get k5_75 hr hv)
theorem f120_241 : gm_ft 120 241 = some (.iload 7, 2) := by decide +kernel
theorem r120_241 {E : Nat → Value} {d : Nat} {st : List Value} {h : gm_H} {r : gm_R × gm_H} {a0 a1 a2 a3 a4 a5 a6 a8 a9 a10 : Value} {x : Int32} : gm_Go E d 120 241 [a0, a1, a2, a3, a4, a5, a6, .int x, a8, a9, a10] st h r ↔ gm_Go E d 120 243 [a0, a1, a2, a3, a4, a5, a6, .int x, a8, a9, a10] (.int x :: st) h r := gr_loc m120 f120_241 rfl rfl
theorem f120_243 : gm_ft 120 243 = some (.iload 9, 2) := by decide +kernel
theorem r120_243 {E : Nat → Value} {d : Nat} {st : List Value} {h : gm_H} {r : gm_R × gm_H} {a0 a1 a2 a3 a4 a5 a6 a7 a8 a10 : Value} {x : Int32} : gm_Go E d 120 243 [a0, a1, a2, a3, a4, a5, a6, a7, a8, .int x, a10] st h r ↔ gm_Go E d 120 245 [a0, a1, a2, a3, a4, a5, a6, a7, a8, .int x, a10] (.int x :: st) h r := gr_loc m120 f120_243 rfl rfl
theorem f120_245 : gm_ft 120 245 = some (.iastore, 1) := by decide +kernel
theorem r120_245 {E : Nat → Value} {d : Nat} {st : List Value} {h : gm_H} {r : gm_R × gm_H} {lv : List Value} {a k j : Nat} {vs : List Value} {x : Int32} (hr : gm_rd h a = some (k, vs)) (hk : 100 ≤ k ∧ k % 100 = 0 ∧ gm_ko k = 2 ∧ 2 < 3) (hj : j < 2 ^ 31) (hl : j < vs.length) : gm_Go E d 120 245 lv (.int x :: .int (nI j) :: .ref a :: st) h r ↔ gm_Go E d 120 246 lv st (gm_wr h a (k, vs.set j (.int x))) r := gr_wr m120 f120_245 rfl rfl rfl rfl rfl (ga_st hr hk hj hl)
theorem f120_246 : gm_ft 120 246 = some (.aload_n 0, 1) := by decide +kernel
theorem r120_246 {E : Nat → Value} {d : Nat} {st : List Value} {h : gm_H} {r : gm_R × gm_H} {a1 a2 a3 a4 a5 a6 a7 a8 a9 a10 : Value} {x : Nat} : gm_Go E d 120 246 [.ref x, a1, a2, a3, a4, a5, a6, a7, a8, a9, a10] st h r ↔ gm_Go E d 120 247 [.ref x, a1, a2, a3, a4, a5, a6, a7, a8, a9, a10] (.ref x :: st) h r := gr_loc m120 f120_246 rfl rfl
theorem r120_246n {E : Nat → Value} {d : Nat} {st : List Value} {h : gm_H} {r : gm_R × gm_H} {a1 a2 a3 a4 a5 a6 a7 a8 a9 a10 : Value}  : gm_Go E d 120 246 [.null, a1, a2, a3, a4, a5, a6, a7, a8, a9, a10] st h r ↔ gm_Go E d 120 247 [.null, a1, a2, a3, a4, a5, a6, a7, a8, a9, a10] (.null :: st) h r := gr_loc m120 f120_246 rfl rfl
theorem f120_247 : gm_ft 120 247 = some (.getfield 145, 3) := by decide +kernel
theorem r120_247 {E : Nat → Value} {d : Nat} {st : List Value} {h : gm_H} {r : gm_R × gm_H} {lv : List Value} {a : Nat} {vs : List Value} {v : Value} (hr : gm_rd h a = some (5, vs)) (hv : vs[8]? = some v) : gm_Go E d 120 247 lv (.ref a :: st) h r ↔ gm_Go E d 120 250 lv (v :: st) h r := gr_rd m120 f120_247 rfl rfl rfl rfl (gf_get k5_145 hr hv)
theorem f120_250 : gm_ft 120 250 = some (.ifCond .ne 34, 3) := by decide +kernel
theorem r120_250 {E : Nat → Value} {d : Nat} {st : List Value} {h : gm_H} {r : gm_R × gm_H} {lv : List Value} {x : Int32} : gm_Go E d 120 250 lv (.int x :: st) h r ↔ (if x = 0 then gm_Go E d 120 253 lv st h r else gm_Go E d 120 284 lv st h r) := (gr_br m120 f120_250 rfl rfl rfl rfl).trans gr_ifn
theorem f120_253 : gm_ft 120 253 = some (.iload 9, 2) := by decide +kernel
theorem r120_253 {E : Nat → Value} {d : Nat} {st : List Value} {h : gm_H} {r : gm_R × gm_H} {a0 a1 a2 a3 a4 a5 a6 a7 a8 a10 : Value} {x : Int32} : gm_Go E d 120 253 [a0, a1, a2, a3, a4, a5, a6, a7, a8, .int x, a10] st h r ↔ gm_Go E d 120 255 [a0, a1, a2, a3, a4, a5, a6, a7, a8, .int x, a10] (.int x :: st) h r := gr_loc m120 f120_253 rfl rfl
theorem f120_255 : gm_ft 120 255 = some (.bipush 6, 2) := by decide +kernel
theorem r120_255 {E : Nat → Value} {d : Nat} {st : List Value} {h : gm_H} {r : gm_R × gm_H} {lv : List Value} : gm_Go E d 120 255 lv st h r ↔ gm_Go E d 120 257 lv (.int (6 : Int32) :: st) h r := gr_pure m120 f120_255 rfl
theorem f120_257 : gm_ft 120 257 = some (.iand, 1) := by decide +kernel
theorem r120_257 {E : Nat → Value} {d : Nat} {st : List Value} {h : gm_H} {r : gm_R × gm_H} {lv : List Value} {x y : Int32} : gm_Go E d 120 257 lv (.int y :: .int x :: st) h r ↔ gm_Go E d 120 258 lv (.int (x &&& y) :: st) h r := gr_pure m120 f120_257 rfl
theorem f120_258 : gm_ft 120 258 = some (.bipush 6, 2) := by decide +kernel
theorem r120_258 {E : Nat → Value} {d : Nat} {st : List Value} {h : gm_H} {r : gm_R × gm_H} {lv : List Value} : gm_Go E d 120 258 lv st h r ↔ gm_Go E d 120 260 lv (.int (6 : Int32) :: st) h r := gr_pure m120 f120_258 rfl
theorem f120_260 : gm_ft 120 260 = some (.if_icmp .eq 18, 3) := by decide +kernel
theorem r120_260 {E : Nat → Value} {d : Nat} {st : List Value} {h : gm_H} {r : gm_R × gm_H} {lv : List Value} {x y : Int32} : gm_Go E d 120 260 lv (.int y :: .int x :: st) h r ↔ (if x = y then gm_Go E d 120 278 lv st h r else gm_Go E d 120 263 lv st h r) := (gr_br m120 f120_260 rfl rfl rfl rfl).trans gr_if
theorem f120_263 : gm_ft 120 263 = some (.iload 9, 2) := by decide +kernel
theorem r120_263 {E : Nat → Value} {d : Nat} {st : List Value} {h : gm_H} {r : gm_R × gm_H} {a0 a1 a2 a3 a4 a5 a6 a7 a8 a10 : Value} {x : Int32} : gm_Go E d 120 263 [a0, a1, a2, a3, a4, a5, a6, a7, a8, .int x, a10] st h r ↔ gm_Go E d 120 265 [a0, a1, a2, a3, a4, a5, a6, a7, a8, .int x, a10] (.int x :: st) h r := gr_loc m120 f120_263 rfl rfl
theorem f120_265 : gm_ft 120 265 = some (.bipush 16, 2) := by decide +kernel
theorem r120_265 {E : Nat → Value} {d : Nat} {st : List Value} {h : gm_H} {r : gm_R × gm_H} {lv : List Value} : gm_Go E d 120 265 lv st h r ↔ gm_Go E d 120 267 lv (.int (16 : Int32) :: st) h r := gr_pure m120 f120_265 rfl
theorem f120_267 : gm_ft 120 267 = some (.iand, 1) := by decide +kernel
theorem r120_267 {E : Nat → Value} {d : Nat} {st : List Value} {h : gm_H} {r : gm_R × gm_H} {lv : List Value} {x y : Int32} : gm_Go E d 120 267 lv (.int y :: .int x :: st) h r ↔ gm_Go E d 120 268 lv (.int (x &&& y) :: st) h r := gr_pure m120 f120_267 rfl
theorem f120_268 : gm_ft 120 268 = some (.ifCond .eq 16, 3) := by decide +kernel
theorem r120_268 {E : Nat → Value} {d : Nat} {st : List Value} {h : gm_H} {r : gm_R × gm_H} {lv : List Value} {x : Int32} : gm_Go E d 120 268 lv (.int x :: st) h r ↔ (if x = 0 then gm_Go E d 120 284 lv st h r else gm_Go E d 120 271 lv st h r) := (gr_br m120 f120_268 rfl rfl rfl rfl).trans gr_if
theorem f120_271 : gm_ft 120 271 = some (.lload 5, 2) := by decide +kernel
theorem r120_271 {E : Nat → Value} {d : Nat} {st : List Value} {h : gm_H} {r : gm_R × gm_H} {a0 a1 a2 a3 a4 a6 a7 a8 a9 a10 : Value} {x : Int64} : gm_Go E d 120 271 [a0, a1, a2, a3, a4, .long x, a6, a7, a8, a9, a10] st h r ↔ gm_Go E d 120 273 [a0, a1, a2, a3, a4, .long x, a6, a7, a8, a9, a10] (.long x :: st) h r := gr_loc m120 f120_271 rfl rfl
theorem f120_273 : gm_ft 120 273 = some (.lconst 0, 1) := by decide +kernel
theorem r120_273 {E : Nat → Value} {d : Nat} {st : List Value} {h : gm_H} {r : gm_R × gm_H} {lv : List Value} : gm_Go E d 120 273 lv st h r ↔ gm_Go E d 120 274 lv (.long 0 :: st) h r := gr_pure m120 f120_273 rfl
theorem f120_274 : gm_ft 120 274 = some (.lcmp, 1) := by decide +kernel
theorem r120_274 {E : Nat → Value} {d : Nat} {st : List Value} {h : gm_H} {r : gm_R × gm_H} {lv : List Value} {x y : Int64} : gm_Go E d 120 274 lv (.long y :: .long x :: st) h r ↔ gm_Go E d 120 275 lv (.int (lg_cmp x y) :: st) h r := gr_pure m120 f120_274 rfl
theorem f120_275 : gm_ft 120 275 = some (.ifCond .eq 9, 3) := by decide +kernel
theorem r120_275 {E : Nat → Value} {d : Nat} {st : List Value} {h : gm_H} {r : gm_R × gm_H} {lv : List Value} {x : Int32} : gm_Go E d 120 275 lv (.int x :: st) h r ↔ (if x = 0 then gm_Go E d 120 284 lv st h r else gm_Go E d 120 278 lv st h r) := (gr_br m120 f120_275 rfl rfl rfl rfl).trans gr_if
theorem f120_278 : gm_ft 120 278 = some (.aload_n 0, 1) := by decide +kernel
theorem r120_278 {E : Nat → Value} {d : Nat} {st : List Value} {h : gm_H} {r : gm_R × gm_H} {a1 a2 a3 a4 a5 a6 a7 a8 a9 a10 : Value} {x : Nat} : gm_Go E d 120 278 [.ref x, a1, a2, a3, a4, a5, a6, a7, a8, a9, a10] st h r ↔ gm_Go E d 120 279 [.ref x, a1, a2, a3, a4, a5, a6, a7, a8, a9, a10] (.ref x :: st) h r := gr_loc m120 f120_278 rfl rfl
theorem r120_278n {E : Nat → Value} {d : Nat} {st : List Value} {h : gm_H} {r : gm_R × gm_H} {a1 a2 a3 a4 a5 a6 a7 a8 a9 a10 : Value}  : gm_Go E d 120 278 [.null, a1, a2, a3, a4, a5, a6, a7, a8, a9, a10] st h r ↔ gm_Go E d 120 279 [.null, a1, a2, a3, a4, a5, a6, a7, a8, a9, a10] (.null :: st) h r := gr_loc m120 f120_278 rfl rfl
theorem f120_279 : gm_ft 120 279 = some (.bipush (-5), 2) := by decide +kernel
theorem r120_279 {E : Nat → Value} {d : Nat} {st : List Value} {h : gm_H} {r : gm_R × gm_H} {lv : List Value} : gm_Go E d 120 279 lv st h r ↔ gm_Go E d 120 281 lv (.int (-5 : Int32) :: st) h r := gr_pure m120 f120_279 rfl
theorem f120_281 : gm_ft 120 281 = some (.invokevirtual 151, 3) := by decide +kernel
theorem n120_281 {st : List Value} {h : gm_H} {E : Nat → Value} {lv : List Value} {b0 : Value} {a : Nat} (hs : (st.map fun v => v.category).sum ≤ 8) (he : (gm_en1 [.ref a, b0]).length ≤ 2) {vs : List Value} (hr : gm_rd h a = some (5, vs)) : gm_next E 120 281 lv (b0 :: .ref a :: st) h = some (.inr (.inl (0, 98, [.ref a, b0], st))) := gn_call m120 f120_281 rfl rfl rfl rfl rfl rfl rfl (gc_virt (bs := [b0]) (w := 844) rfl rfl rfl rfl hs he hr) (by decide)
theorem f120_284 : gm_ft 120 284 = some (.aload_n 0, 1) := by decide +kernel
theorem r120_284 {E : Nat → Value} {d : Nat} {st : List Value} {h : gm_H} {r : gm_R × gm_H} {a1 a2 a3 a4 a5 a6 a7 a8 a9 a10 : Value} {x : Nat} : gm_Go E d 120 284 [.ref x, a1, a2, a3, a4, a5, a6, a7, a8, a9, a10] st h r ↔ gm_Go E d 120 285 [.ref x, a1, a2, a3, a4, a5, a6, a7, a8, a9, a10] (.ref x :: st) h r := gr_loc m120 f120_284 rfl rfl
theorem r120_284n {E : Nat → Value} {d : Nat} {st : List Value} {h : gm_H} {r : gm_R × gm_H} {a1 a2 a3 a4 a5 a6 a7 a8 a9 a10 : Value}  : gm_Go E d 120 284 [.null, a1, a2, a3, a4, a5, a6, a7, a8, a9, a10] st h r ↔ gm_Go E d 120 285 [.null, a1, a2, a3, a4, a5, a6, a7, a8, a9, a10] (.null :: st) h r := gr_loc m120 f120_284 rfl rfl
theorem f120_285 : gm_ft 120 285 = some (.iconst 2, 1) := by decide +kernel
theorem r120_285 {E : Nat → Value} {d : Nat} {st : List Value} {h : gm_H} {r : gm_R × gm_H} {lv : List Value} : gm_Go E d 120 285 lv st h r ↔ gm_Go E d 120 286 lv (.int (2 : Int32) :: st) h r := gr_pure m120 f120_285 rfl
theorem f120_286 : gm_ft 120 286 = some (.invokevirtual 159, 3) := by decide +kernel
theorem n120_286 {st : List Value} {h : gm_H} {E : Nat → Value} {lv : List Value} {b0 : Value} {a : Nat} (hs : (st.map fun v => v.category).sum ≤ 8) (he : (gm_en1 [.ref a, b0]).length ≤ 5) {vs : List Value} (hr : gm_rd h a = some (5, vs)) : gm_next E 120 286 lv (b0 :: .ref a :: st) h = some (.inr (.inl (0, 107, [.ref a, b0], st))) := gn_call m120 f120_286 rfl rfl rfl rfl rfl rfl rfl (gc_virt (bs := [b0]) (w := 880) rfl rfl rfl rfl hs he hr) (by decide)
theorem f120_289 : gm_ft 120 289 = some (.l2i, 1) := by decide +kernel
theorem r120_289 {E : Nat → Value} {d : Nat} {st : List Value} {h : gm_H} {r : gm_R × gm_H} {lv : List Value} {x : Int64} : gm_Go E d 120 289 lv (.long x :: st) h r ↔ gm_Go E d 120 290 lv (.int (x.toInt32) :: st) h r := gr_pure m120 f120_289 rfl
theorem f120_290 : gm_ft 120 290 = some (.istore 10, 2) := by decide +kernel
theorem r120_290 {E : Nat → Value} {d : Nat} {st : List Value} {h : gm_H} {r : gm_R × gm_H} {a0 a1 a2 a3 a4 a5 a6 a7 a8 a9 a10 : Value} {x : Int32} : gm_Go E d 120 290 [a0, a1, a2, a3, a4, a5, a6, a7, a8, a9, a10] (.int x :: st) h r ↔ gm_Go E d 120 292 [a0, a1, a2, a3, a4, a5, a6, a7, a8, gm_k a9, .int x] st h r := gr_loc m120 f120_290 rfl rfl
theorem f120_292 : gm_ft 120 292 = some (.aload_n 0, 1) := by decide +kernel
theorem r120_292 {E : Nat → Value} {d : Nat} {st : List Value} {h : gm_H} {r : gm_R × gm_H} {a1 a2 a3 a4 a5 a6 a7 a8 a9 a10 : Value} {x : Nat} : gm_Go E d 120 292 [.ref x, a1, a2, a3, a4, a5, a6, a7, a8, a9, a10] st h r ↔ gm_Go E d 120 293 [.ref x, a1, a2, a3, a4, a5, a6, a7, a8, a9, a10] (.ref x :: st) h r := gr_loc m120 f120_292 rfl rfl
theorem r120_292n {E : Nat → Value} {d : Nat} {st : List Value} {h : gm_H} {r : gm_R × gm_H} {a1 a2 a3 a4 a5 a6 a7 a8 a9 a10 : Value}  : gm_Go E d 120 292 [.null, a1, a2, a3, a4, a5, a6, a7, a8, a9, a10] st h r ↔ gm_Go E d 120 293 [.null, a1, a2, a3, a4, a5, a6, a7, a8, a9, a10] (.null :: st) h r := gr_loc m120 f120_292 rfl rfl
theorem f120_293 : gm_ft 120 293 = some (.getfield 145, 3) := by decide +kernel
theorem r120_293 {E : Nat → Value} {d : Nat} {st : List Value} {h : gm_H} {r : gm_R × gm_H} {lv : List Value} {a : Nat} {vs : List Value} {v : Value} (hr : gm_rd h a = some (5, vs)) (hv : vs[8]? = some v) : gm_Go E d 120 293 lv (.ref a :: st) h r ↔ gm_Go E d 120 296 lv (v :: st) h r := gr_rd m120 f120_293 rfl rfl rfl rfl (gf_get k5_145 hr hv)
theorem f120_296 : gm_ft 120 296 = some (.ifCond .ne 16, 3) := by decide +kernel
theorem r120_296 {E : Nat → Value} {d : Nat} {st : List Value} {h : gm_H} {r : gm_R × gm_H} {lv : List Value} {x : Int32} : gm_Go E d 120 296 lv (.int x :: st) h r ↔ (if x = 0 then gm_Go E d 120 299 lv st h r else gm_Go E d 120 312 lv st h r) := (gr_br m120 f120_296 rfl rfl rfl rfl).trans gr_ifn
theorem f120_299 : gm_ft 120 299 = some (.iload 10, 2) := by decide +kernel
theorem r120_299 {E : Nat → Value} {d : Nat} {st : List Value} {h : gm_H} {r : gm_R × gm_H} {a0 a1 a2 a3 a4 a5 a6 a7 a8 a9 : Value} {x : Int32} : gm_Go E d 120 299 [a0, a1, a2, a3, a4, a5, a6, a7, a8, a9, .int x] st h r ↔ gm_Go E d 120 301 [a0, a1, a2, a3, a4, a5, a6, a7, a8, a9, .int x] (.int x :: st) h r := gr_loc m120 f120_299 rfl rfl
theorem f120_301 : gm_ft 120 301 = some (.bipush 8, 2) := by decide +kernel
theorem r120_301 {E : Nat → Value} {d : Nat} {st : List Value} {h : gm_H} {r : gm_R × gm_H} {lv : List Value} : gm_Go E d 120 301 lv st h r ↔ gm_Go E d 120 303 lv (.int (8 : Int32) :: st) h r := gr_pure m120 f120_301 rfl
theorem f120_303 : gm_ft 120 303 = some (.if_icmp .le 9, 3) := by decide +kernel
theorem r120_303 {E : Nat → Value} {d : Nat} {st : List Value} {h : gm_H} {r : gm_R × gm_H} {lv : List Value} {x y : Int32} : gm_Go E d 120 303 lv (.int y :: .int x :: st) h r ↔ (if x ≤ y then gm_Go E d 120 312 lv st h r else gm_Go E d 120 306 lv st h r) := (gr_br m120 f120_303 rfl rfl rfl rfl).trans gr_if
theorem f120_306 : gm_ft 120 306 = some (.aload_n 0, 1) := by decide +kernel
theorem r120_306 {E : Nat → Value} {d : Nat} {st : List Value} {h : gm_H} {r : gm_R × gm_H} {a1 a2 a3 a4 a5 a6 a7 a8 a9 a10 : Value} {x : Nat} : gm_Go E d 120 306 [.ref x, a1, a2, a3, a4, a5, a6, a7, a8, a9, a10] st h r ↔ gm_Go E d 120 307 [.ref x, a1, a2, a3, a4, a5, a6, a7, a8, a9, a10] (.ref x :: st) h r := gr_loc m120 f120_306 rfl rfl
theorem r120_306n {E : Nat → Value} {d : Nat} {st : List Value} {h : gm_H} {r : gm_R × gm_H} {a1 a2 a3 a4 a5 a6 a7 a8 a9 a10 : Value}  : gm_Go E d 120 306 [.null, a1, a2, a3, a4, a5, a6, a7, a8, a9, a10] st h r ↔ gm_Go E d 120 307 [.null, a1, a2, a3, a4, a5, a6, a7, a8, a9, a10] (.null :: st) h r := gr_loc m120 f120_306 rfl rfl
theorem f120_307 : gm_ft 120 307 = some (.bipush (-5), 2) := by decide +kernel
theorem r120_307 {E : Nat → Value} {d : Nat} {st : List Value} {h : gm_H} {r : gm_R × gm_H} {lv : List Value} : gm_Go E d 120 307 lv st h r ↔ gm_Go E d 120 309 lv (.int (-5 : Int32) :: st) h r := gr_pure m120 f120_307 rfl
theorem f120_309 : gm_ft 120 309 = some (.invokevirtual 151, 3) := by decide +kernel
theorem n120_309 {st : List Value} {h : gm_H} {E : Nat → Value} {lv : List Value} {b0 : Value} {a : Nat} (hs : (st.map fun v => v.category).sum ≤ 8) (he : (gm_en1 [.ref a, b0]).length ≤ 2) {vs : List Value} (hr : gm_rd h a = some (5, vs)) : gm_next E 120 309 lv (b0 :: .ref a :: st) h = some (.inr (.inl (0, 98, [.ref a, b0], st))) := gn_call m120 f120_309 rfl rfl rfl rfl rfl rfl rfl (gc_virt (bs := [b0]) (w := 844) rfl rfl rfl rfl hs he hr) (by decide)
theorem f120_312 : gm_ft 120 312 = some (.aload_n 0, 1) := by decide +kernel
theorem r120_312 {E : Nat → Value} {d : Nat} {st : List Value} {h : gm_H} {r : gm_R × gm_H} {a1 a2 a3 a4 a5 a6 a7 a8 a9 a10 : Value} {x : Nat} : gm_Go E d 120 312 [.ref x, a1, a2, a3, a4, a5, a6, a7, a8, a9, a10] st h r ↔ gm_Go E d 120 313 [.ref x, a1, a2, a3, a4, a5, a6, a7, a8, a9, a10] (.ref x :: st) h r := gr_loc m120 f120_312 rfl rfl
theorem r120_312n {E : Nat → Value} {d : Nat} {st : List Value} {h : gm_H} {r : gm_R × gm_H} {a1 a2 a3 a4 a5 a6 a7 a8 a9 a10 : Value}  : gm_Go E d 120 312 [.null, a1, a2, a3, a4, a5, a6, a7, a8, a9, a10] st h r ↔ gm_Go E d 120 313 [.null, a1, a2, a3, a4, a5, a6, a7, a8, a9, a10] (.null :: st) h r := gr_loc m120 f120_312 rfl rfl
theorem f120_313 : gm_ft 120 313 = some (.getfield 81, 3) := by decide +kernel
theorem r120_313 {E : Nat → Value} {d : Nat} {st : List Value} {h : gm_H} {r : gm_R × gm_H} {lv : List Value} {a : Nat} {vs : List Value} {v : Value} (hr : gm_rd h a = some (5, vs)) (hv : vs[35]? = some v) : gm_Go E d 120 313 lv (.ref a :: st) h r ↔ gm_Go E d 120 316 lv (v :: st) h r := gr_rd m120 f120_313 rfl rfl rfl rfl (gf_get k5_81 hr hv)
theorem f120_316 : gm_ft 120 316 = some (.iload 7, 2) := by decide +kernel
theorem r120_316 {E : Nat → Value} {d : Nat} {st : List Value} {h : gm_H} {r : gm_R × gm_H} {a0 a1 a2 a3 a4 a5 a6 a8 a9 a10 : Value} {x : Int32} : gm_Go E d 120 316 [a0, a1, a2, a3, a4, a5, a6, .int x, a8, a9, a10] st h r ↔ gm_Go E d 120 318 [a0, a1, a2, a3, a4, a5, a6, .int x, a8, a9, a10] (.int x :: st) h r := gr_loc m120 f120_316 rfl rfl
theorem f120_318 : gm_ft 120 318 = some (.iload 10, 2) := by decide +kernel
theorem r120_318 {E : Nat → Value} {d : Nat} {st : List Value} {h : gm_H} {r : gm_R × gm_H} {a0 a1 a2 a3 a4 a5 a6 a7 a8 a9 : Value} {x : Int32} : gm_Go E d 120 318 [a0, a1, a2, a3, a4, a5, a6, a7, a8, a9, .int x] st h r ↔ gm_Go E d 120 320 [a0, a1, a2, a3, a4, a5, a6, a7, a8, a9, .int x] (.int x :: st) h r := gr_loc m120 f120_318 rfl rfl
theorem f120_320 : gm_ft 120 320 = some (.iastore, 1) := by decide +kernel
theorem r120_320 {E : Nat → Value} {d : Nat} {st : List Value} {h : gm_H} {r : gm_R × gm_H} {lv : List Value} {a k j : Nat} {vs : List Value} {x : Int32} (hr : gm_rd h a = some (k, vs)) (hk : 100 ≤ k ∧ k % 100 = 0 ∧ gm_ko k = 2 ∧ 2 < 3) (hj : j < 2 ^ 31) (hl : j < vs.length) : gm_Go E d 120 320 lv (.int x :: .int (nI j) :: .ref a :: st) h r ↔ gm_Go E d 120 321 lv st (gm_wr h a (k, vs.set j (.int x))) r := gr_wr m120 f120_320 rfl rfl rfl rfl rfl (ga_st hr hk hj hl)
theorem f120_321 : gm_ft 120 321 = some (.aload_n 0, 1) := by decide +kernel
theorem r120_321 {E : Nat → Value} {d : Nat} {st : List Value} {h : gm_H} {r : gm_R × gm_H} {a1 a2 a3 a4 a5 a6 a7 a8 a9 a10 : Value} {x : Nat} : gm_Go E d 120 321 [.ref x, a1, a2, a3, a4, a5, a6, a7, a8, a9, a10] st h r ↔ gm_Go E d 120 322 [.ref x, a1, a2, a3, a4, a5, a6, a7, a8, a9, a10] (.ref x :: st) h r := gr_loc m120 f120_321 rfl rfl
theorem r120_321n {E : Nat → Value} {d : Nat} {st : List Value} {h : gm_H} {r : gm_R × gm_H} {a1 a2 a3 a4 a5 a6 a7 a8 a9 a10 : Value}  : gm_Go E d 120 321 [.null, a1, a2, a3, a4, a5, a6, a7, a8, a9, a10] st h r ↔ gm_Go E d 120 322 [.null, a1, a2, a3, a4, a5, a6, a7, a8, a9, a10] (.null :: st) h r := gr_loc m120 f120_321 rfl rfl
theorem f120_322 : gm_ft 120 322 = some (.getfield 96, 3) := by decide +kernel
theorem r120_322 {E : Nat → Value} {d : Nat} {st : List Value} {h : gm_H} {r : gm_R × gm_H} {lv : List Value} {a : Nat} {vs : List Value} {v : Value} (hr : gm_rd h a = some (5, vs)) (hv : vs[41]? = some v) : gm_Go E d 120 322 lv (.ref a :: st) h r ↔ gm_Go E d 120 325 lv (v :: st) h r := gr_rd m120 f120_322 rfl rfl rfl rfl (gf_get k5_96 hr hv)
theorem f120_325 : gm_ft 120 325 = some (.iload_n 1, 1) := by decide +kernel
theorem r120_325 {E : Nat → Value} {d : Nat} {st : List Value} {h : gm_H} {r : gm_R × gm_H} {a0 a2 a3 a4 a5 a6 a7 a8 a9 a10 : Value} {x : Int32} : gm_Go E d 120 325 [a0, .int x, a2, a3, a4, a5, a6, a7, a8, a9, a10] st h r ↔ gm_Go E d 120 326 [a0, .int x, a2, a3, a4, a5, a6, a7, a8, a9, a10] (.int x :: st) h r := gr_loc m120 f120_325 rfl rfl
theorem f120_326 : gm_ft 120 326 = some (.iconst 1, 1) := by decide +kernel
theorem r120_326 {E : Nat → Value} {d : Nat} {st : List Value} {h : gm_H} {r : gm_R × gm_H} {lv : List Value} : gm_Go E d 120 326 lv st h r ↔ gm_Go E d 120 327 lv (.int (1 : Int32) :: st) h r := gr_pure m120 f120_326 rfl
theorem f120_327 : gm_ft 120 327 = some (.iastore, 1) := by decide +kernel
theorem r120_327 {E : Nat → Value} {d : Nat} {st : List Value} {h : gm_H} {r : gm_R × gm_H} {lv : List Value} {a k j : Nat} {vs : List Value} {x : Int32} (hr : gm_rd h a = some (k, vs)) (hk : 100 ≤ k ∧ k % 100 = 0 ∧ gm_ko k = 2 ∧ 2 < 3) (hj : j < 2 ^ 31) (hl : j < vs.length) : gm_Go E d 120 327 lv (.int x :: .int (nI j) :: .ref a :: st) h r ↔ gm_Go E d 120 328 lv st (gm_wr h a (k, vs.set j (.int x))) r := gr_wr m120 f120_327 rfl rfl rfl rfl rfl (ga_st hr hk hj hl)
theorem f120_328 : gm_ft 120 328 = some (.return_, 1) := by decide +kernel
theorem r120_328 {E : Nat → Value} {d : Nat} {h : gm_H} {r : gm_R × gm_H} {lv : List Value} : gm_Go E d 120 328 lv [] h r ↔ r = (.inl none, h) := gr_ret m120 f120_328 rfl rfl rfl rfl rfl rfl rfl rfl rfl
/-! GraphReaderModel.named(IIZ)Z -/
theorem m121 : gm_mt[121]? = some (⟨"GraphReaderModel", "named", "(IIZ)Z"⟩, prog_7_method_30_code, 9, (some .boolean), [], 5, 2) := rfl
theorem f121_0 : gm_ft 121 0 = some (.iload_n 2, 1) := by decide +kernel
theorem r121_0 {E : Nat → Value} {d : Nat} {st : List Value} {h : gm_H} {r : gm_R × gm_H} {a0 a1 a3 a4 a5 a6 a7 a8 : Value} {x : Int32} : gm_Go E d 121 0 [a0, a1, .int x, a3, a4, a5, a6, a7, a8] st h r ↔ gm_Go E d 121 1 [a0, a1, .int x, a3, a4, a5, a6, a7, a8] (.int x :: st) h r := gr_loc m121 f121_0 rfl rfl
theorem f121_1 : gm_ft 121 1 = some (.iload_n 3, 1) := by decide +kernel
theorem r121_1 {E : Nat → Value} {d : Nat} {st : List Value} {h : gm_H} {r : gm_R × gm_H} {a0 a1 a2 a4 a5 a6 a7 a8 : Value} {x : Int32} : gm_Go E d 121 1 [a0, a1, a2, .int x, a4, a5, a6, a7, a8] st h r ↔ gm_Go E d 121 2 [a0, a1, a2, .int x, a4, a5, a6, a7, a8] (.int x :: st) h r := gr_loc m121 f121_1 rfl rfl
theorem f121_2 : gm_ft 121 2 = some (.ifCond .eq 7, 3) := by decide +kernel
theorem r121_2 {E : Nat → Value} {d : Nat} {st : List Value} {h : gm_H} {r : gm_R × gm_H} {lv : List Value} {x : Int32} : gm_Go E d 121 2 lv (.int x :: st) h r ↔ (if x = 0 then gm_Go E d 121 9 lv st h r else gm_Go E d 121 5 lv st h r) := (gr_br m121 f121_2 rfl rfl rfl rfl).trans gr_if
theorem f121_5 : gm_ft 121 5 = some (.iconst 2, 1) := by decide +kernel
theorem r121_5 {E : Nat → Value} {d : Nat} {st : List Value} {h : gm_H} {r : gm_R × gm_H} {lv : List Value} : gm_Go E d 121 5 lv st h r ↔ gm_Go E d 121 6 lv (.int (2 : Int32) :: st) h r := gr_pure m121 f121_5 rfl
theorem f121_6 : gm_ft 121 6 = some (.goto 5, 3) := by decide +kernel
theorem r121_6 {E : Nat → Value} {d : Nat} {st : List Value} {h : gm_H} {r : gm_R × gm_H} {lv : List Value} : gm_Go E d 121 6 lv st h r ↔ gm_Go E d 121 11 lv st h r := gr_brT m121 f121_6 rfl rfl rfl rfl
theorem f121_9 : gm_ft 121 9 = some (.bipush 19, 2) := by decide +kernel
theorem r121_9 {E : Nat → Value} {d : Nat} {st : List Value} {h : gm_H} {r : gm_R × gm_H} {lv : List Value} : gm_Go E d 121 9 lv st h r ↔ gm_Go E d 121 11 lv (.int (19 : Int32) :: st) h r := gr_pure m121 f121_9 rfl
theorem f121_11 : gm_ft 121 11 = some (.if_icmp .ne 14, 3) := by decide +kernel
theorem r121_11 {E : Nat → Value} {d : Nat} {st : List Value} {h : gm_H} {r : gm_R × gm_H} {lv : List Value} {x y : Int32} : gm_Go E d 121 11 lv (.int y :: .int x :: st) h r ↔ (if x = y then gm_Go E d 121 14 lv st h r else gm_Go E d 121 25 lv st h r) := (gr_br m121 f121_11 rfl rfl rfl rfl).trans gr_ifn
theorem f121_14 : gm_ft 121 14 = some (.aload_n 0, 1) := by decide +kernel
theorem r121_14 {E : Nat → Value} {d : Nat} {st : List Value} {h : gm_H} {r : gm_R × gm_H} {a1 a2 a3 a4 a5 a6 a7 a8 : Value} {x : Nat} : gm_Go E d 121 14 [.ref x, a1, a2, a3, a4, a5, a6, a7, a8] st h r ↔ gm_Go E d 121 15 [.ref x, a1, a2, a3, a4, a5, a6, a7, a8] (.ref x :: st) h r := gr_loc m121 f121_14 rfl rfl
theorem r121_14n {E : Nat → Value} {d : Nat} {st : List Value} {h : gm_H} {r : gm_R × gm_H} {a1 a2 a3 a4 a5 a6 a7 a8 : Value}  : gm_Go E d 121 14 [.null, a1, a2, a3, a4, a5, a6, a7, a8] st h r ↔ gm_Go E d 121 15 [.null, a1, a2, a3, a4, a5, a6, a7, a8] (.null :: st) h r := gr_loc m121 f121_14 rfl rfl
theorem f121_15 : gm_ft 121 15 = some (.getfield 7, 3) := by decide +kernel
theorem r121_15 {E : Nat → Value} {d : Nat} {st : List Value} {h : gm_H} {r : gm_R × gm_H} {lv : List Value} {a : Nat} {vs : List Value} {v : Value} (hr : gm_rd h a = some (5, vs)) (hv : vs[4]? = some v) : gm_Go E d 121 15 lv (.ref a :: st) h r ↔ gm_Go E d 121 18 lv (v :: st) h r := gr_rd m121 f121_15 rfl rfl rfl rfl (gf_get k5_7 hr hv)
theorem f121_18 : gm_ft 121 18 = some (.iload_n 1, 1) := by decide +kernel
theorem r121_18 {E : Nat → Value} {d : Nat} {st : List Value} {h : gm_H} {r : gm_R × gm_H} {a0 a2 a3 a4 a5 a6 a7 a8 : Value} {x : Int32} : gm_Go E d 121 18 [a0, .int x, a2, a3, a4, a5, a6, a7, a8] st h r ↔ gm_Go E d 121 19 [a0, .int x, a2, a3, a4, a5, a6, a7, a8] (.int x :: st) h r := gr_loc m121 f121_18 rfl rfl
theorem f121_19 : gm_ft 121 19 = some (.iaload, 1) := by decide +kernel
theorem r121_19 {E : Nat → Value} {d : Nat} {st : List Value} {h : gm_H} {r : gm_R × gm_H} {lv : List Value} {a k j : Nat} {vs : List Value} {v : Value} (hr : gm_rd h a = some (k, vs)) (hk : 100 ≤ k ∧ (fun t => t == 0) (k % 100) = true) (hj : j < 2 ^ 31) (hv : vs[j]? = some v) : gm_Go E d 121 19 lv (.int (nI j) :: .ref a :: st) h r ↔ gm_Go E d 121 20 lv (v :: st) h r := gr_rd m121 f121_19 rfl rfl rfl rfl (ga_ld (P := fun t => t == 0) hr hk hj hv)
theorem f121_20 : gm_ft 121 20 = some (.bipush 91, 2) := by decide +kernel
theorem r121_20 {E : Nat → Value} {d : Nat} {st : List Value} {h : gm_H} {r : gm_R × gm_H} {lv : List Value} : gm_Go E d 121 20 lv st h r ↔ gm_Go E d 121 22 lv (.int (91 : Int32) :: st) h r := gr_pure m121 f121_20 rfl
theorem f121_22 : gm_ft 121 22 = some (.if_icmp .eq 5, 3) := by decide +kernel
theorem r121_22 {E : Nat → Value} {d : Nat} {st : List Value} {h : gm_H} {r : gm_R × gm_H} {lv : List Value} {x y : Int32} : gm_Go E d 121 22 lv (.int y :: .int x :: st) h r ↔ (if x = y then gm_Go E d 121 27 lv st h r else gm_Go E d 121 25 lv st h r) := (gr_br m121 f121_22 rfl rfl rfl rfl).trans gr_if
theorem f121_25 : gm_ft 121 25 = some (.iconst 0, 1) := by decide +kernel
theorem r121_25 {E : Nat → Value} {d : Nat} {st : List Value} {h : gm_H} {r : gm_R × gm_H} {lv : List Value} : gm_Go E d 121 25 lv st h r ↔ gm_Go E d 121 26 lv (.int (0 : Int32) :: st) h r := gr_pure m121 f121_25 rfl
theorem f121_26 : gm_ft 121 26 = some (.ireturn, 1) := by decide +kernel
theorem r121_26_0 {E : Nat → Value} {d : Nat} {h : gm_H} {r : gm_R × gm_H} {lv : List Value} : gm_Go E d 121 26 lv [.int (0 : Int32)] h r ↔ r = (.inl (some (.int (0 : Int32))), h) := gr_ret m121 f121_26 rfl rfl rfl rfl rfl rfl rfl rfl (by unfold gm_rt; dsimp only; rw [if_pos ⟨rfl, rfl⟩])
theorem r121_26_1 {E : Nat → Value} {d : Nat} {h : gm_H} {r : gm_R × gm_H} {lv : List Value} : gm_Go E d 121 26 lv [.int (1 : Int32)] h r ↔ r = (.inl (some (.int (1 : Int32))), h) := gr_ret m121 f121_26 rfl rfl rfl rfl rfl rfl rfl rfl (by unfold gm_rt; dsimp only; rw [if_pos ⟨rfl, rfl⟩])
theorem f121_27 : gm_ft 121 27 = some (.iload_n 3, 1) := by decide +kernel
theorem r121_27 {E : Nat → Value} {d : Nat} {st : List Value} {h : gm_H} {r : gm_R × gm_H} {a0 a1 a2 a4 a5 a6 a7 a8 : Value} {x : Int32} : gm_Go E d 121 27 [a0, a1, a2, .int x, a4, a5, a6, a7, a8] st h r ↔ gm_Go E d 121 28 [a0, a1, a2, .int x, a4, a5, a6, a7, a8] (.int x :: st) h r := gr_loc m121 f121_27 rfl rfl
theorem f121_28 : gm_ft 121 28 = some (.ifCond .eq 22, 3) := by decide +kernel
theorem r121_28 {E : Nat → Value} {d : Nat} {st : List Value} {h : gm_H} {r : gm_R × gm_H} {lv : List Value} {x : Int32} : gm_Go E d 121 28 lv (.int x :: st) h r ↔ (if x = 0 then gm_Go E d 121 50 lv st h r else gm_Go E d 121 31 lv st h r) := (gr_br m121 f121_28 rfl rfl rfl rfl).trans gr_if
theorem f121_31 : gm_ft 121 31 = some (.aload_n 0, 1) := by decide +kernel
theorem r121_31 {E : Nat → Value} {d : Nat} {st : List Value} {h : gm_H} {r : gm_R × gm_H} {a1 a2 a3 a4 a5 a6 a7 a8 : Value} {x : Nat} : gm_Go E d 121 31 [.ref x, a1, a2, a3, a4, a5, a6, a7, a8] st h r ↔ gm_Go E d 121 32 [.ref x, a1, a2, a3, a4, a5, a6, a7, a8] (.ref x :: st) h r := gr_loc m121 f121_31 rfl rfl
theorem r121_31n {E : Nat → Value} {d : Nat} {st : List Value} {h : gm_H} {r : gm_R × gm_H} {a1 a2 a3 a4 a5 a6 a7 a8 : Value}  : gm_Go E d 121 31 [.null, a1, a2, a3, a4, a5, a6, a7, a8] st h r ↔ gm_Go E d 121 32 [.null, a1, a2, a3, a4, a5, a6, a7, a8] (.null :: st) h r := gr_loc m121 f121_31 rfl rfl
theorem f121_32 : gm_ft 121 32 = some (.getfield 7, 3) := by decide +kernel
theorem r121_32 {E : Nat → Value} {d : Nat} {st : List Value} {h : gm_H} {r : gm_R × gm_H} {lv : List Value} {a : Nat} {vs : List Value} {v : Value} (hr : gm_rd h a = some (5, vs)) (hv : vs[4]? = some v) : gm_Go E d 121 32 lv (.ref a :: st) h r ↔ gm_Go E d 121 35 lv (v :: st) h r := gr_rd m121 f121_32 rfl rfl rfl rfl (gf_get k5_7 hr hv)
theorem f121_35 : gm_ft 121 35 = some (.iload_n 1, 1) := by decide +kernel
theorem r121_35 {E : Nat → Value} {d : Nat} {st : List Value} {h : gm_H} {r : gm_R × gm_H} {a0 a2 a3 a4 a5 a6 a7 a8 : Value} {x : Int32} : gm_Go E d 121 35 [a0, .int x, a2, a3, a4, a5, a6, a7, a8] st h r ↔ gm_Go E d 121 36 [a0, .int x, a2, a3, a4, a5, a6, a7, a8] (.int x :: st) h r := gr_loc m121 f121_35 rfl rfl
theorem f121_36 : gm_ft 121 36 = some (.iconst 1, 1) := by decide +kernel
theorem r121_36 {E : Nat → Value} {d : Nat} {st : List Value} {h : gm_H} {r : gm_R × gm_H} {lv : List Value} : gm_Go E d 121 36 lv st h r ↔ gm_Go E d 121 37 lv (.int (1 : Int32) :: st) h r := gr_pure m121 f121_36 rfl
theorem f121_37 : gm_ft 121 37 = some (.iadd, 1) := by decide +kernel
theorem r121_37 {E : Nat → Value} {d : Nat} {st : List Value} {h : gm_H} {r : gm_R × gm_H} {lv : List Value} {x y : Int32} : gm_Go E d 121 37 lv (.int y :: .int x :: st) h r ↔ gm_Go E d 121 38 lv (.int (x + y) :: st) h r := gr_pure m121 f121_37 rfl
theorem f121_38 : gm_ft 121 38 = some (.iaload, 1) := by decide +kernel
theorem r121_38 {E : Nat → Value} {d : Nat} {st : List Value} {h : gm_H} {r : gm_R × gm_H} {lv : List Value} {a k j : Nat} {vs : List Value} {v : Value} (hr : gm_rd h a = some (k, vs)) (hk : 100 ≤ k ∧ (fun t => t == 0) (k % 100) = true) (hj : j < 2 ^ 31) (hv : vs[j]? = some v) : gm_Go E d 121 38 lv (.int (nI j) :: .ref a :: st) h r ↔ gm_Go E d 121 39 lv (v :: st) h r := gr_rd m121 f121_38 rfl rfl rfl rfl (ga_ld (P := fun t => t == 0) hr hk hj hv)
theorem f121_39 : gm_ft 121 39 = some (.bipush 73, 2) := by decide +kernel
theorem r121_39 {E : Nat → Value} {d : Nat} {st : List Value} {h : gm_H} {r : gm_R × gm_H} {lv : List Value} : gm_Go E d 121 39 lv st h r ↔ gm_Go E d 121 41 lv (.int (73 : Int32) :: st) h r := gr_pure m121 f121_39 rfl
theorem f121_41 : gm_ft 121 41 = some (.if_icmp .ne 7, 3) := by decide +kernel
theorem r121_41 {E : Nat → Value} {d : Nat} {st : List Value} {h : gm_H} {r : gm_R × gm_H} {lv : List Value} {x y : Int32} : gm_Go E d 121 41 lv (.int y :: .int x :: st) h r ↔ (if x = y then gm_Go E d 121 44 lv st h r else gm_Go E d 121 48 lv st h r) := (gr_br m121 f121_41 rfl rfl rfl rfl).trans gr_ifn
theorem f121_44 : gm_ft 121 44 = some (.iconst 1, 1) := by decide +kernel
theorem r121_44 {E : Nat → Value} {d : Nat} {st : List Value} {h : gm_H} {r : gm_R × gm_H} {lv : List Value} : gm_Go E d 121 44 lv st h r ↔ gm_Go E d 121 45 lv (.int (1 : Int32) :: st) h r := gr_pure m121 f121_44 rfl
theorem f121_45 : gm_ft 121 45 = some (.goto 4, 3) := by decide +kernel
theorem r121_45 {E : Nat → Value} {d : Nat} {st : List Value} {h : gm_H} {r : gm_R × gm_H} {lv : List Value} : gm_Go E d 121 45 lv st h r ↔ gm_Go E d 121 49 lv st h r := gr_brT m121 f121_45 rfl rfl rfl rfl
theorem f121_48 : gm_ft 121 48 = some (.iconst 0, 1) := by decide +kernel
theorem r121_48 {E : Nat → Value} {d : Nat} {st : List Value} {h : gm_H} {r : gm_R × gm_H} {lv : List Value} : gm_Go E d 121 48 lv st h r ↔ gm_Go E d 121 49 lv (.int (0 : Int32) :: st) h r := gr_pure m121 f121_48 rfl
theorem f121_49 : gm_ft 121 49 = some (.ireturn, 1) := by decide +kernel
theorem r121_49_0 {E : Nat → Value} {d : Nat} {h : gm_H} {r : gm_R × gm_H} {lv : List Value} : gm_Go E d 121 49 lv [.int (0 : Int32)] h r ↔ r = (.inl (some (.int (0 : Int32))), h) := gr_ret m121 f121_49 rfl rfl rfl rfl rfl rfl rfl rfl (by unfold gm_rt; dsimp only; rw [if_pos ⟨rfl, rfl⟩])
theorem r121_49_1 {E : Nat → Value} {d : Nat} {h : gm_H} {r : gm_R × gm_H} {lv : List Value} : gm_Go E d 121 49 lv [.int (1 : Int32)] h r ↔ r = (.inl (some (.int (1 : Int32))), h) := gr_ret m121 f121_49 rfl rfl rfl rfl rfl rfl rfl rfl (by unfold gm_rt; dsimp only; rw [if_pos ⟨rfl, rfl⟩])
theorem f121_50 : gm_ft 121 50 = some (.lconst 0, 1) := by decide +kernel
theorem r121_50 {E : Nat → Value} {d : Nat} {st : List Value} {h : gm_H} {r : gm_R × gm_H} {lv : List Value} : gm_Go E d 121 50 lv st h r ↔ gm_Go E d 121 51 lv (.long 0 :: st) h r := gr_pure m121 f121_50 rfl
theorem f121_51 : gm_ft 121 51 = some (.lstore 4, 2) := by decide +kernel
theorem r121_51 {E : Nat → Value} {d : Nat} {st : List Value} {h : gm_H} {r : gm_R × gm_H} {a0 a1 a2 a3 a4 a5 a6 a7 a8 : Value} {x : Int64} : gm_Go E d 121 51 [a0, a1, a2, a3, a4, a5, a6, a7, a8] (.long x :: st) h r ↔ gm_Go E d 121 53 [a0, a1, a2, gm_k a3, .long x, gm_u, a6, a7, a8] st h r := gr_loc m121 f121_51 rfl rfl
theorem f121_53 : gm_ft 121 53 = some (.lconst 0, 1) := by decide +kernel
theorem r121_53 {E : Nat → Value} {d : Nat} {st : List Value} {h : gm_H} {r : gm_R × gm_H} {lv : List Value} : gm_Go E d 121 53 lv st h r ↔ gm_Go E d 121 54 lv (.long 0 :: st) h r := gr_pure m121 f121_53 rfl
theorem f121_54 : gm_ft 121 54 = some (.lstore 6, 2) := by decide +kernel
theorem r121_54 {E : Nat → Value} {d : Nat} {st : List Value} {h : gm_H} {r : gm_R × gm_H} {a0 a1 a2 a3 a4 a5 a6 a7 a8 : Value} {x : Int64} : gm_Go E d 121 54 [a0, a1, a2, a3, a4, a5, a6, a7, a8] (.long x :: st) h r ↔ gm_Go E d 121 56 [a0, a1, a2, a3, a4, gm_k a5, .long x, gm_u, a8] st h r := gr_loc m121 f121_54 rfl rfl
theorem f121_56 : gm_ft 121 56 = some (.iconst 1, 1) := by decide +kernel
theorem r121_56 {E : Nat → Value} {d : Nat} {st : List Value} {h : gm_H} {r : gm_R × gm_H} {lv : List Value} : gm_Go E d 121 56 lv st h r ↔ gm_Go E d 121 57 lv (.int (1 : Int32) :: st) h r := gr_pure m121 f121_56 rfl
theorem f121_57 : gm_ft 121 57 = some (.istore 8, 2) := by decide +kernel
theorem r121_57 {E : Nat → Value} {d : Nat} {st : List Value} {h : gm_H} {r : gm_R × gm_H} {a0 a1 a2 a3 a4 a5 a6 a7 a8 : Value} {x : Int32} : gm_Go E d 121 57 [a0, a1, a2, a3, a4, a5, a6, a7, a8] (.int x :: st) h r ↔ gm_Go E d 121 59 [a0, a1, a2, a3, a4, a5, a6, gm_k a7, .int x] st h r := gr_loc m121 f121_57 rfl rfl
theorem f121_59 : gm_ft 121 59 = some (.iload 8, 2) := by decide +kernel
theorem r121_59 {E : Nat → Value} {d : Nat} {st : List Value} {h : gm_H} {r : gm_R × gm_H} {a0 a1 a2 a3 a4 a5 a6 a7 : Value} {x : Int32} : gm_Go E d 121 59 [a0, a1, a2, a3, a4, a5, a6, a7, .int x] st h r ↔ gm_Go E d 121 61 [a0, a1, a2, a3, a4, a5, a6, a7, .int x] (.int x :: st) h r := gr_loc m121 f121_59 rfl rfl
theorem f121_61 : gm_ft 121 61 = some (.bipush 9, 2) := by decide +kernel
theorem r121_61 {E : Nat → Value} {d : Nat} {st : List Value} {h : gm_H} {r : gm_R × gm_H} {lv : List Value} : gm_Go E d 121 61 lv st h r ↔ gm_Go E d 121 63 lv (.int (9 : Int32) :: st) h r := gr_pure m121 f121_61 rfl
theorem f121_63 : gm_ft 121 63 = some (.if_icmp .ge 27, 3) := by decide +kernel
theorem r121_63 {E : Nat → Value} {d : Nat} {st : List Value} {h : gm_H} {r : gm_R × gm_H} {lv : List Value} {x y : Int32} : gm_Go E d 121 63 lv (.int y :: .int x :: st) h r ↔ (if y ≤ x then gm_Go E d 121 90 lv st h r else gm_Go E d 121 66 lv st h r) := (gr_br m121 f121_63 rfl rfl rfl rfl).trans gr_if
theorem f121_66 : gm_ft 121 66 = some (.lload 4, 2) := by decide +kernel
theorem r121_66 {E : Nat → Value} {d : Nat} {st : List Value} {h : gm_H} {r : gm_R × gm_H} {a0 a1 a2 a3 a5 a6 a7 a8 : Value} {x : Int64} : gm_Go E d 121 66 [a0, a1, a2, a3, .long x, a5, a6, a7, a8] st h r ↔ gm_Go E d 121 68 [a0, a1, a2, a3, .long x, a5, a6, a7, a8] (.long x :: st) h r := gr_loc m121 f121_66 rfl rfl
theorem f121_68 : gm_ft 121 68 = some (.bipush 8, 2) := by decide +kernel
theorem r121_68 {E : Nat → Value} {d : Nat} {st : List Value} {h : gm_H} {r : gm_R × gm_H} {lv : List Value} : gm_Go E d 121 68 lv st h r ↔ gm_Go E d 121 70 lv (.int (8 : Int32) :: st) h r := gr_pure m121 f121_68 rfl
theorem f121_70 : gm_ft 121 70 = some (.lshl, 1) := by decide +kernel
theorem r121_70 {E : Nat → Value} {d : Nat} {st : List Value} {h : gm_H} {r : gm_R × gm_H} {lv : List Value} {x : Int64} {y : Int32} : gm_Go E d 121 70 lv (.int y :: .long x :: st) h r ↔ gm_Go E d 121 71 lv (.long (x <<< (y.toInt64 &&& 63)) :: st) h r := gr_pure m121 f121_70 rfl
theorem f121_71 : gm_ft 121 71 = some (.aload_n 0, 1) := by decide +kernel
theorem r121_71 {E : Nat → Value} {d : Nat} {st : List Value} {h : gm_H} {r : gm_R × gm_H} {a1 a2 a3 a4 a5 a6 a7 a8 : Value} {x : Nat} : gm_Go E d 121 71 [.ref x, a1, a2, a3, a4, a5, a6, a7, a8] st h r ↔ gm_Go E d 121 72 [.ref x, a1, a2, a3, a4, a5, a6, a7, a8] (.ref x :: st) h r := gr_loc m121 f121_71 rfl rfl
theorem r121_71n {E : Nat → Value} {d : Nat} {st : List Value} {h : gm_H} {r : gm_R × gm_H} {a1 a2 a3 a4 a5 a6 a7 a8 : Value}  : gm_Go E d 121 71 [.null, a1, a2, a3, a4, a5, a6, a7, a8] st h r ↔ gm_Go E d 121 72 [.null, a1, a2, a3, a4, a5, a6, a7, a8] (.null :: st) h r := gr_loc m121 f121_71 rfl rfl
theorem f121_72 : gm_ft 121 72 = some (.getfield 7, 3) := by decide +kernel
theorem r121_72 {E : Nat → Value} {d : Nat} {st : List Value} {h : gm_H} {r : gm_R × gm_H} {lv : List Value} {a : Nat} {vs : List Value} {v : Value} (hr : gm_rd h a = some (5, vs)) (hv : vs[4]? = some v) : gm_Go E d 121 72 lv (.ref a :: st) h r ↔ gm_Go E d 121 75 lv (v :: st) h r := gr_rd m121 f121_72 rfl rfl rfl rfl (gf_get k5_7 hr hv)
theorem f121_75 : gm_ft 121 75 = some (.iload_n 1, 1) := by decide +kernel
theorem r121_75 {E : Nat → Value} {d : Nat} {st : List Value} {h : gm_H} {r : gm_R × gm_H} {a0 a2 a3 a4 a5 a6 a7 a8 : Value} {x : Int32} : gm_Go E d 121 75 [a0, .int x, a2, a3, a4, a5, a6, a7, a8] st h r ↔ gm_Go E d 121 76 [a0, .int x, a2, a3, a4, a5, a6, a7, a8] (.int x :: st) h r := gr_loc m121 f121_75 rfl rfl
theorem f121_76 : gm_ft 121 76 = some (.iload 8, 2) := by decide +kernel
theorem r121_76 {E : Nat → Value} {d : Nat} {st : List Value} {h : gm_H} {r : gm_R × gm_H} {a0 a1 a2 a3 a4 a5 a6 a7 : Value} {x : Int32} : gm_Go E d 121 76 [a0, a1, a2, a3, a4, a5, a6, a7, .int x] st h r ↔ gm_Go E d 121 78 [a0, a1, a2, a3, a4, a5, a6, a7, .int x] (.int x :: st) h r := gr_loc m121 f121_76 rfl rfl
theorem f121_78 : gm_ft 121 78 = some (.iadd, 1) := by decide +kernel
theorem r121_78 {E : Nat → Value} {d : Nat} {st : List Value} {h : gm_H} {r : gm_R × gm_H} {lv : List Value} {x y : Int32} : gm_Go E d 121 78 lv (.int y :: .int x :: st) h r ↔ gm_Go E d 121 79 lv (.int (x + y) :: st) h r := gr_pure m121 f121_78 rfl
theorem f121_79 : gm_ft 121 79 = some (.iaload, 1) := by decide +kernel
theorem r121_79 {E : Nat → Value} {d : Nat} {st : List Value} {h : gm_H} {r : gm_R × gm_H} {lv : List Value} {a k j : Nat} {vs : List Value} {v : Value} (hr : gm_rd h a = some (k, vs)) (hk : 100 ≤ k ∧ (fun t => t == 0) (k % 100) = true) (hj : j < 2 ^ 31) (hv : vs[j]? = some v) : gm_Go E d 121 79 lv (.int (nI j) :: .ref a :: st) h r ↔ gm_Go E d 121 80 lv (v :: st) h r := gr_rd m121 f121_79 rfl rfl rfl rfl (ga_ld (P := fun t => t == 0) hr hk hj hv)
theorem f121_80 : gm_ft 121 80 = some (.i2l, 1) := by decide +kernel
theorem r121_80 {E : Nat → Value} {d : Nat} {st : List Value} {h : gm_H} {r : gm_R × gm_H} {lv : List Value} {x : Int32} : gm_Go E d 121 80 lv (.int x :: st) h r ↔ gm_Go E d 121 81 lv (.long (x.toInt64) :: st) h r := gr_pure m121 f121_80 rfl
theorem f121_81 : gm_ft 121 81 = some (.lor, 1) := by decide +kernel
theorem r121_81 {E : Nat → Value} {d : Nat} {st : List Value} {h : gm_H} {r : gm_R × gm_H} {lv : List Value} {x y : Int64} : gm_Go E d 121 81 lv (.long y :: .long x :: st) h r ↔ gm_Go E d 121 82 lv (.long (x ||| y) :: st) h r := gr_pure m121 f121_81 rfl
theorem f121_82 : gm_ft 121 82 = some (.lstore 4, 2) := by decide +kernel
theorem r121_82 {E : Nat → Value} {d : Nat} {st : List Value} {h : gm_H} {r : gm_R × gm_H} {a0 a1 a2 a3 a4 a5 a6 a7 a8 : Value} {x : Int64} : gm_Go E d 121 82 [a0, a1, a2, a3, a4, a5, a6, a7, a8] (.long x :: st) h r ↔ gm_Go E d 121 84 [a0, a1, a2, gm_k a3, .long x, gm_u, a6, a7, a8] st h r := gr_loc m121 f121_82 rfl rfl
theorem f121_84 : gm_ft 121 84 = some (.iinc 8 1, 3) := by decide +kernel
theorem r121_84 {E : Nat → Value} {d : Nat} {st : List Value} {h : gm_H} {r : gm_R × gm_H} {a0 a1 a2 a3 a4 a5 a6 a7 : Value} {x : Int32} : gm_Go E d 121 84 [a0, a1, a2, a3, a4, a5, a6, a7, .int x] st h r ↔ gm_Go E d 121 87 [a0, a1, a2, a3, a4, a5, a6, gm_k a7, .int (x + (1 : Int32))] st h r := gr_loc m121 f121_84 rfl rfl
theorem f121_87 : gm_ft 121 87 = some (.goto (-28), 3) := by decide +kernel
theorem r121_87 {E : Nat → Value} {d : Nat} {st : List Value} {h : gm_H} {r : gm_R × gm_H} {lv : List Value} : gm_Go E d 121 87 lv st h r ↔ gm_Go E d 121 59 lv st h r := gr_brT m121 f121_87 rfl rfl rfl rfl
theorem f121_90 : gm_ft 121 90 = some (.bipush 9, 2) := by decide +kernel
theorem r121_90 {E : Nat → Value} {d : Nat} {st : List Value} {h : gm_H} {r : gm_R × gm_H} {lv : List Value} : gm_Go E d 121 90 lv st h r ↔ gm_Go E d 121 92 lv (.int (9 : Int32) :: st) h r := gr_pure m121 f121_90 rfl
theorem f121_92 : gm_ft 121 92 = some (.istore 8, 2) := by decide +kernel
theorem r121_92 {E : Nat → Value} {d : Nat} {st : List Value} {h : gm_H} {r : gm_R × gm_H} {a0 a1 a2 a3 a4 a5 a6 a7 a8 : Value} {x : Int32} : gm_Go E d 121 92 [a0, a1, a2, a3, a4, a5, a6, a7, a8] (.int x :: st) h r ↔ gm_Go E d 121 94 [a0, a1, a2, a3, a4, a5, a6, gm_k a7, .int x] st h r := gr_loc m121 f121_92 rfl rfl
theorem f121_94 : gm_ft 121 94 = some (.iload 8, 2) := by decide +kernel
theorem r121_94 {E : Nat → Value} {d : Nat} {st : List Value} {h : gm_H} {r : gm_R × gm_H} {a0 a1 a2 a3 a4 a5 a6 a7 : Value} {x : Int32} : gm_Go E d 121 94 [a0, a1, a2, a3, a4, a5, a6, a7, .int x] st h r ↔ gm_Go E d 121 96 [a0, a1, a2, a3, a4, a5, a6, a7, .int x] (.int x :: st) h r := gr_loc m121 f121_94 rfl rfl
theorem f121_96 : gm_ft 121 96 = some (.bipush 17, 2) := by decide +kernel
theorem r121_96 {E : Nat → Value} {d : Nat} {st : List Value} {h : gm_H} {r : gm_R × gm_H} {lv : List Value} : gm_Go E d 121 96 lv st h r ↔ gm_Go E d 121 98 lv (.int (17 : Int32) :: st) h r := gr_pure m121 f121_96 rfl
theorem f121_98 : gm_ft 121 98 = some (.if_icmp .ge 27, 3) := by decide +kernel
theorem r121_98 {E : Nat → Value} {d : Nat} {st : List Value} {h : gm_H} {r : gm_R × gm_H} {lv : List Value} {x y : Int32} : gm_Go E d 121 98 lv (.int y :: .int x :: st) h r ↔ (if y ≤ x then gm_Go E d 121 125 lv st h r else gm_Go E d 121 101 lv st h r) := (gr_br m121 f121_98 rfl rfl rfl rfl).trans gr_if
theorem f121_101 : gm_ft 121 101 = some (.lload 6, 2) := by decide +kernel
theorem r121_101 {E : Nat → Value} {d : Nat} {st : List Value} {h : gm_H} {r : gm_R × gm_H} {a0 a1 a2 a3 a4 a5 a7 a8 : Value} {x : Int64} : gm_Go E d 121 101 [a0, a1, a2, a3, a4, a5, .long x, a7, a8] st h r ↔ gm_Go E d 121 103 [a0, a1, a2, a3, a4, a5, .long x, a7, a8] (.long x :: st) h r := gr_loc m121 f121_101 rfl rfl
theorem f121_103 : gm_ft 121 103 = some (.bipush 8, 2) := by decide +kernel
theorem r121_103 {E : Nat → Value} {d : Nat} {st : List Value} {h : gm_H} {r : gm_R × gm_H} {lv : List Value} : gm_Go E d 121 103 lv st h r ↔ gm_Go E d 121 105 lv (.int (8 : Int32) :: st) h r := gr_pure m121 f121_103 rfl
theorem f121_105 : gm_ft 121 105 = some (.lshl, 1) := by decide +kernel
theorem r121_105 {E : Nat → Value} {d : Nat} {st : List Value} {h : gm_H} {r : gm_R × gm_H} {lv : List Value} {x : Int64} {y : Int32} : gm_Go E d 121 105 lv (.int y :: .long x :: st) h r ↔ gm_Go E d 121 106 lv (.long (x <<< (y.toInt64 &&& 63)) :: st) h r := gr_pure m121 f121_105 rfl
theorem f121_106 : gm_ft 121 106 = some (.aload_n 0, 1) := by decide +kernel
theorem r121_106 {E : Nat → Value} {d : Nat} {st : List Value} {h : gm_H} {r : gm_R × gm_H} {a1 a2 a3 a4 a5 a6 a7 a8 : Value} {x : Nat} : gm_Go E d 121 106 [.ref x, a1, a2, a3, a4, a5, a6, a7, a8] st h r ↔ gm_Go E d 121 107 [.ref x, a1, a2, a3, a4, a5, a6, a7, a8] (.ref x :: st) h r := gr_loc m121 f121_106 rfl rfl
theorem r121_106n {E : Nat → Value} {d : Nat} {st : List Value} {h : gm_H} {r : gm_R × gm_H} {a1 a2 a3 a4 a5 a6 a7 a8 : Value}  : gm_Go E d 121 106 [.null, a1, a2, a3, a4, a5, a6, a7, a8] st h r ↔ gm_Go E d 121 107 [.null, a1, a2, a3, a4, a5, a6, a7, a8] (.null :: st) h r := gr_loc m121 f121_106 rfl rfl
theorem f121_107 : gm_ft 121 107 = some (.getfield 7, 3) := by decide +kernel
theorem r121_107 {E : Nat → Value} {d : Nat} {st : List Value} {h : gm_H} {r : gm_R × gm_H} {lv : List Value} {a : Nat} {vs : List Value} {v : Value} (hr : gm_rd h a = some (5, vs)) (hv : vs[4]? = some v) : gm_Go E d 121 107 lv (.ref a :: st) h r ↔ gm_Go E d 121 110 lv (v :: st) h r := gr_rd m121 f121_107 rfl rfl rfl rfl (gf_get k5_7 hr hv)
theorem f121_110 : gm_ft 121 110 = some (.iload_n 1, 1) := by decide +kernel
theorem r121_110 {E : Nat → Value} {d : Nat} {st : List Value} {h : gm_H} {r : gm_R × gm_H} {a0 a2 a3 a4 a5 a6 a7 a8 : Value} {x : Int32} : gm_Go E d 121 110 [a0, .int x, a2, a3, a4, a5, a6, a7, a8] st h r ↔ gm_Go E d 121 111 [a0, .int x, a2, a3, a4, a5, a6, a7, a8] (.int x :: st) h r := gr_loc m121 f121_110 rfl rfl
theorem f121_111 : gm_ft 121 111 = some (.iload 8, 2) := by decide +kernel
theorem r121_111 {E : Nat → Value} {d : Nat} {st : List Value} {h : gm_H} {r : gm_R × gm_H} {a0 a1 a2 a3 a4 a5 a6 a7 : Value} {x : Int32} : gm_Go E d 121 111 [a0, a1, a2, a3, a4, a5, a6, a7, .int x] st h r ↔ gm_Go E d 121 113 [a0, a1, a2, a3, a4, a5, a6, a7, .int x] (.int x :: st) h r := gr_loc m121 f121_111 rfl rfl
theorem f121_113 : gm_ft 121 113 = some (.iadd, 1) := by decide +kernel
theorem r121_113 {E : Nat → Value} {d : Nat} {st : List Value} {h : gm_H} {r : gm_R × gm_H} {lv : List Value} {x y : Int32} : gm_Go E d 121 113 lv (.int y :: .int x :: st) h r ↔ gm_Go E d 121 114 lv (.int (x + y) :: st) h r := gr_pure m121 f121_113 rfl
theorem f121_114 : gm_ft 121 114 = some (.iaload, 1) := by decide +kernel
theorem r121_114 {E : Nat → Value} {d : Nat} {st : List Value} {h : gm_H} {r : gm_R × gm_H} {lv : List Value} {a k j : Nat} {vs : List Value} {v : Value} (hr : gm_rd h a = some (k, vs)) (hk : 100 ≤ k ∧ (fun t => t == 0) (k % 100) = true) (hj : j < 2 ^ 31) (hv : vs[j]? = some v) : gm_Go E d 121 114 lv (.int (nI j) :: .ref a :: st) h r ↔ gm_Go E d 121 115 lv (v :: st) h r := gr_rd m121 f121_114 rfl rfl rfl rfl (ga_ld (P := fun t => t == 0) hr hk hj hv)
theorem f121_115 : gm_ft 121 115 = some (.i2l, 1) := by decide +kernel
theorem r121_115 {E : Nat → Value} {d : Nat} {st : List Value} {h : gm_H} {r : gm_R × gm_H} {lv : List Value} {x : Int32} : gm_Go E d 121 115 lv (.int x :: st) h r ↔ gm_Go E d 121 116 lv (.long (x.toInt64) :: st) h r := gr_pure m121 f121_115 rfl
theorem f121_116 : gm_ft 121 116 = some (.lor, 1) := by decide +kernel
theorem r121_116 {E : Nat → Value} {d : Nat} {st : List Value} {h : gm_H} {r : gm_R × gm_H} {lv : List Value} {x y : Int64} : gm_Go E d 121 116 lv (.long y :: .long x :: st) h r ↔ gm_Go E d 121 117 lv (.long (x ||| y) :: st) h r := gr_pure m121 f121_116 rfl
theorem f121_117 : gm_ft 121 117 = some (.lstore 6, 2) := by decide +kernel
theorem r121_117 {E : Nat → Value} {d : Nat} {st : List Value} {h : gm_H} {r : gm_R × gm_H} {a0 a1 a2 a3 a4 a5 a6 a7 a8 : Value} {x : Int64} : gm_Go E d 121 117 [a0, a1, a2, a3, a4, a5, a6, a7, a8] (.long x :: st) h r ↔ gm_Go E d 121 119 [a0, a1, a2, a3, a4, gm_k a5, .long x, gm_u, a8] st h r := gr_loc m121 f121_117 rfl rfl
theorem f121_119 : gm_ft 121 119 = some (.iinc 8 1, 3) := by decide +kernel
theorem r121_119 {E : Nat → Value} {d : Nat} {st : List Value} {h : gm_H} {r : gm_R × gm_H} {a0 a1 a2 a3 a4 a5 a6 a7 : Value} {x : Int32} : gm_Go E d 121 119 [a0, a1, a2, a3, a4, a5, a6, a7, .int x] st h r ↔ gm_Go E d 121 122 [a0, a1, a2, a3, a4, a5, a6, gm_k a7, .int (x + (1 : Int32))] st h r := gr_loc m121 f121_119 rfl rfl
theorem f121_122 : gm_ft 121 122 = some (.goto (-28), 3) := by decide +kernel
theorem r121_122 {E : Nat → Value} {d : Nat} {st : List Value} {h : gm_H} {r : gm_R × gm_H} {lv : List Value} : gm_Go E d 121 122 lv st h r ↔ gm_Go E d 121 94 lv st h r := gr_brT m121 f121_122 rfl rfl rfl rfl
theorem f121_125 : gm_ft 121 125 = some (.lload 4, 2) := by decide +kernel
theorem r121_125 {E : Nat → Value} {d : Nat} {st : List Value} {h : gm_H} {r : gm_R × gm_H} {a0 a1 a2 a3 a5 a6 a7 a8 : Value} {x : Int64} : gm_Go E d 121 125 [a0, a1, a2, a3, .long x, a5, a6, a7, a8] st h r ↔ gm_Go E d 121 127 [a0, a1, a2, a3, .long x, a5, a6, a7, a8] (.long x :: st) h r := gr_loc m121 f121_125 rfl rfl
theorem f121_127 : gm_ft 121 127 = some (.ldc2_w 237, 3) := by decide +kernel
theorem r121_127 {E : Nat → Value} {d : Nat} {st : List Value} {h : gm_H} {r : gm_R × gm_H} {lv : List Value} : gm_Go E d 121 127 lv st h r ↔ gm_Go E d 121 130 lv (.long (5506320655478320225 : Int64) :: st) h r := gr_rd m121 f121_127 rfl rfl rfl rfl rfl
theorem f121_130 : gm_ft 121 130 = some (.lcmp, 1) := by decide +kernel
theorem r121_130 {E : Nat → Value} {d : Nat} {st : List Value} {h : gm_H} {r : gm_R × gm_H} {lv : List Value} {x y : Int64} : gm_Go E d 121 130 lv (.long y :: .long x :: st) h r ↔ gm_Go E d 121 131 lv (.int (lg_cmp x y) :: st) h r := gr_pure m121 f121_130 rfl
theorem f121_131 : gm_ft 121 131 = some (.ifCond .ne 44, 3) := by decide +kernel
theorem r121_131 {E : Nat → Value} {d : Nat} {st : List Value} {h : gm_H} {r : gm_R × gm_H} {lv : List Value} {x : Int32} : gm_Go E d 121 131 lv (.int x :: st) h r ↔ (if x = 0 then gm_Go E d 121 134 lv st h r else gm_Go E d 121 175 lv st h r) := (gr_br m121 f121_131 rfl rfl rfl rfl).trans gr_ifn
theorem f121_134 : gm_ft 121 134 = some (.lload 6, 2) := by decide +kernel
theorem r121_134 {E : Nat → Value} {d : Nat} {st : List Value} {h : gm_H} {r : gm_R × gm_H} {a0 a1 a2 a3 a4 a5 a7 a8 : Value} {x : Int64} : gm_Go E d 121 134 [a0, a1, a2, a3, a4, a5, .long x, a7, a8] st h r ↔ gm_Go E d 121 136 [a0, a1, a2, a3, a4, a5, .long x, a7, a8] (.long x :: st) h r := gr_loc m121 f121_134 rfl rfl
theorem f121_136 : gm_ft 121 136 = some (.ldc2_w 239, 3) := by decide +kernel
theorem r121_136 {E : Nat → Value} {d : Nat} {st : List Value} {h : gm_H} {r : gm_R × gm_H} {lv : List Value} : gm_Go E d 121 136 lv st h r ↔ gm_Go E d 121 139 lv (.long (7955378185261704547 : Int64) :: st) h r := gr_rd m121 f121_136 rfl rfl rfl rfl rfl
theorem f121_139 : gm_ft 121 139 = some (.lcmp, 1) := by decide +kernel
theorem r121_139 {E : Nat → Value} {d : Nat} {st : List Value} {h : gm_H} {r : gm_R × gm_H} {lv : List Value} {x y : Int64} : gm_Go E d 121 139 lv (.long y :: .long x :: st) h r ↔ gm_Go E d 121 140 lv (.int (lg_cmp x y) :: st) h r := gr_pure m121 f121_139 rfl
theorem f121_140 : gm_ft 121 140 = some (.ifCond .ne 35, 3) := by decide +kernel
theorem r121_140 {E : Nat → Value} {d : Nat} {st : List Value} {h : gm_H} {r : gm_R × gm_H} {lv : List Value} {x : Int32} : gm_Go E d 121 140 lv (.int x :: st) h r ↔ (if x = 0 then gm_Go E d 121 143 lv st h r else gm_Go E d 121 175 lv st h r) := (gr_br m121 f121_140 rfl rfl rfl rfl).trans gr_ifn
theorem f121_143 : gm_ft 121 143 = some (.aload_n 0, 1) := by decide +kernel
theorem r121_143 {E : Nat → Value} {d : Nat} {st : List Value} {h : gm_H} {r : gm_R × gm_H} {a1 a2 a3 a4 a5 a6 a7 a8 : Value} {x : Nat} : gm_Go E d 121 143 [.ref x, a1, a2, a3, a4, a5, a6, a7, a8] st h r ↔ gm_Go E d 121 144 [.ref x, a1, a2, a3, a4, a5, a6, a7, a8] (.ref x :: st) h r := gr_loc m121 f121_143 rfl rfl
theorem r121_143n {E : Nat → Value} {d : Nat} {st : List Value} {h : gm_H} {r : gm_R × gm_H} {a1 a2 a3 a4 a5 a6 a7 a8 : Value}  : gm_Go E d 121 143 [.null, a1, a2, a3, a4, a5, a6, a7, a8] st h r ↔ gm_Go E d 121 144 [.null, a1, a2, a3, a4, a5, a6, a7, a8] (.null :: st) h r := gr_loc m121 f121_143 rfl rfl
theorem f121_144 : gm_ft 121 144 = some (.getfield 7, 3) := by decide +kernel
theorem r121_144 {E : Nat → Value} {d : Nat} {st : List Value} {h : gm_H} {r : gm_R × gm_H} {lv : List Value} {a : Nat} {vs : List Value} {v : Value} (hr : gm_rd h a = some (5, vs)) (hv : vs[4]? = some v) : gm_Go E d 121 144 lv (.ref a :: st) h r ↔ gm_Go E d 121 147 lv (v :: st) h r := gr_rd m121 f121_144 rfl rfl rfl rfl (gf_get k5_7 hr hv)
theorem f121_147 : gm_ft 121 147 = some (.iload_n 1, 1) := by decide +kernel
theorem r121_147 {E : Nat → Value} {d : Nat} {st : List Value} {h : gm_H} {r : gm_R × gm_H} {a0 a2 a3 a4 a5 a6 a7 a8 : Value} {x : Int32} : gm_Go E d 121 147 [a0, .int x, a2, a3, a4, a5, a6, a7, a8] st h r ↔ gm_Go E d 121 148 [a0, .int x, a2, a3, a4, a5, a6, a7, a8] (.int x :: st) h r := gr_loc m121 f121_147 rfl rfl
theorem f121_148 : gm_ft 121 148 = some (.bipush 17, 2) := by decide +kernel
theorem r121_148 {E : Nat → Value} {d : Nat} {st : List Value} {h : gm_H} {r : gm_R × gm_H} {lv : List Value} : gm_Go E d 121 148 lv st h r ↔ gm_Go E d 121 150 lv (.int (17 : Int32) :: st) h r := gr_pure m121 f121_148 rfl
theorem f121_150 : gm_ft 121 150 = some (.iadd, 1) := by decide +kernel
theorem r121_150 {E : Nat → Value} {d : Nat} {st : List Value} {h : gm_H} {r : gm_R × gm_H} {lv : List Value} {x y : Int32} : gm_Go E d 121 150 lv (.int y :: .int x :: st) h r ↔ gm_Go E d 121 151 lv (.int (x + y) :: st) h r := gr_pure m121 f121_150 rfl
theorem f121_151 : gm_ft 121 151 = some (.iaload, 1) := by decide +kernel
theorem r121_151 {E : Nat → Value} {d : Nat} {st : List Value} {h : gm_H} {r : gm_R × gm_H} {lv : List Value} {a k j : Nat} {vs : List Value} {v : Value} (hr : gm_rd h a = some (k, vs)) (hk : 100 ≤ k ∧ (fun t => t == 0) (k % 100) = true) (hj : j < 2 ^ 31) (hv : vs[j]? = some v) : gm_Go E d 121 151 lv (.int (nI j) :: .ref a :: st) h r ↔ gm_Go E d 121 152 lv (v :: st) h r := gr_rd m121 f121_151 rfl rfl rfl rfl (ga_ld (P := fun t => t == 0) hr hk hj hv)
theorem f121_152 : gm_ft 121 152 = some (.bipush 116, 2) := by decide +kernel
theorem r121_152 {E : Nat → Value} {d : Nat} {st : List Value} {h : gm_H} {r : gm_R × gm_H} {lv : List Value} : gm_Go E d 121 152 lv st h r ↔ gm_Go E d 121 154 lv (.int (116 : Int32) :: st) h r := gr_pure m121 f121_152 rfl
theorem f121_154 : gm_ft 121 154 = some (.if_icmp .ne 21, 3) := by decide +kernel
theorem r121_154 {E : Nat → Value} {d : Nat} {st : List Value} {h : gm_H} {r : gm_R × gm_H} {lv : List Value} {x y : Int32} : gm_Go E d 121 154 lv (.int y :: .int x :: st) h r ↔ (if x = y then gm_Go E d 121 157 lv st h r else gm_Go E d 121 175 lv st h r) := (gr_br m121 f121_154 rfl rfl rfl rfl).trans gr_ifn
theorem f121_157 : gm_ft 121 157 = some (.aload_n 0, 1) := by decide +kernel
theorem r121_157 {E : Nat → Value} {d : Nat} {st : List Value} {h : gm_H} {r : gm_R × gm_H} {a1 a2 a3 a4 a5 a6 a7 a8 : Value} {x : Nat} : gm_Go E d 121 157 [.ref x, a1, a2, a3, a4, a5, a6, a7, a8] st h r ↔ gm_Go E d 121 158 [.ref x, a1, a2, a3, a4, a5, a6, a7, a8] (.ref x :: st) h r := gr_loc m121 f121_157 rfl rfl
theorem r121_157n {E : Nat → Value} {d : Nat} {st : List Value} {h : gm_H} {r : gm_R × gm_H} {a1 a2 a3 a4 a5 a6 a7 a8 : Value}  : gm_Go E d 121 157 [.null, a1, a2, a3, a4, a5, a6, a7, a8] st h r ↔ gm_Go E d 121 158 [.null, a1, a2, a3, a4, a5, a6, a7, a8] (.null :: st) h r := gr_loc m121 f121_157 rfl rfl
theorem f121_158 : gm_ft 121 158 = some (.getfield 7, 3) := by decide +kernel
theorem r121_158 {E : Nat → Value} {d : Nat} {st : List Value} {h : gm_H} {r : gm_R × gm_H} {lv : List Value} {a : Nat} {vs : List Value} {v : Value} (hr : gm_rd h a = some (5, vs)) (hv : vs[4]? = some v) : gm_Go E d 121 158 lv (.ref a :: st) h r ↔ gm_Go E d 121 161 lv (v :: st) h r := gr_rd m121 f121_158 rfl rfl rfl rfl (gf_get k5_7 hr hv)
theorem f121_161 : gm_ft 121 161 = some (.iload_n 1, 1) := by decide +kernel
theorem r121_161 {E : Nat → Value} {d : Nat} {st : List Value} {h : gm_H} {r : gm_R × gm_H} {a0 a2 a3 a4 a5 a6 a7 a8 : Value} {x : Int32} : gm_Go E d 121 161 [a0, .int x, a2, a3, a4, a5, a6, a7, a8] st h r ↔ gm_Go E d 121 162 [a0, .int x, a2, a3, a4, a5, a6, a7, a8] (.int x :: st) h r := gr_loc m121 f121_161 rfl rfl
theorem f121_162 : gm_ft 121 162 = some (.bipush 18, 2) := by decide +kernel
theorem r121_162 {E : Nat → Value} {d : Nat} {st : List Value} {h : gm_H} {r : gm_R × gm_H} {lv : List Value} : gm_Go E d 121 162 lv st h r ↔ gm_Go E d 121 164 lv (.int (18 : Int32) :: st) h r := gr_pure m121 f121_162 rfl
theorem f121_164 : gm_ft 121 164 = some (.iadd, 1) := by decide +kernel
theorem r121_164 {E : Nat → Value} {d : Nat} {st : List Value} {h : gm_H} {r : gm_R × gm_H} {lv : List Value} {x y : Int32} : gm_Go E d 121 164 lv (.int y :: .int x :: st) h r ↔ gm_Go E d 121 165 lv (.int (x + y) :: st) h r := gr_pure m121 f121_164 rfl
theorem f121_165 : gm_ft 121 165 = some (.iaload, 1) := by decide +kernel
theorem r121_165 {E : Nat → Value} {d : Nat} {st : List Value} {h : gm_H} {r : gm_R × gm_H} {lv : List Value} {a k j : Nat} {vs : List Value} {v : Value} (hr : gm_rd h a = some (k, vs)) (hk : 100 ≤ k ∧ (fun t => t == 0) (k % 100) = true) (hj : j < 2 ^ 31) (hv : vs[j]? = some v) : gm_Go E d 121 165 lv (.int (nI j) :: .ref a :: st) h r ↔ gm_Go E d 121 166 lv (v :: st) h r := gr_rd m121 f121_165 rfl rfl rfl rfl (ga_ld (P := fun t => t == 0) hr hk hj hv)
theorem f121_166 : gm_ft 121 166 = some (.bipush 59, 2) := by decide +kernel
theorem r121_166 {E : Nat → Value} {d : Nat} {st : List Value} {h : gm_H} {r : gm_R × gm_H} {lv : List Value} : gm_Go E d 121 166 lv st h r ↔ gm_Go E d 121 168 lv (.int (59 : Int32) :: st) h r := gr_pure m121 f121_166 rfl
theorem f121_168 : gm_ft 121 168 = some (.if_icmp .ne 7, 3) := by decide +kernel
theorem r121_168 {E : Nat → Value} {d : Nat} {st : List Value} {h : gm_H} {r : gm_R × gm_H} {lv : List Value} {x y : Int32} : gm_Go E d 121 168 lv (.int y :: .int x :: st) h r ↔ (if x = y then gm_Go E d 121 171 lv st h r else gm_Go E d 121 175 lv st h r) := (gr_br m121 f121_168 rfl rfl rfl rfl).trans gr_ifn
theorem f121_171 : gm_ft 121 171 = some (.iconst 1, 1) := by decide +kernel
theorem r121_171 {E : Nat → Value} {d : Nat} {st : List Value} {h : gm_H} {r : gm_R × gm_H} {lv : List Value} : gm_Go E d 121 171 lv st h r ↔ gm_Go E d 121 172 lv (.int (1 : Int32) :: st) h r := gr_pure m121 f121_171 rfl
theorem f121_172 : gm_ft 121 172 = some (.goto 4, 3) := by decide +kernel
theorem r121_172 {E : Nat → Value} {d : Nat} {st : List Value} {h : gm_H} {r : gm_R × gm_H} {lv : List Value} : gm_Go E d 121 172 lv st h r ↔ gm_Go E d 121 176 lv st h r := gr_brT m121 f121_172 rfl rfl rfl rfl
theorem f121_175 : gm_ft 121 175 = some (.iconst 0, 1) := by decide +kernel
theorem r121_175 {E : Nat → Value} {d : Nat} {st : List Value} {h : gm_H} {r : gm_R × gm_H} {lv : List Value} : gm_Go E d 121 175 lv st h r ↔ gm_Go E d 121 176 lv (.int (0 : Int32) :: st) h r := gr_pure m121 f121_175 rfl
theorem f121_176 : gm_ft 121 176 = some (.ireturn, 1) := by decide +kernel
theorem r121_176_0 {E : Nat → Value} {d : Nat} {h : gm_H} {r : gm_R × gm_H} {lv : List Value} : gm_Go E d 121 176 lv [.int (0 : Int32)] h r ↔ r = (.inl (some (.int (0 : Int32))), h) := gr_ret m121 f121_176 rfl rfl rfl rfl rfl rfl rfl rfl (by unfold gm_rt; dsimp only; rw [if_pos ⟨rfl, rfl⟩])
theorem r121_176_1 {E : Nat → Value} {d : Nat} {h : gm_H} {r : gm_R × gm_H} {lv : List Value} : gm_Go E d 121 176 lv [.int (1 : Int32)] h r ↔ r = (.inl (some (.int (1 : Int32))), h) := gr_ret m121 f121_176 rfl rfl rfl rfl rfl rfl rfl rfl (by unfold gm_rt; dsimp only; rw [if_pos ⟨rfl, rfl⟩])
