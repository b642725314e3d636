/-! GraphReaderModel.nextField(I)V -/
theorem m122 : gm_mt[122]? = some (⟨"GraphReaderModel", "nextField", "(I)V"⟩, prog_7_method_33_code, 6, none, [], 5, 2) := rfl
theorem f122_0 : gm_ft 122 0 = some (.aload_n 0, 1) := by decide +kernel
theorem r122_0 {E : Nat → Value} {d : Nat} {st : List Value} {h : gm_H} {r : gm_R × gm_H} {a1 a2 a3 a4 a5 : Value} {x : Nat} : gm_Go E d 122 0 [.ref x, a1, a2, a3, a4, a5] st h r ↔ gm_Go E d 122 1 [.ref x, a1, a2, a3, a4, a5] (.ref x :: st) h r := gr_loc m122 f122_0 rfl rfl
theorem r122_0n {E : Nat → Value} {d : Nat} {st : List Value} {h : gm_H} {r : gm_R × gm_H} {a1 a2 a3 a4 a5 : Value}  : gm_Go E d 122 0 [.null, a1, a2, a3, a4, a5] st h r ↔ gm_Go E d 122 1 [.null, a1, a2, a3, a4, a5] (.null :: st) h r := gr_loc m122 f122_0 rfl rfl
theorem f122_1 : gm_ft 122 1 = some (.getfield 105, 3) := by decide +kernel
theorem r122_1 {E : Nat → Value} {d : Nat} {st : List Value} {h : gm_H} {r : gm_R × gm_H} {lv : List Value} {a : Nat} {vs : List Value} {v : Value} (hr : gm_rd h a = some (5, vs)) (hv : vs[44]? = some v) : gm_Go E d 122 1 lv (.ref a :: st) h r ↔ gm_Go E d 122 4 lv (v :: st) h r := gr_rd m122 f122_1 rfl rfl rfl rfl (gf_get k5_105 hr hv)
theorem f122_4 : gm_ft 122 4 = some (.iload_n 1, 1) := by decide +kernel
theorem r122_4 {E : Nat → Value} {d : Nat} {st : List Value} {h : gm_H} {r : gm_R × gm_H} {a0 a2 a3 a4 a5 : Value} {x : Int32} : gm_Go E d 122 4 [a0, .int x, a2, a3, a4, a5] st h r ↔ gm_Go E d 122 5 [a0, .int x, a2, a3, a4, a5] (.int x :: st) h r := gr_loc m122 f122_4 rfl rfl
theorem f122_5 : gm_ft 122 5 = some (.iaload, 1) := by decide +kernel
theorem r122_5 {E : Nat → Value} {d : Nat} {st : List Value} {h : gm_H} {r : gm_R × gm_H} {lv : List Value} {a k j : Nat} {vs : List Value} {v : Value} (hr : gm_rd h a = some (k, vs)) (hk : 100 ≤ k ∧ (fun t => t == 0) (k % 100) = true) (hj : j < 2 ^ 31) (hv : vs[j]? = some v) : gm_Go E d 122 5 lv (.int (nI j) :: .ref a :: st) h r ↔ gm_Go E d 122 6 lv (v :: st) h r := gr_rd m122 f122_5 rfl rfl rfl rfl (ga_ld (P := fun t => t == 0) hr hk hj hv)
theorem f122_6 : gm_ft 122 6 = some (.istore_n 2, 1) := by decide +kernel
theorem r122_6 {E : Nat → Value} {d : Nat} {st : List Value} {h : gm_H} {r : gm_R × gm_H} {a0 a1 a2 a3 a4 a5 : Value} {x : Int32} : gm_Go E d 122 6 [a0, a1, a2, a3, a4, a5] (.int x :: st) h r ↔ gm_Go E d 122 7 [a0, gm_k a1, .int x, a3, a4, a5] st h r := gr_loc m122 f122_6 rfl rfl
theorem f122_7 : gm_ft 122 7 = some (.aload_n 0, 1) := by decide +kernel
theorem r122_7 {E : Nat → Value} {d : Nat} {st : List Value} {h : gm_H} {r : gm_R × gm_H} {a1 a2 a3 a4 a5 : Value} {x : Nat} : gm_Go E d 122 7 [.ref x, a1, a2, a3, a4, a5] st h r ↔ gm_Go E d 122 8 [.ref x, a1, a2, a3, a4, a5] (.ref x :: st) h r := gr_loc m122 f122_7 rfl rfl
theorem r122_7n {E : Nat → Value} {d : Nat} {st : List Value} {h : gm_H} {r : gm_R × gm_H} {a1 a2 a3 a4 a5 : Value}  : gm_Go E d 122 7 [.null, a1, a2, a3, a4, a5] st h r ↔ gm_Go E d 122 8 [.null, a1, a2, a3, a4, a5] (.null :: st) h r := gr_loc m122 f122_7 rfl rfl
theorem f122_8 : gm_ft 122 8 = some (.getfield 108, 3) := by decide +kernel
theorem r122_8 {E : Nat → Value} {d : Nat} {st : List Value} {h : gm_H} {r : gm_R × gm_H} {lv : List Value} {a : Nat} {vs : List Value} {v : Value} (hr : gm_rd h a = some (5, vs)) (hv : vs[45]? = some v) : gm_Go E d 122 8 lv (.ref a :: st) h r ↔ gm_Go E d 122 11 lv (v :: st) h r := gr_rd m122 f122_8 rfl rfl rfl rfl (gf_get k5_108 hr hv)
theorem f122_11 : gm_ft 122 11 = some (.iload_n 1, 1) := by decide +kernel
theorem r122_11 {E : Nat → Value} {d : Nat} {st : List Value} {h : gm_H} {r : gm_R × gm_H} {a0 a2 a3 a4 a5 : Value} {x : Int32} : gm_Go E d 122 11 [a0, .int x, a2, a3, a4, a5] st h r ↔ gm_Go E d 122 12 [a0, .int x, a2, a3, a4, a5] (.int x :: st) h r := gr_loc m122 f122_11 rfl rfl
theorem f122_12 : gm_ft 122 12 = some (.iaload, 1) := by decide +kernel
theorem r122_12 {E : Nat → Value} {d : Nat} {st : List Value} {h : gm_H} {r : gm_R × gm_H} {lv : List Value} {a k j : Nat} {vs : List Value} {v : Value} (hr : gm_rd h a = some (k, vs)) (hk : 100 ≤ k ∧ (fun t => t == 0) (k % 100) = true) (hj : j < 2 ^ 31) (hv : vs[j]? = some v) : gm_Go E d 122 12 lv (.int (nI j) :: .ref a :: st) h r ↔ gm_Go E d 122 13 lv (v :: st) h r := gr_rd m122 f122_12 rfl rfl rfl rfl (ga_ld (P := fun t => t == 0) hr hk hj hv)
theorem f122_13 : gm_ft 122 13 = some (.aload_n 0, 1) := by decide +kernel
theorem r122_13 {E : Nat → Value} {d : Nat} {st : List Value} {h : gm_H} {r : gm_R × gm_H} {a1 a2 a3 a4 a5 : Value} {x : Nat} : gm_Go E d 122 13 [.ref x, a1, a2, a3, a4, a5] st h r ↔ gm_Go E d 122 14 [.ref x, a1, a2, a3, a4, a5] (.ref x :: st) h r := gr_loc m122 f122_13 rfl rfl
theorem r122_13n {E : Nat → Value} {d : Nat} {st : List Value} {h : gm_H} {r : gm_R × gm_H} {a1 a2 a3 a4 a5 : Value}  : gm_Go E d 122 13 [.null, a1, a2, a3, a4, a5] st h r ↔ gm_Go E d 122 14 [.null, a1, a2, a3, a4, a5] (.null :: st) h r := gr_loc m122 f122_13 rfl rfl
theorem f122_14 : gm_ft 122 14 = some (.getfield 81, 3) := by decide +kernel
theorem r122_14 {E : Nat → Value} {d : Nat} {st : List Value} {h : gm_H} {r : gm_R × gm_H} {lv : List Value} {a : Nat} {vs : List Value} {v : Value} (hr : gm_rd h a = some (5, vs)) (hv : vs[35]? = some v) : gm_Go E d 122 14 lv (.ref a :: st) h r ↔ gm_Go E d 122 17 lv (v :: st) h r := gr_rd m122 f122_14 rfl rfl rfl rfl (gf_get k5_81 hr hv)
theorem f122_17 : gm_ft 122 17 = some (.iload_n 2, 1) := by decide +kernel
theorem r122_17 {E : Nat → Value} {d : Nat} {st : List Value} {h : gm_H} {r : gm_R × gm_H} {a0 a1 a3 a4 a5 : Value} {x : Int32} : gm_Go E d 122 17 [a0, a1, .int x, a3, a4, a5] st h r ↔ gm_Go E d 122 18 [a0, a1, .int x, a3, a4, a5] (.int x :: st) h r := gr_loc m122 f122_17 rfl rfl
theorem f122_18 : gm_ft 122 18 = some (.iaload, 1) := by decide +kernel
theorem r122_18 {E : Nat → Value} {d : Nat} {st : List Value} {h : gm_H} {r : gm_R × gm_H} {lv : List Value} {a k j : Nat} {vs : List Value} {v : Value} (hr : gm_rd h a = some (k, vs)) (hk : 100 ≤ k ∧ (fun t => t == 0) (k % 100) = true) (hj : j < 2 ^ 31) (hv : vs[j]? = some v) : gm_Go E d 122 18 lv (.int (nI j) :: .ref a :: st) h r ↔ gm_Go E d 122 19 lv (v :: st) h r := gr_rd m122 f122_18 rfl rfl rfl rfl (ga_ld (P := fun t => t == 0) hr hk hj hv)
theorem f122_19 : gm_ft 122 19 = some (.if_icmp .ne 58, 3) := by decide +kernel
theorem r122_19 {E : Nat → Value} {d : Nat} {st : List Value} {h : gm_H} {r : gm_R × gm_H} {lv : List Value} {x y : Int32} : gm_Go E d 122 19 lv (.int y :: .int x :: st) h r ↔ (if x = y then gm_Go E d 122 22 lv st h r else gm_Go E d 122 77 lv st h r) := (gr_br m122 f122_19 rfl rfl rfl rfl).trans gr_ifn
theorem f122_22 : gm_ft 122 22 = some (.aload_n 0, 1) := by decide +kernel
theorem r122_22 {E : Nat → Value} {d : Nat} {st : List Value} {h : gm_H} {r : gm_R × gm_H} {a1 a2 a3 a4 a5 : Value} {x : Nat} : gm_Go E d 122 22 [.ref x, a1, a2, a3, a4, a5] st h r ↔ gm_Go E d 122 23 [.ref x, a1, a2, a3, a4, a5] (.ref x :: st) h r := gr_loc m122 f122_22 rfl rfl
theorem r122_22n {E : Nat → Value} {d : Nat} {st : List Value} {h : gm_H} {r : gm_R × gm_H} {a1 a2 a3 a4 a5 : Value}  : gm_Go E d 122 22 [.null, a1, a2, a3, a4, a5] st h r ↔ gm_Go E d 122 23 [.null, a1, a2, a3, a4, a5] (.null :: st) h r := gr_loc m122 f122_22 rfl rfl
theorem f122_23 : gm_ft 122 23 = some (.getfield 75, 3) := by decide +kernel
theorem r122_23 {E : Nat → Value} {d : Nat} {st : List Value} {h : gm_H} {r : gm_R × gm_H} {lv : List Value} {a : Nat} {vs : List Value} {v : Value} (hr : gm_rd h a = some (5, vs)) (hv : vs[33]? = some v) : gm_Go E d 122 23 lv (.ref a :: st) h r ↔ gm_Go E d 122 26 lv (v :: st) h r := gr_rd m122 f122_23 rfl rfl rfl rfl (gf_get k5_75 hr hv)
theorem f122_26 : gm_ft 122 26 = some (.iload_n 2, 1) := by decide +kernel
theorem r122_26 {E : Nat → Value} {d : Nat} {st : List Value} {h : gm_H} {r : gm_R × gm_H} {a0 a1 a3 a4 a5 : Value} {x : Int32} : gm_Go E d 122 26 [a0, a1, .int x, a3, a4, a5] st h r ↔ gm_Go E d 122 27 [a0, a1, .int x, a3, a4, a5] (.int x :: st) h r := gr_loc m122 f122_26 rfl rfl
theorem f122_27 : gm_ft 122 27 = some (.iaload, 1) := by decide +kernel
theorem r122_27 {E : Nat → Value} {d : Nat} {st : List Value} {h : gm_H} {r : gm_R × gm_H} {lv : List Value} {a k j : Nat} {vs : List Value} {v : Value} (hr : gm_rd h a = some (k, vs)) (hk : 100 ≤ k ∧ (fun t => t == 0) (k % 100) = true) (hj : j < 2 ^ 31) (hv : vs[j]? = some v) : gm_Go E d 122 27 lv (.int (nI j) :: .ref a :: st) h r ↔ gm_Go E d 122 28 lv (v :: st) h r := gr_rd m122 f122_27 rfl rfl rfl rfl (ga_ld (P := fun t => t == 0) hr hk hj hv)
theorem f122_28 : gm_ft 122 28 = some (.bipush 16, 2) := by decide +kernel
theorem r122_28 {E : Nat → Value} {d : Nat} {st : List Value} {h : gm_H} {r : gm_R × gm_H} {lv : List Value} : gm_Go E d 122 28 lv st h r ↔ gm_Go E d 122 30 lv (.int (16 : Int32) :: st) h r := gr_pure m122 f122_28 rfl
theorem f122_30 : gm_ft 122 30 = some (.iand, 1) := by decide +kernel
theorem r122_30 {E : Nat → Value} {d : Nat} {st : List Value} {h : gm_H} {r : gm_R × gm_H} {lv : List Value} {x y : Int32} : gm_Go E d 122 30 lv (.int y :: .int x :: st) h r ↔ gm_Go E d 122 31 lv (.int (x &&& y) :: st) h r := gr_pure m122 f122_30 rfl
theorem f122_31 : gm_ft 122 31 = some (.ifCond .eq 18, 3) := by decide +kernel
theorem r122_31 {E : Nat → Value} {d : Nat} {st : List Value} {h : gm_H} {r : gm_R × gm_H} {lv : List Value} {x : Int32} : gm_Go E d 122 31 lv (.int x :: st) h r ↔ (if x = 0 then gm_Go E d 122 49 lv st h r else gm_Go E d 122 34 lv st h r) := (gr_br m122 f122_31 rfl rfl rfl rfl).trans gr_if
theorem f122_34 : gm_ft 122 34 = some (.aload_n 0, 1) := by decide +kernel
theorem r122_34 {E : Nat → Value} {d : Nat} {st : List Value} {h : gm_H} {r : gm_R × gm_H} {a1 a2 a3 a4 a5 : Value} {x : Nat} : gm_Go E d 122 34 [.ref x, a1, a2, a3, a4, a5] st h r ↔ gm_Go E d 122 35 [.ref x, a1, a2, a3, a4, a5] (.ref x :: st) h r := gr_loc m122 f122_34 rfl rfl
theorem r122_34n {E : Nat → Value} {d : Nat} {st : List Value} {h : gm_H} {r : gm_R × gm_H} {a1 a2 a3 a4 a5 : Value}  : gm_Go E d 122 34 [.null, a1, a2, a3, a4, a5] st h r ↔ gm_Go E d 122 35 [.null, a1, a2, a3, a4, a5] (.null :: st) h r := gr_loc m122 f122_34 rfl rfl
theorem f122_35 : gm_ft 122 35 = some (.getfield 81, 3) := by decide +kernel
theorem r122_35 {E : Nat → Value} {d : Nat} {st : List Value} {h : gm_H} {r : gm_R × gm_H} {lv : List Value} {a : Nat} {vs : List Value} {v : Value} (hr : gm_rd h a = some (5, vs)) (hv : vs[35]? = some v) : gm_Go E d 122 35 lv (.ref a :: st) h r ↔ gm_Go E d 122 38 lv (v :: st) h r := gr_rd m122 f122_35 rfl rfl rfl rfl (gf_get k5_81 hr hv)
theorem f122_38 : gm_ft 122 38 = some (.iload_n 2, 1) := by decide +kernel
theorem r122_38 {E : Nat → Value} {d : Nat} {st : List Value} {h : gm_H} {r : gm_R × gm_H} {a0 a1 a3 a4 a5 : Value} {x : Int32} : gm_Go E d 122 38 [a0, a1, .int x, a3, a4, a5] st h r ↔ gm_Go E d 122 39 [a0, a1, .int x, a3, a4, a5] (.int x :: st) h r := gr_loc m122 f122_38 rfl rfl
theorem f122_39 : gm_ft 122 39 = some (.iaload, 1) := by decide +kernel
theorem r122_39 {E : Nat → Value} {d : Nat} {st : List Value} {h : gm_H} {r : gm_R × gm_H} {lv : List Value} {a k j : Nat} {vs : List Value} {v : Value} (hr : gm_rd h a = some (k, vs)) (hk : 100 ≤ k ∧ (fun t => t == 0) (k % 100) = true) (hj : j < 2 ^ 31) (hv : vs[j]? = some v) : gm_Go E d 122 39 lv (.int (nI j) :: .ref a :: st) h r ↔ gm_Go E d 122 40 lv (v :: st) h r := gr_rd m122 f122_39 rfl rfl rfl rfl (ga_ld (P := fun t => t == 0) hr hk hj hv)
theorem f122_40 : gm_ft 122 40 = some (.ifCond .le 9, 3) := by decide +kernel
theorem r122_40 {E : Nat → Value} {d : Nat} {st : List Value} {h : gm_H} {r : gm_R × gm_H} {lv : List Value} {x : Int32} : gm_Go E d 122 40 lv (.int x :: st) h r ↔ (if x ≤ 0 then gm_Go E d 122 49 lv st h r else gm_Go E d 122 43 lv st h r) := (gr_br m122 f122_40 rfl rfl rfl rfl).trans gr_if
theorem f122_43 : gm_ft 122 43 = some (.aload_n 0, 1) := by decide +kernel
theorem r122_43 {E : Nat → Value} {d : Nat} {st : List Value} {h : gm_H} {r : gm_R × gm_H} {a1 a2 a3 a4 a5 : Value} {x : Nat} : gm_Go E d 122 43 [.ref x, a1, a2, a3, a4, a5] st h r ↔ gm_Go E d 122 44 [.ref x, a1, a2, a3, a4, a5] (.ref x :: st) h r := gr_loc m122 f122_43 rfl rfl
theorem r122_43n {E : Nat → Value} {d : Nat} {st : List Value} {h : gm_H} {r : gm_R × gm_H} {a1 a2 a3 a4 a5 : Value}  : gm_Go E d 122 43 [.null, a1, a2, a3, a4, a5] st h r ↔ gm_Go E d 122 44 [.null, a1, a2, a3, a4, a5] (.null :: st) h r := gr_loc m122 f122_43 rfl rfl
theorem f122_44 : gm_ft 122 44 = some (.bipush (-5), 2) := by decide +kernel
theorem r122_44 {E : Nat → Value} {d : Nat} {st : List Value} {h : gm_H} {r : gm_R × gm_H} {lv : List Value} : gm_Go E d 122 44 lv st h r ↔ gm_Go E d 122 46 lv (.int (-5 : Int32) :: st) h r := gr_pure m122 f122_44 rfl
theorem f122_46 : gm_ft 122 46 = some (.invokevirtual 151, 3) := by decide +kernel
theorem n122_46 {st : List Value} {h : gm_H} {E : Nat → Value} {lv : List Value} {b0 : Value} {a : Nat} (hs : (st.map fun v => v.category).sum ≤ 8) (he : (gm_en1 [.ref a, b0]).length ≤ 2) {vs : List Value} (hr : gm_rd h a = some (5, vs)) : gm_next E 122 46 lv (b0 :: .ref a :: st) h = some (.inr (.inl (0, 98, [.ref a, b0], st))) := gn_call m122 f122_46 rfl rfl rfl rfl rfl rfl rfl (gc_virt (bs := [b0]) (w := 844) rfl rfl rfl rfl hs he hr) (by decide)
theorem f122_49 : gm_ft 122 49 = some (.aload_n 0, 1) := by decide +kernel
theorem r122_49 {E : Nat → Value} {d : Nat} {st : List Value} {h : gm_H} {r : gm_R × gm_H} {a1 a2 a3 a4 a5 : Value} {x : Nat} : gm_Go E d 122 49 [.ref x, a1, a2, a3, a4, a5] st h r ↔ gm_Go E d 122 50 [.ref x, a1, a2, a3, a4, a5] (.ref x :: st) h r := gr_loc m122 f122_49 rfl rfl
theorem r122_49n {E : Nat → Value} {d : Nat} {st : List Value} {h : gm_H} {r : gm_R × gm_H} {a1 a2 a3 a4 a5 : Value}  : gm_Go E d 122 49 [.null, a1, a2, a3, a4, a5] st h r ↔ gm_Go E d 122 50 [.null, a1, a2, a3, a4, a5] (.null :: st) h r := gr_loc m122 f122_49 rfl rfl
theorem f122_50 : gm_ft 122 50 = some (.getfield 96, 3) := by decide +kernel
theorem r122_50 {E : Nat → Value} {d : Nat} {st : List Value} {h : gm_H} {r : gm_R × gm_H} {lv : List Value} {a : Nat} {vs : List Value} {v : Value} (hr : gm_rd h a = some (5, vs)) (hv : vs[41]? = some v) : gm_Go E d 122 50 lv (.ref a :: st) h r ↔ gm_Go E d 122 53 lv (v :: st) h r := gr_rd m122 f122_50 rfl rfl rfl rfl (gf_get k5_96 hr hv)
theorem f122_53 : gm_ft 122 53 = some (.iload_n 1, 1) := by decide +kernel
theorem r122_53 {E : Nat → Value} {d : Nat} {st : List Value} {h : gm_H} {r : gm_R × gm_H} {a0 a2 a3 a4 a5 : Value} {x : Int32} : gm_Go E d 122 53 [a0, .int x, a2, a3, a4, a5] st h r ↔ gm_Go E d 122 54 [a0, .int x, a2, a3, a4, a5] (.int x :: st) h r := gr_loc m122 f122_53 rfl rfl
theorem f122_54 : gm_ft 122 54 = some (.iconst 3, 1) := by decide +kernel
theorem r122_54 {E : Nat → Value} {d : Nat} {st : List Value} {h : gm_H} {r : gm_R × gm_H} {lv : List Value} : gm_Go E d 122 54 lv st h r ↔ gm_Go E d 122 55 lv (.int (3 : Int32) :: st) h r := gr_pure m122 f122_54 rfl
theorem f122_55 : gm_ft 122 55 = some (.iastore, 1) := by decide +kernel
theorem r122_55 {E : Nat → Value} {d : Nat} {st : List Value} {h : gm_H} {r : gm_R × gm_H} {lv : List Value} {a k j : Nat} {vs : List Value} {x : Int32} (hr : gm_rd h a = some (k, vs)) (hk : 100 ≤ k ∧ k % 100 = 0 ∧ gm_ko k = 2 ∧ 2 < 3) (hj : j < 2 ^ 31) (hl : j < vs.length) : gm_Go E d 122 55 lv (.int x :: .int (nI j) :: .ref a :: st) h r ↔ gm_Go E d 122 56 lv st (gm_wr h a (k, vs.set j (.int x))) r := gr_wr m122 f122_55 rfl rfl rfl rfl rfl (ga_st hr hk hj hl)
theorem f122_56 : gm_ft 122 56 = some (.aload_n 0, 1) := by decide +kernel
theorem r122_56 {E : Nat → Value} {d : Nat} {st : List Value} {h : gm_H} {r : gm_R × gm_H} {a1 a2 a3 a4 a5 : Value} {x : Nat} : gm_Go E d 122 56 [.ref x, a1, a2, a3, a4, a5] st h r ↔ gm_Go E d 122 57 [.ref x, a1, a2, a3, a4, a5] (.ref x :: st) h r := gr_loc m122 f122_56 rfl rfl
theorem r122_56n {E : Nat → Value} {d : Nat} {st : List Value} {h : gm_H} {r : gm_R × gm_H} {a1 a2 a3 a4 a5 : Value}  : gm_Go E d 122 56 [.null, a1, a2, a3, a4, a5] st h r ↔ gm_Go E d 122 57 [.null, a1, a2, a3, a4, a5] (.null :: st) h r := gr_loc m122 f122_56 rfl rfl
theorem f122_57 : gm_ft 122 57 = some (.getfield 145, 3) := by decide +kernel
theorem r122_57 {E : Nat → Value} {d : Nat} {st : List Value} {h : gm_H} {r : gm_R × gm_H} {lv : List Value} {a : Nat} {vs : List Value} {v : Value} (hr : gm_rd h a = some (5, vs)) (hv : vs[8]? = some v) : gm_Go E d 122 57 lv (.ref a :: st) h r ↔ gm_Go E d 122 60 lv (v :: st) h r := gr_rd m122 f122_57 rfl rfl rfl rfl (gf_get k5_145 hr hv)
theorem f122_60 : gm_ft 122 60 = some (.ifCond .ne 16, 3) := by decide +kernel
theorem r122_60 {E : Nat → Value} {d : Nat} {st : List Value} {h : gm_H} {r : gm_R × gm_H} {lv : List Value} {x : Int32} : gm_Go E d 122 60 lv (.int x :: st) h r ↔ (if x = 0 then gm_Go E d 122 63 lv st h r else gm_Go E d 122 76 lv st h r) := (gr_br m122 f122_60 rfl rfl rfl rfl).trans gr_ifn
theorem f122_63 : gm_ft 122 63 = some (.aload_n 0, 1) := by decide +kernel
theorem r122_63 {E : Nat → Value} {d : Nat} {st : List Value} {h : gm_H} {r : gm_R × gm_H} {a1 a2 a3 a4 a5 : Value} {x : Nat} : gm_Go E d 122 63 [.ref x, a1, a2, a3, a4, a5] st h r ↔ gm_Go E d 122 64 [.ref x, a1, a2, a3, a4, a5] (.ref x :: st) h r := gr_loc m122 f122_63 rfl rfl
theorem r122_63n {E : Nat → Value} {d : Nat} {st : List Value} {h : gm_H} {r : gm_R × gm_H} {a1 a2 a3 a4 a5 : Value}  : gm_Go E d 122 63 [.null, a1, a2, a3, a4, a5] st h r ↔ gm_Go E d 122 64 [.null, a1, a2, a3, a4, a5] (.null :: st) h r := gr_loc m122 f122_63 rfl rfl
theorem f122_64 : gm_ft 122 64 = some (.iconst 4, 1) := by decide +kernel
theorem r122_64 {E : Nat → Value} {d : Nat} {st : List Value} {h : gm_H} {r : gm_R × gm_H} {lv : List Value} : gm_Go E d 122 64 lv st h r ↔ gm_Go E d 122 65 lv (.int (4 : Int32) :: st) h r := gr_pure m122 f122_64 rfl
theorem f122_65 : gm_ft 122 65 = some (.aload_n 0, 1) := by decide +kernel
theorem r122_65 {E : Nat → Value} {d : Nat} {st : List Value} {h : gm_H} {r : gm_R × gm_H} {a1 a2 a3 a4 a5 : Value} {x : Nat} : gm_Go E d 122 65 [.ref x, a1, a2, a3, a4, a5] st h r ↔ gm_Go E d 122 66 [.ref x, a1, a2, a3, a4, a5] (.ref x :: st) h r := gr_loc m122 f122_65 rfl rfl
theorem r122_65n {E : Nat → Value} {d : Nat} {st : List Value} {h : gm_H} {r : gm_R × gm_H} {a1 a2 a3 a4 a5 : Value}  : gm_Go E d 122 65 [.null, a1, a2, a3, a4, a5] st h r ↔ gm_Go E d 122 66 [.null, a1, a2, a3, a4, a5] (.null :: st) h r := gr_loc m122 f122_65 rfl rfl
theorem f122_66 : gm_ft 122 66 = some (.getfield 99, 3) := by decide +kernel
theorem r122_66 {E : Nat → Value} {d : Nat} {st : List Value} {h : gm_H} {r : gm_R × gm_H} {lv : List Value} {a : Nat} {vs : List Value} {v : Value} (hr : gm_rd h a = some (5, vs)) (hv : vs[42]? = some v) : gm_Go E d 122 66 lv (.ref a :: st) h r ↔ gm_Go E d 122 69 lv (v :: st) h r := gr_rd m122 f122_66 rfl rfl rfl rfl (gf_get k5_99 hr hv)
theorem f122_69 : gm_ft 122 69 = some (.iload_n 1, 1) := by decide +kernel
theorem r122_69 {E : Nat → Value} {d : Nat} {st : List Value} {h : gm_H} {r : gm_R × gm_H} {a0 a2 a3 a4 a5 : Value} {x : Int32} : gm_Go E d 122 69 [a0, .int x, a2, a3, a4, a5] st h r ↔ gm_Go E d 122 70 [a0, .int x, a2, a3, a4, a5] (.int x :: st) h r := gr_loc m122 f122_69 rfl rfl
theorem f122_70 : gm_ft 122 70 = some (.iaload, 1) := by decide +kernel
theorem r122_70 {E : Nat → Value} {d : Nat} {st : List Value} {h : gm_H} {r : gm_R × gm_H} {lv : List Value} {a k j : Nat} {vs : List Value} {v : Value} (hr : gm_rd h a = some (k, vs)) (hk : 100 ≤ k ∧ (fun t => t == 0) (k % 100) = true) (hj : j < 2 ^ 31) (hv : vs[j]? = some v) : gm_Go E d 122 70 lv (.int (nI j) :: .ref a :: st) h r ↔ gm_Go E d 122 71 lv (v :: st) h r := gr_rd m122 f122_70 rfl rfl rfl rfl (ga_ld (P := fun t => t == 0) hr hk hj hv)
theorem f122_71 : gm_ft 122 71 = some (.iconst 0, 1) := by decide +kernel
theorem r122_71 {E : Nat → Value} {d : Nat} {st : List Value} {h : gm_H} {r : gm_R × gm_H} {lv : List Value} : gm_Go E d 122 71 lv st h r ↔ gm_Go E d 122 72 lv (.int (0 : Int32) :: st) h r := gr_pure m122 f122_71 rfl
theorem f122_72 : gm_ft 122 72 = some (.iconst 0, 1) := by decide +kernel
theorem r122_72 {E : Nat → Value} {d : Nat} {st : List Value} {h : gm_H} {r : gm_R × gm_H} {lv : List Value} : gm_Go E d 122 72 lv st h r ↔ gm_Go E d 122 73 lv (.int (0 : Int32) :: st) h r := gr_pure m122 f122_72 rfl
theorem f122_73 : gm_ft 122 73 = some (.invokevirtual 200, 3) := by decide +kernel
theorem n122_73 {st : List Value} {h : gm_H} {E : Nat → Value} {lv : List Value} {b0 b1 b2 b3 : Value} {a : Nat} (hs : (st.map fun v => v.category).sum ≤ 8) (he : (gm_en1 [.ref a, b0, b1, b2, b3]).length ≤ 5) {vs : List Value} (hr : gm_rd h a = some (5, vs)) : gm_next E 122 73 lv (b3 :: b2 :: b1 :: b0 :: .ref a :: st) h = some (.inr (.inl (0, 101, [.ref a, b0, b1, b2, b3], st))) := gn_call m122 f122_73 rfl rfl rfl rfl rfl rfl rfl (gc_virt (bs := [b3, b2, b1, b0]) (w := 856) rfl rfl rfl rfl hs he hr) (by decide)
theorem f122_76 : gm_ft 122 76 = some (.return_, 1) := by decide +kernel
theorem r122_76 {E : Nat → Value} {d : Nat} {h : gm_H} {r : gm_R × gm_H} {lv : List Value} : gm_Go E d 122 76 lv [] h r ↔ r = (.inl none, h) := gr_ret m122 f122_76 rfl rfl rfl rfl rfl rfl rfl rfl rfl
theorem f122_77 : gm_ft 122 77 = some (.aload_n 0, 1) := by decide +kernel
theorem r122_77 {E : Nat → Value} {d : Nat} {st : List Value} {h : gm_H} {r : gm_R × gm_H} {a1 a2 a3 a4 a5 : Value} {x : Nat} : gm_Go E d 122 77 [.ref x, a1, a2, a3, a4, a5] st h r ↔ gm_Go E d 122 78 [.ref x, a1, a2, a3, a4, a5] (.ref x :: st) h r := gr_loc m122 f122_77 rfl rfl
theorem r122_77n {E : Nat → Value} {d : Nat} {st : List Value} {h : gm_H} {r : gm_R × gm_H} {a1 a2 a3 a4 a5 : Value}  : gm_Go E d 122 77 [.null, a1, a2, a3, a4, a5] st h r ↔ gm_Go E d 122 78 [.null, a1, a2, a3, a4, a5] (.null :: st) h r := gr_loc m122 f122_77 rfl rfl
theorem f122_78 : gm_ft 122 78 = some (.aload_n 0, 1) := by decide +kernel
theorem r122_78 {E : Nat → Value} {d : Nat} {st : List Value} {h : gm_H} {r : gm_R × gm_H} {a1 a2 a3 a4 a5 : Value} {x : Nat} : gm_Go E d 122 78 [.ref x, a1, a2, a3, a4, a5] st h r ↔ gm_Go E d 122 79 [.ref x, a1, a2, a3, a4, a5] (.ref x :: st) h r := gr_loc m122 f122_78 rfl rfl
theorem r122_78n {E : Nat → Value} {d : Nat} {st : List Value} {h : gm_H} {r : gm_R × gm_H} {a1 a2 a3 a4 a5 : Value}  : gm_Go E d 122 78 [.null, a1, a2, a3, a4, a5] st h r ↔ gm_Go E d 122 79 [.null, a1, a2, a3, a4, a5] (.null :: st) h r := gr_loc m122 f122_78 rfl rfl
theorem f122_79 : gm_ft 122 79 = some (.invokevirtual 155, 3) := by decide +kernel
theorem n122_79 {st : List Value} {h : gm_H} {E : Nat → Value} {lv : List Value} {a : Nat} (hs : (st.map fun v => v.category).sum ≤ 8) (he : (gm_en1 [.ref a]).length ≤ 1) {vs : List Value} (hr : gm_rd h a = some (5, vs)) : gm_next E 122 79 lv (.ref a :: st) h = some (.inr (.inl (0, 99, [.ref a], st))) := gn_call m122 f122_79 rfl rfl rfl rfl rfl rfl rfl (gc_virt (bs := []) (w := 848) rfl rfl rfl rfl hs he hr) (by decide)
theorem f122_82 : gm_ft 122 82 = some (.invokevirtual 245, 3) := by decide +kernel
theorem n122_82 {st : List Value} {h : gm_H} {E : Nat → Value} {lv : List Value} {b0 : Value} {a : Nat} (hs : (st.map fun v => v.category).sum ≤ 8) (he : (gm_en1 [.ref a, b0]).length ≤ 2) {vs : List Value} (hr : gm_rd h a = some (5, vs)) : gm_next E 122 82 lv (b0 :: .ref a :: st) h = some (.inr (.inl (0, 123, [.ref a, b0], st))) := gn_call m122 f122_82 rfl rfl rfl rfl rfl rfl rfl (gc_virt (bs := [b0]) (w := 949) rfl rfl rfl rfl hs he hr) (by decide)
theorem f122_85 : gm_ft 122 85 = some (.istore_n 3, 1) := by decide +kernel
theorem r122_85 {E : Nat → Value} {d : Nat} {st : List Value} {h : gm_H} {r : gm_R × gm_H} {a0 a1 a2 a3 a4 a5 : Value} {x : Int32} : gm_Go E d 122 85 [a0, a1, a2, a3, a4, a5] (.int x :: st) h r ↔ gm_Go E d 122 86 [a0, a1, gm_k a2, .int x, a4, a5] st h r := gr_loc m122 f122_85 rfl rfl
theorem f122_86 : gm_ft 122 86 = some (.aload_n 0, 1) := by decide +kernel
theorem r122_86 {E : Nat → Value} {d : Nat} {st : List Value} {h : gm_H} {r : gm_R × gm_H} {a1 a2 a3 a4 a5 : Value} {x : Nat} : gm_Go E d 122 86 [.ref x, a1, a2, a3, a4, a5] st h r ↔ gm_Go E d 122 87 [.ref x, a1, a2, a3, a4, a5] (.ref x :: st) h r := gr_loc m122 f122_86 rfl rfl
theorem r122_86n {E : Nat → Value} {d : Nat} {st : List Value} {h : gm_H} {r : gm_R × gm_H} {a1 a2 a3 a4 a5 : Value}  : gm_Go E d 122 86 [.null, a1, a2, a3, a4, a5] st h r ↔ gm_Go E d 122 87 [.null, a1, a2, a3, a4, a5] (.null :: st) h r := gr_loc m122 f122_86 rfl rfl
theorem f122_87 : gm_ft 122 87 = some (.getfield 145, 3) := by decide +kernel
theorem r122_87 {E : Nat → Value} {d : Nat} {st : List Value} {h : gm_H} {r : gm_R × gm_H} {lv : List Value} {a : Nat} {vs : List Value} {v : Value} (hr : gm_rd h a = some (5, vs)) (hv : vs[8]? = some v) : gm_Go E d 122 87 lv (.ref a :: st) h r ↔ gm_Go E d 122 90 lv (v :: st) h r := gr_rd m122 f122_87 rfl rfl rfl rfl (gf_get k5_145 hr hv)
theorem f122_90 : gm_ft 122 90 = some (.ifCond .ne 13, 3) := by decide +kernel
theorem r122_90 {E : Nat → Value} {d : Nat} {st : List Value} {h : gm_H} {r : gm_R × gm_H} {lv : List Value} {x : Int32} : gm_Go E d 122 90 lv (.int x :: st) h r ↔ (if x = 0 then gm_Go E d 122 93 lv st h r else gm_Go E d 122 103 lv st h r) := (gr_br m122 f122_90 rfl rfl rfl rfl).trans gr_ifn
theorem f122_93 : gm_ft 122 93 = some (.iload_n 3, 1) := by decide +kernel
theorem r122_93 {E : Nat → Value} {d : Nat} {st : List Value} {h : gm_H} {r : gm_R × gm_H} {a0 a1 a2 a4 a5 : Value} {x : Int32} : gm_Go E d 122 93 [a0, a1, a2, .int x, a4, a5] st h r ↔ gm_Go E d 122 94 [a0, a1, a2, .int x, a4, a5] (.int x :: st) h r := gr_loc m122 f122_93 rfl rfl
theorem f122_94 : gm_ft 122 94 = some (.ifCond .ge 9, 3) := by decide +kernel
theorem r122_94 {E : Nat → Value} {d : Nat} {st : List Value} {h : gm_H} {r : gm_R × gm_H} {lv : List Value} {x : Int32} : gm_Go E d 122 94 lv (.int x :: st) h r ↔ (if 0 ≤ x then gm_Go E d 122 103 lv st h r else gm_Go E d 122 97 lv st h r) := (gr_br m122 f122_94 rfl rfl rfl rfl).trans gr_if
theorem f122_97 : gm_ft 122 97 = some (.aload_n 0, 1) := by decide +kernel
theorem r122_97 {E : Nat → Value} {d : Nat} {st : List Value} {h : gm_H} {r : gm_R × gm_H} {a1 a2 a3 a4 a5 : Value} {x : Nat} : gm_Go E d 122 97 [.ref x, a1, a2, a3, a4, a5] st h r ↔ gm_Go E d 122 98 [.ref x, a1, a2, a3, a4, a5] (.ref x :: st) h r := gr_loc m122 f122_97 rfl rfl
theorem r122_97n {E : Nat → Value} {d : Nat} {st : List Value} {h : gm_H} {r : gm_R × gm_H} {a1 a2 a3 a4 a5 : Value}  : gm_Go E d 122 97 [.null, a1, a2, a3, a4, a5] st h r ↔ gm_Go E d 122 98 [.null, a1, a2, a3, a4, a5] (.null :: st) h r := gr_loc m122 f122_97 rfl rfl
theorem f122_98 : gm_ft 122 98 = some (.bipush (-5), 2) := by decide +kernel
theorem r122_98 {E : Nat → Value} {d : Nat} {st : List Value} {h : gm_H} {r : gm_R × gm_H} {lv : List Value} : gm_Go E d 122 98 lv st h r ↔ gm_Go E d 122 100 lv (.int (-5 : Int32) :: st) h r := gr_pure m122 f122_98 rfl
theorem f122_100 : gm_ft 122 100 = some (.invokevirtual 151, 3) := by decide +kernel
theorem n122_100 {st : List Value} {h : gm_H} {E : Nat → Value} {lv : List Value} {b0 : Value} {a : Nat} (hs : (st.map fun v => v.category).sum ≤ 8) (he : (gm_en1 [.ref a, b0]).length ≤ 2) {vs : List Value} (hr : gm_rd h a = some (5, vs)) : gm_next E 122 100 lv (b0 :: .ref a :: st) h = some (.inr (.inl (0, 98, [.ref a, b0], st))) := gn_call m122 f122_100 rfl rfl rfl rfl rfl rfl rfl (gc_virt (bs := [b0]) (w := 844) rfl rfl rfl rfl hs he hr) (by decide)
theorem f122_103 : gm_ft 122 103 = some (.aload_n 0, 1) := by decide +kernel
theorem r122_103 {E : Nat → Value} {d : Nat} {st : List Value} {h : gm_H} {r : gm_R × gm_H} {a1 a2 a3 a4 a5 : Value} {x : Nat} : gm_Go E d 122 103 [.ref x, a1, a2, a3, a4, a5] st h r ↔ gm_Go E d 122 104 [.ref x, a1, a2, a3, a4, a5] (.ref x :: st) h r := gr_loc m122 f122_103 rfl rfl
theorem r122_103n {E : Nat → Value} {d : Nat} {st : List Value} {h : gm_H} {r : gm_R × gm_H} {a1 a2 a3 a4 a5 : Value}  : gm_Go E d 122 103 [.null, a1, a2, a3, a4, a5] st h r ↔ gm_Go E d 122 104 [.null, a1, a2, a3, a4, a5] (.null :: st) h r := gr_loc m122 f122_103 rfl rfl
theorem f122_104 : gm_ft 122 104 = some (.getfield 145, 3) := by decide +kernel
theorem r122_104 {E : Nat → Value} {d : Nat} {st : List Value} {h : gm_H} {r : gm_R × gm_H} {lv : List Value} {a : Nat} {vs : List Value} {v : Value} (hr : gm_rd h a = some (5, vs)) (hv : vs[8]? = some v) : gm_Go E d 122 104 lv (.ref a :: st) h r ↔ gm_Go E d 122 107 lv (v :: st) h r := gr_rd m122 f122_104 rfl rfl rfl rfl (gf_get k5_145 hr hv)
theorem f122_107 : gm_ft 122 107 = some (.ifCond .eq 4, 3) := by decide +kernel
theorem r122_107 {E : Nat → Value} {d : Nat} {st : List Value} {h : gm_H} {r : gm_R × gm_H} {lv : List Value} {x : Int32} : gm_Go E d 122 107 lv (.int x :: st) h r ↔ (if x = 0 then gm_Go E d 122 111 lv st h r else gm_Go E d 122 110 lv st h r) := (gr_br m122 f122_107 rfl rfl rfl rfl).trans gr_if
theorem f122_110 : gm_ft 122 110 = some (.return_, 1) := by decide +kernel
theorem r122_110 {E : Nat → Value} {d : Nat} {h : gm_H} {r : gm_R × gm_H} {lv : List Value} : gm_Go E d 122 110 lv [] h r ↔ r = (.inl none, h) := gr_ret m122 f122_110 rfl rfl rfl rfl rfl rfl rfl rfl rfl
theorem f122_111 : gm_ft 122 111 = some (.aload_n 0, 1) := by decide +kernel
theorem r122_111 {E : Nat → Value} {d : Nat} {st : List Value} {h : gm_H} {r : gm_R × gm_H} {a1 a2 a3 a4 a5 : Value} {x : Nat} : gm_Go E d 122 111 [.ref x, a1, a2, a3, a4, a5] st h r ↔ gm_Go E d 122 112 [.ref x, a1, a2, a3, a4, a5] (.ref x :: st) h r := gr_loc m122 f122_111 rfl rfl
theorem r122_111n {E : Nat → Value} {d : Nat} {st : List Value} {h : gm_H} {r : gm_R × gm_H} {a1 a2 a3 a4 a5 : Value}  : gm_Go E d 122 111 [.null, a1, a2, a3, a4, a5] st h r ↔ gm_Go E d 122 112 [.null, a1, a2, a3, a4, a5] (.null :: st) h r := gr_loc m122 f122_111 rfl rfl
theorem f122_112 : gm_ft 122 112 = some (.invokevirtual 193, 3) := by decide +kernel
theorem n122_112 {st : List Value} {h : gm_H} {E : Nat → Value} {lv : List Value} {a : Nat} (hs : (st.map fun v => v.category).sum ≤ 8) (he : (gm_en1 [.ref a]).length ≤ 4) {vs : List Value} (hr : gm_rd h a = some (5, vs)) : gm_next E 122 112 lv (.ref a :: st) h = some (.inr (.inl (0, 109, [.ref a], st))) := gn_call m122 f122_112 rfl rfl rfl rfl rfl rfl rfl (gc_virt (bs := []) (w := 889) rfl rfl rfl rfl hs he hr) (by decide)
theorem f122_115 : gm_ft 122 115 = some (.istore 4, 2) := by decide +kernel
theorem r122_115 {E : Nat → Value} {d : Nat} {st : List Value} {h : gm_H} {r : gm_R × gm_H} {a0 a1 a2 a3 a4 a5 : Value} {x : Int32} : gm_Go E d 122 115 [a0, a1, a2, a3, a4, a5] (.int x :: st) h r ↔ gm_Go E d 122 117 [a0, a1, a2, gm_k a3, .int x, a5] st h r := gr_loc m122 f122_115 rfl rfl
theorem f122_117 : gm_ft 122 117 = some (.aload_n 0, 1) := by decide +kernel
theorem r122_117 {E : Nat → Value} {d : Nat} {st : List Value} {h : gm_H} {r : gm_R × gm_H} {a1 a2 a3 a4 a5 : Value} {x : Nat} : gm_Go E d 122 117 [.ref x, a1, a2, a3, a4, a5] st h r ↔ gm_Go E d 122 118 [.ref x, a1, a2, a3, a4, a5] (.ref x :: st) h r := gr_loc m122 f122_117 rfl rfl
theorem r122_117n {E : Nat → Value} {d : Nat} {st : List Value} {h : gm_H} {r : gm_R × gm_H} {a1 a2 a3 a4 a5 : Value}  : gm_Go E d 122 117 [.null, a1, a2, a3, a4, a5] st h r ↔ gm_Go E d 122 118 [.null, a1, a2, a3, a4, a5] (.null :: st) h r := gr_loc m122 f122_117 rfl rfl
theorem f122_118 : gm_ft 122 118 = some (.getfield 145, 3) := by decide +kernel
theorem r122_118 {E : Nat → Value} {d : Nat} {st : List Value} {h : gm_H} {r : gm_R × gm_H} {lv : List Value} {a : Nat} {vs : List Value} {v : Value} (hr : gm_rd h a = some (5, vs)) (hv : vs[8]? = some v) : gm_Go E d 122 118 lv (.ref a :: st) h r ↔ gm_Go E d 122 121 lv (v :: st) h r := gr_rd m122 f122_118 rfl rfl rfl rfl (gf_get k5_145 hr hv)
theorem f122_121 : gm_ft 122 121 = some (.ifCond .eq 4, 3) := by decide +kernel
theorem r122_121 {E : Nat → Value} {d : Nat} {st : List Value} {h : gm_H} {r : gm_R × gm_H} {lv : List Value} {x : Int32} : gm_Go E d 122 121 lv (.int x :: st) h r ↔ (if x = 0 then gm_Go E d 122 125 lv st h r else gm_Go E d 122 124 lv st h r) := (gr_br m122 f122_121 rfl rfl rfl rfl).trans gr_if
theorem f122_124 : gm_ft 122 124 = some (.return_, 1) := by decide +kernel
theorem r122_124 {E : Nat → Value} {d : Nat} {h : gm_H} {r : gm_R × gm_H} {lv : List Value} : gm_Go E d 122 124 lv [] h r ↔ r = (.inl none, h) := gr_ret m122 f122_124 rfl rfl rfl rfl rfl rfl rfl rfl rfl
theorem f122_125 : gm_ft 122 125 = some (.iload 4, 2) := by decide +kernel
theorem r122_125 {E : Nat → Value} {d : Nat} {st : List Value} {h : gm_H} {r : gm_R × gm_H} {a0 a1 a2 a3 a5 : Value} {x : Int32} : gm_Go E d 122 125 [a0, a1, a2, a3, .int x, a5] st h r ↔ gm_Go E d 122 127 [a0, a1, a2, a3, .int x, a5] (.int x :: st) h r := gr_loc m122 f122_125 rfl rfl
theorem f122_127 : gm_ft 122 127 = some (.iconst 1, 1) := by decide +kernel
theorem r122_127 {E : Nat → Value} {d : Nat} {st : List Value} {h : gm_H} {r : gm_R × gm_H} {lv : List Value} : gm_Go E d 122 127 lv st h r ↔ gm_Go E d 122 128 lv (.int (1 : Int32) :: st) h r := gr_pure m122 f122_127 rfl
theorem f122_128 : gm_ft 122 128 = some (.if_icmp .ne 20, 3) := by decide +kernel
theorem r122_128 {E : Nat → Value} {d : Nat} {st : List Value} {h : gm_H} {r : gm_R × gm_H} {lv : List Value} {x y : Int32} : gm_Go E d 122 128 lv (.int y :: .int x :: st) h r ↔ (if x = y then gm_Go E d 122 131 lv st h r else gm_Go E d 122 148 lv st h r) := (gr_br m122 f122_128 rfl rfl rfl rfl).trans gr_ifn
theorem f122_131 : gm_ft 122 131 = some (.aload_n 0, 1) := by decide +kernel
theorem r122_131 {E : Nat → Value} {d : Nat} {st : List Value} {h : gm_H} {r : gm_R × gm_H} {a1 a2 a3 a4 a5 : Value} {x : Nat} : gm_Go E d 122 131 [.ref x, a1, a2, a3, a4, a5] st h r ↔ gm_Go E d 122 132 [.ref x, a1, a2, a3, a4, a5] (.ref x :: st) h r := gr_loc m122 f122_131 rfl rfl
theorem r122_131n {E : Nat → Value} {d : Nat} {st : List Value} {h : gm_H} {r : gm_R × gm_H} {a1 a2 a3 a4 a5 : Value}  : gm_Go E d 122 131 [.null, a1, a2, a3, a4, a5] st h r ↔ gm_Go E d 122 132 [.null, a1, a2, a3, a4, a5] (.null :: st) h r := gr_loc m122 f122_131 rfl rfl
theorem f122_132 : gm_ft 122 132 = some (.getfield 7, 3) := by decide +kernel
theorem r122_132 {E : Nat → Value} {d : Nat} {st : List Value} {h : gm_H} {r : gm_R × gm_H} {lv : List Value} {a : Nat} {vs : List Value} {v : Value} (hr : gm_rd h a = some (5, vs)) (hv : vs[4]? = some v) : gm_Go E d 122 132 lv (.ref a :: st) h r ↔ gm_Go E d 122 135 lv (v :: st) h r := gr_rd m122 f122_132 rfl rfl rfl rfl (gf_get k5_7 hr hv)
theorem f122_135 : gm_ft 122 135 = some (.aload_n 0, 1) := by decide +kernel
theorem r122_135 {E : Nat → Value} {d : Nat} {st : List Value} {h : gm_H} {r : gm_R × gm_H} {a1 a2 a3 a4 a5 : Value} {x : Nat} : gm_Go E d 122 135 [.ref x, a1, a2, a3, a4, a5] st h r ↔ gm_Go E d 122 136 [.ref x, a1, a2, a3, a4, a5] (.ref x :: st) h r := gr_loc m122 f122_135 rfl rfl
theorem r122_135n {E : Nat → Value} {d : Nat} {st : List Value} {h : gm_H} {r : gm_R × gm_H} {a1 a2 a3 a4 a5 : Value}  : gm_Go E d 122 135 [.null, a1, a2, a3, a4, a5] st h r ↔ gm_Go E d 122 136 [.null, a1, a2, a3, a4, a5] (.null :: st) h r := gr_loc m122 f122_135 rfl rfl
theorem f122_136 : gm_ft 122 136 = some (.getfield 148, 3) := by decide +kernel
theorem r122_136 {E : Nat → Value} {d : Nat} {st : List Value} {h : gm_H} {r : gm_R × gm_H} {lv : List Value} {a : Nat} {vs : List Value} {v : Value} (hr : gm_rd h a = some (5, vs)) (hv : vs[6]? = some v) : gm_Go E d 122 136 lv (.ref a :: st) h r ↔ gm_Go E d 122 139 lv (v :: st) h r := gr_rd m122 f122_136 rfl rfl rfl rfl (gf_get k5_148 hr hv)
theorem f122_139 : gm_ft 122 139 = some (.iconst 1, 1) := by decide +kernel
theorem r122_139 {E : Nat → Value} {d : Nat} {st : List Value} {h : gm_H} {r : gm_R × gm_H} {lv : List Value} : gm_Go E d 122 139 lv st h r ↔ gm_Go E d 122 140 lv (.int (1 : Int32) :: st) h r := gr_pure m122 f122_139 rfl
theorem f122_140 : gm_ft 122 140 = some (.isub, 1) := by decide +kernel
theorem r122_140 {E : Nat → Value} {d : Nat} {st : List Value} {h : gm_H} {r : gm_R × gm_H} {lv : List Value} {x y : Int32} : gm_Go E d 122 140 lv (.int y :: .int x :: st) h r ↔ gm_Go E d 122 141 lv (.int (x - y) :: st) h r := gr_pure m122 f122_140 rfl
theorem f122_141 : gm_ft 122 141 = some (.iaload, 1) := by decide +kernel
theorem r122_141 {E : Nat → Value} {d : Nat} {st : List Value} {h : gm_H} {r : gm_R × gm_H} {lv : List Value} {a k j : Nat} {vs : List Value} {v : Value} (hr : gm_rd h a = some (k, vs)) (hk : 100 ≤ k ∧ (fun t => t == 0) (k % 100) = true) (hj : j < 2 ^ 31) (hv : vs[j]? = some v) : gm_Go E d 122 141 lv (.int (nI j) :: .ref a :: st) h r ↔ gm_Go E d 122 142 lv (v :: st) h r := gr_rd m122 f122_141 rfl rfl rfl rfl (ga_ld (P := fun t => t == 0) hr hk hj hv)
theorem f122_142 : gm_ft 122 142 = some (.bipush 97, 2) := by decide +kernel
theorem r122_142 {E : Nat → Value} {d : Nat} {st : List Value} {h : gm_H} {r : gm_R × gm_H} {lv : List Value} : gm_Go E d 122 142 lv st h r ↔ gm_Go E d 122 144 lv (.int (97 : Int32) :: st) h r := gr_pure m122 f122_142 rfl
theorem f122_144 : gm_ft 122 144 = some (.isub, 1) := by decide +kernel
theorem r122_144 {E : Nat → Value} {d : Nat} {st : List Value} {h : gm_H} {r : gm_R × gm_H} {lv : List Value} {x y : Int32} : gm_Go E d 122 144 lv (.int y :: .int x :: st) h r ↔ gm_Go E d 122 145 lv (.int (x - y) :: st) h r := gr_pure m122 f122_144 rfl
theorem f122_145 : gm_ft 122 145 = some (.goto 4, 3) := by decide +kernel
theorem r122_145 {E : Nat → Value} {d : Nat} {st : List Value} {h : gm_H} {r : gm_R × gm_H} {lv : List Value} : gm_Go E d 122 145 lv st h r ↔ gm_Go E d 122 149 lv st h r := gr_brT m122 f122_145 rfl rfl rfl rfl
theorem f122_148 : gm_ft 122 148 = some (.iconst (-1), 1) := by decide +kernel
theorem r122_148 {E : Nat → Value} {d : Nat} {st : List Value} {h : gm_H} {r : gm_R × gm_H} {lv : List Value} : gm_Go E d 122 148 lv st h r ↔ gm_Go E d 122 149 lv (.int (-1 : Int32) :: st) h r := gr_pure m122 f122_148 rfl
theorem f122_149 : gm_ft 122 149 = some (.istore 5, 2) := by decide +kernel
theorem r122_149 {E : Nat → Value} {d : Nat} {st : List Value} {h : gm_H} {r : gm_R × gm_H} {a0 a1 a2 a3 a4 a5 : Value} {x : Int32} : gm_Go E d 122 149 [a0, a1, a2, a3, a4, a5] (.int x :: st) h r ↔ gm_Go E d 122 151 [a0, a1, a2, a3, gm_k a4, .int x] st h r := gr_loc m122 f122_149 rfl rfl
theorem f122_151 : gm_ft 122 151 = some (.aload_n 0, 1) := by decide +kernel
theorem r122_151 {E : Nat → Value} {d : Nat} {st : List Value} {h : gm_H} {r : gm_R × gm_H} {a1 a2 a3 a4 a5 : Value} {x : Nat} : gm_Go E d 122 151 [.ref x, a1, a2, a3, a4, a5] st h r ↔ gm_Go E d 122 152 [.ref x, a1, a2, a3, a4, a5] (.ref x :: st) h r := gr_loc m122 f122_151 rfl rfl
theorem r122_151n {E : Nat → Value} {d : Nat} {st : List Value} {h : gm_H} {r : gm_R × gm_H} {a1 a2 a3 a4 a5 : Value}  : gm_Go E d 122 151 [.null, a1, a2, a3, a4, a5] st h r ↔ gm_Go E d 122 152 [.null, a1, a2, a3, a4, a5] (.null :: st) h r := gr_loc m122 f122_151 rfl rfl
theorem f122_152 : gm_ft 122 152 = some (.getfield 84, 3) := by decide +kernel
theorem r122_152 {E : Nat → Value} {d : Nat} {st : List Value} {h : gm_H} {r : gm_R × gm_H} {lv : List Value} {a : Nat} {vs : List Value} {v : Value} (hr : gm_rd h a = some (5, vs)) (hv : vs[36]? = some v) : gm_Go E d 122 152 lv (.ref a :: st) h r ↔ gm_Go E d 122 155 lv (v :: st) h r := gr_rd m122 f122_152 rfl rfl rfl rfl (gf_get k5_84 hr hv)
theorem f122_155 : gm_ft 122 155 = some (.bipush 8, 2) := by decide +kernel
theorem r122_155 {E : Nat → Value} {d : Nat} {st : List Value} {h : gm_H} {r : gm_R × gm_H} {lv : List Value} : gm_Go E d 122 155 lv st h r ↔ gm_Go E d 122 157 lv (.int (8 : Int32) :: st) h r := gr_pure m122 f122_155 rfl
theorem f122_157 : gm_ft 122 157 = some (.iload_n 2, 1) := by decide +kernel
theorem r122_157 {E : Nat → Value} {d : Nat} {st : List Value} {h : gm_H} {r : gm_R × gm_H} {a0 a1 a3 a4 a5 : Value} {x : Int32} : gm_Go E d 122 157 [a0, a1, .int x, a3, a4, a5] st h r ↔ gm_Go E d 122 158 [a0, a1, .int x, a3, a4, a5] (.int x :: st) h r := gr_loc m122 f122_157 rfl rfl
theorem f122_158 : gm_ft 122 158 = some (.imul, 1) := by decide +kernel
theorem r122_158 {E : Nat → Value} {d : Nat} {st : List Value} {h : gm_H} {r : gm_R × gm_H} {lv : List Value} {x y : Int32} : gm_Go E d 122 158 lv (.int y :: .int x :: st) h r ↔ gm_Go E d 122 159 lv (.int (x * y) :: st) h r := gr_pure m122 f122_158 rfl
theorem f122_159 : gm_ft 122 159 = some (.aload_n 0, 1) := by decide +kernel
theorem r122_159 {E : Nat → Value} {d : Nat} {st : List Value} {h : gm_H} {r : gm_R × gm_H} {a1 a2 a3 a4 a5 : Value} {x : Nat} : gm_Go E d 122 159 [.ref x, a1, a2, a3, a4, a5] st h r ↔ gm_Go E d 122 160 [.ref x, a1, a2, a3, a4, a5] (.ref x :: st) h r := gr_loc m122 f122_159 rfl rfl
theorem r122_159n {E : Nat → Value} {d : Nat} {st : List Value} {h : gm_H} {r : gm_R × gm_H} {a1 a2 a3 a4 a5 : Value}  : gm_Go E d 122 159 [.null, a1, a2, a3, a4, a5] st h r ↔ gm_Go E d 122 160 [.null, a1, a2, a3, a4, a5] (.null :: st) h r := gr_loc m122 f122_159 rfl rfl
theorem f122_160 : gm_ft 122 160 = some (.getfield 108, 3) := by decide +kernel
theorem r122_160 {E : Nat → Value} {d : Nat} {st : List Value} {h : gm_H} {r : gm_R × gm_H} {lv : List Value} {a : Nat} {vs : List Value} {v : Value} (hr : gm_rd h a = some (5, vs)) (hv : vs[45]? = some v) : gm_Go E d 122 160 lv (.ref a :: st) h r ↔ gm_Go E d 122 163 lv (v :: st) h r := gr_rd m122 f122_160 rfl rfl rfl rfl (gf_get k5_108 hr hv)
theorem f122_163 : gm_ft 122 163 = some (.iload_n 1, 1) := by decide +kernel
theorem r122_163 {E : Nat → Value} {d : Nat} {st : List Value} {h : gm_H} {r : gm_R × gm_H} {a0 a2 a3 a4 a5 : Value} {x : Int32} : gm_Go E d 122 163 [a0, .int x, a2, a3, a4, a5] st h r ↔ gm_Go E d 122 164 [a0, .int x, a2, a3, a4, a5] (.int x :: st) h r := gr_loc m122 f122_163 rfl rfl
theorem f122_164 : gm_ft 122 164 = some (.iaload, 1) := by decide +kernel
theorem r122_164 {E : Nat → Value} {d : Nat} {st : List Value} {h : gm_H} {r : gm_R × gm_H} {lv : List Value} {a k j : Nat} {vs : List Value} {v : Value} (hr : gm_rd h a = some (k, vs)) (hk : 100 ≤ k ∧ (fun t => t == 0) (k % 100) = true) (hj : j < 2 ^ 31) (hv : vs[j]? = some v) : gm_Go E d 122 164 lv (.int (nI j) :: .ref a :: st) h r ↔ gm_Go E d 122 165 lv (v :: st) h r := gr_rd m122 f122_164 rfl rfl rfl rfl (ga_ld (P := fun t => t == 0) hr hk hj hv)
theorem f122_165 : gm_ft 122 165 = some (.iadd, 1) := by decide +kernel
theorem r122_165 {E : Nat → Value} {d : Nat} {st : List Value} {h : gm_H} {r : gm_R × gm_H} {lv : List Value} {x y : Int32} : gm_Go E d 122 165 lv (.int y :: .int x :: st) h r ↔ gm_Go E d 122 166 lv (.int (x + y) :: st) h r := gr_pure m122 f122_165 rfl
theorem f122_166 : gm_ft 122 166 = some (.aload_n 0, 1) := by decide +kernel
theorem r122_166 {E : Nat → Value} {d : Nat} {st : List Value} {h : gm_H} {r : gm_R × gm_H} {a1 a2 a3 a4 a5 : Value} {x : Nat} : gm_Go E d 122 166 [.ref x, a1, a2, a3, a4, a5] st h r ↔ gm_Go E d 122 167 [.ref x, a1, a2, a3, a4, a5] (.ref x :: st) h r := gr_loc m122 f122_166 rfl rfl
theorem r122_166n {E : Nat → Value} {d : Nat} {st : List Value} {h : gm_H} {r : gm_R × gm_H} {a1 a2 a3 a4 a5 : Value}  : gm_Go E d 122 166 [.null, a1, a2, a3, a4, a5] st h r ↔ gm_Go E d 122 167 [.null, a1, a2, a3, a4, a5] (.null :: st) h r := gr_loc m122 f122_166 rfl rfl
theorem f122_167 : gm_ft 122 167 = some (.iload 5, 2) := by decide +kernel
theorem r122_167 {E : Nat → Value} {d : Nat} {st : List Value} {h : gm_H} {r : gm_R × gm_H} {a0 a1 a2 a3 a4 : Value} {x : Int32} : gm_Go E d 122 167 [a0, a1, a2, a3, a4, .int x] st h r ↔ gm_Go E d 122 169 [a0, a1, a2, a3, a4, .int x] (.int x :: st) h r := gr_loc m122 f122_167 rfl rfl
theorem f122_169 : gm_ft 122 169 = some (.bipush 26, 2) := by decide +kernel
theorem r122_169 {E : Nat → Value} {d : Nat} {st : List Value} {h : gm_H} {r : gm_R × gm_H} {lv : List Value} : gm_Go E d 122 169 lv st h r ↔ gm_Go E d 122 171 lv (.int (26 : Int32) :: st) h r := gr_pure m122 f122_169 rfl
theorem f122_171 : gm_ft 122 171 = some (.invokevirtual 131, 3) := by decide +kernel
theorem n122_171 {st : List Value} {h : gm_H} {E : Nat → Value} {lv : List Value} {b0 b1 : Value} {a : Nat} (hs : (st.map fun v => v.category).sum ≤ 8) (he : (gm_en1 [.ref a, b0, b1]).length ≤ 3) {vs : List Value} (hr : gm_rd h a = some (5, vs)) : gm_next E 122 171 lv (b1 :: b0 :: .ref a :: st) h = some (.inr (.inl (0, 92, [.ref a, b0, b1], st))) := gn_call m122 f122_171 rfl rfl rfl rfl rfl rfl rfl (gc_virt (bs := [b1, b0]) (w := 820) rfl rfl rfl rfl hs he hr) (by decide)
theorem f122_174 : gm_ft 122 174 = some (.ifCond .eq 7, 3) := by decide +kernel
theorem r122_174 {E : Nat → Value} {d : Nat} {st : List Value} {h : gm_H} {r : gm_R × gm_H} {lv : List Value} {x : Int32} : gm_Go E d 122 174 lv (.int x :: st) h r ↔ (if x = 0 then gm_Go E d 122 181 lv st h r else gm_Go E d 122 177 lv st h r) := (gr_br m122 f122_174 rfl rfl rfl rfl).trans gr_if
theorem f122_177 : gm_ft 122 177 = some (.iconst (-1), 1) := by decide +kernel
theorem r122_177 {E : Nat → Value} {d : Nat} {st : List Value} {h : gm_H} {r : gm_R × gm_H} {lv : List Value} : gm_Go E d 122 177 lv st h r ↔ gm_Go E d 122 178 lv (.int (-1 : Int32) :: st) h r := gr_pure m122 f122_177 rfl
theorem f122_178 : gm_ft 122 178 = some (.goto 5, 3) := by decide +kernel
theorem r122_178 {E : Nat → Value} {d : Nat} {st : List Value} {h : gm_H} {r : gm_R × gm_H} {lv : List Value} : gm_Go E d 122 178 lv st h r ↔ gm_Go E d 122 183 lv st h r := gr_brT m122 f122_178 rfl rfl rfl rfl
theorem f122_181 : gm_ft 122 181 = some (.iload 5, 2) := by decide +kernel
theorem r122_181 {E : Nat → Value} {d : Nat} {st : List Value} {h : gm_H} {r : gm_R × gm_H} {a0 a1 a2 a3 a4 : Value} {x : Int32} : gm_Go E d 122 181 [a0, a1, a2, a3, a4, .int x] st h r ↔ gm_Go E d 122 183 [a0, a1, a2, a3, a4, .int x] (.int x :: st) h r := gr_loc m122 f122_181 rfl rfl
theorem f122_183 : gm_ft 122 183 = some (.iastore, 1) := by decide +kernel
theorem r122_183 {E : Nat → Value} {d : Nat} {st : List Value} {h : gm_H} {r : gm_R × gm_H} {lv : List Value} {a k j : Nat} {vs : List Value} {x : Int32} (hr : gm_rd h a = some (k, vs)) (hk : 100 ≤ k ∧ k % 100 = 0 ∧ gm_ko k = 2 ∧ 2 < 3) (hj : j < 2 ^ 31) (hl : j < vs.length) : gm_Go E d 122 183 lv (.int x :: .int (nI j) :: .ref a :: st) h r ↔ gm_Go E d 122 184 lv st (gm_wr h a (k, vs.set j (.int x))) r := gr_wr m122 f122_183 rfl rfl rfl rfl rfl (ga_st hr hk hj hl)
theorem f122_184 : gm_ft 122 184 = some (.aload_n 0, 1) := by decide +kernel
theorem r122_184 {E : Nat → Value} {d : Nat} {st : List Value} {h : gm_H} {r : gm_R × gm_H} {a1 a2 a3 a4 a5 : Value} {x : Nat} : gm_Go E d 122 184 [.ref x, a1, a2, a3, a4, a5] st h r ↔ gm_Go E d 122 185 [.ref x, a1, a2, a3, a4, a5] (.ref x :: st) h r := gr_loc m122 f122_184 rfl rfl
theorem r122_184n {E : Nat → Value} {d : Nat} {st : List Value} {h : gm_H} {r : gm_R × gm_H} {a1 a2 a3 a4 a5 : Value}  : gm_Go E d 122 184 [.null, a1, a2, a3, a4, a5] st h r ↔ gm_Go E d 122 185 [.null, a1, a2, a3, a4, a5] (.null :: st) h r := gr_loc m122 f122_184 rfl rfl
theorem f122_185 : gm_ft 122 185 = some (.getfield 87, 3) := by decide +kernel
theorem r122_185 {E : Nat → Value} {d : Nat} {st : List Value} {h : gm_H} {r : gm_R × gm_H} {lv : List Value} {a : Nat} {vs : List Value} {v : Value} (hr : gm_rd h a = some (5, vs)) (hv : vs[37]? = some v) : gm_Go E d 122 185 lv (.ref a :: st) h r ↔ gm_Go E d 122 188 lv (v :: st) h r := gr_rd m122 f122_185 rfl rfl rfl rfl (gf_get k5_87 hr hv)
theorem f122_188 : gm_ft 122 188 = some (.bipush 8, 2) := by decide +kernel
theorem r122_188 {E : Nat → Value} {d : Nat} {st : List Value} {h : gm_H} {r : gm_R × gm_H} {lv : List Value} : gm_Go E d 122 188 lv st h r ↔ gm_Go E d 122 190 lv (.int (8 : Int32) :: st) h r := gr_pure m122 f122_188 rfl
theorem f122_190 : gm_ft 122 190 = some (.iload_n 2, 1) := by decide +kernel
theorem r122_190 {E : Nat → Value} {d : Nat} {st : List Value} {h : gm_H} {r : gm_R × gm_H} {a0 a1 a3 a4 a5 : Value} {x : Int32} : gm_Go E d 122 190 [a0, a1, .int x, a3, a4, a5] st h r ↔ gm_Go E d 122 191 [a0, a1, .int x, a3, a4, a5] (.int x :: st) h r := gr_loc m122 f122_190 rfl rfl
theorem f122_191 : gm_ft 122 191 = some (.imul, 1) := by decide +kernel
theorem r122_191 {E : Nat → Value} {d : Nat} {st : List Value} {h : gm_H} {r : gm_R × gm_H} {lv : List Value} {x y : Int32} : gm_Go E d 122 191 lv (.int y :: .int x :: st) h r ↔ gm_Go E d 122 192 lv (.int (x * y) :: st) h r := gr_pure m122 f122_191 rfl
theorem f122_192 : gm_ft 122 192 = some (.aload_n 0, 1) := by decide +kernel
theorem r122_192 {E : Nat → Value} {d : Nat} {st : List Value} {h : gm_H} {r : gm_R × gm_H} {a1 a2 a3 a4 a5 : Value} {x : Nat} : gm_Go E d 122 192 [.ref x, a1, a2, a3, a4, a5] st h r ↔ gm_Go E d 122 193 [.ref x, a1, a2, a3, a4, a5] (.ref x :: st) h r := gr_loc m122 f122_192 rfl rfl
theorem r122_192n {E : Nat → Value} {d : Nat} {st : List Value} {h : gm_H} {r : gm_R × gm_H} {a1 a2 a3 a4 a5 : Value}  : gm_Go E d 122 192 [.null, a1, a2, a3, a4, a5] st h r ↔ gm_Go E d 122 193 [.null, a1, a2, a3, a4, a5] (.null :: st) h r := gr_loc m122 f122_192 rfl rfl
theorem f122_193 : gm_ft 122 193 = some (.getfield 108, 3) := by decide +kernel
theorem r122_193 {E : Nat → Value} {d : Nat} {st : List Value} {h : gm_H} {r : gm_R × gm_H} {lv : List Value} {a : Nat} {vs : List Value} {v : Value} (hr : gm_rd h a = some (5, vs)) (hv : vs[45]? = some v) : gm_Go E d 122 193 lv (.ref a :: st) h r ↔ gm_Go E d 122 196 lv (v :: st) h r := gr_rd m122 f122_193 rfl rfl rfl rfl (gf_get k5_108 hr hv)
theorem f122_196 : gm_ft 122 196 = some (.iload_n 1, 1) := by decide +kernel
theorem r122_196 {E : Nat → Value} {d : Nat} {st : List Value} {h : gm_H} {r : gm_R × gm_H} {a0 a2 a3 a4 a5 : Value} {x : Int32} : gm_Go E d 122 196 [a0, .int x, a2, a3, a4, a5] st h r ↔ gm_Go E d 122 197 [a0, .int x, a2, a3, a4, a5] (.int x :: st) h r := gr_loc m122 f122_196 rfl rfl
theorem f122_197 : gm_ft 122 197 = some (.iaload, 1) := by decide +kernel
theorem r122_197 {E : Nat → Value} {d : Nat} {st : List Value} {h : gm_H} {r : gm_R × gm_H} {lv : List Value} {a k j : Nat} {vs : List Value} {v : Value} (hr : gm_rd h a = some (k, vs)) (hk : 100 ≤ k ∧ (fun t => t == 0) (k % 100) = true) (hj : j < 2 ^ 31) (hv : vs[j]? = some v) : gm_Go E d 122 197 lv (.int (nI j) :: .ref a :: st) h r ↔ gm_Go E d 122 198 lv (v :: st) h r := gr_rd m122 f122_197 rfl rfl rfl rfl (ga_ld (P := fun t => t == 0) hr hk hj hv)
theorem f122_198 : gm_ft 122 198 = some (.iadd, 1) := by decide +kernel
theorem r122_198 {E : Nat → Value} {d : Nat} {st : List Value} {h : gm_H} {r : gm_R × gm_H} {lv : List Value} {x y : Int32} : gm_Go E d 122 198 lv (.int y :: .int x :: st) h r ↔ gm_Go E d 122 199 lv (.int (x + y) :: st) h r := gr_pure m122 f122_198 rfl
theorem f122_199 : gm_ft 122 199 = some (.iload_n 3, 1) := by decide +kernel
theorem r122_199 {E : Nat → Value} {d : Nat} {st : List Value} {h : gm_H} {r : gm_R × gm_H} {a0 a1 a2 a4 a5 : Value} {x : Int32} : gm_Go E d 122 199 [a0, a1, a2, .int x, a4, a5] st h r ↔ gm_Go E d 122 200 [a0, a1, a2, .int x, a4, a5] (.int x :: st) h r := gr_loc m122 f122_199 rfl rfl
theorem f122_200 : gm_ft 122 200 = some (.iastore, 1) := by decide +kernel
theorem r122_200 {E : Nat → Value} {d : Nat} {st : List Value} {h : gm_H} {r : gm_R × gm_H} {lv : List Value} {a k j : Nat} {vs : List Value} {x : Int32} (hr : gm_rd h a = some (k, vs)) (hk : 100 ≤ k ∧ k % 100 = 0 ∧ gm_ko k = 2 ∧ 2 < 3) (hj : j < 2 ^ 31) (hl : j < vs.length) : gm_Go E d 122 200 lv (.int x :: .int (nI j) :: .ref a :: st) h r ↔ gm_Go E d 122 201 lv st (gm_wr h a (k, vs.set j (.int x))) r := gr_wr m122 f122_200 rfl rfl rfl rfl rfl (ga_st hr hk hj hl)
theorem f122_201 : gm_ft 122 201 = some (.aload_n 0, 1) := by decide +kernel
theorem r122_201 {E : Nat → Value} {d : Nat} {st : List Value} {h : gm_H} {r : gm_R × gm_H} {a1 a2 a3 a4 a5 : Value} {x : Nat} : gm_Go E d 122 201 [.ref x, a1, a2, a3, a4, a5] st h r ↔ gm_Go E d 122 202 [.ref x, a1, a2, a3, a4, a5] (.ref x :: st) h r := gr_loc m122 f122_201 rfl rfl
theorem r122_201n {E : Nat → Value} {d : Nat} {st : List Value} {h : gm_H} {r : gm_R × gm_H} {a1 a2 a3 a4 a5 : Value}  : gm_Go E d 122 201 [.null, a1, a2, a3, a4, a5] st h r ↔ gm_Go E d 122 202 [.null, a1, a2, a3, a4, a5] (.null :: st) h r := gr_loc m122 f122_201 rfl rfl
theorem f122_202 : gm_ft 122 202 = some (.getfield 108, 3) := by decide +kernel
theorem r122_202 {E : Nat → Value} {d : Nat} {st : List Value} {h : gm_H} {r : gm_R × gm_H} {lv : List Value} {a : Nat} {vs : List Value} {v : Value} (hr : gm_rd h a = some (5, vs)) (hv : vs[45]? = some v) : gm_Go E d 122 202 lv (.ref a :: st) h r ↔ gm_Go E d 122 205 lv (v :: st) h r := gr_rd m122 f122_202 rfl rfl rfl rfl (gf_get k5_108 hr hv)
theorem f122_205 : gm_ft 122 205 = some (.iload_n 1, 1) := by decide +kernel
theorem r122_205 {E : Nat → Value} {d : Nat} {st : List Value} {h : gm_H} {r : gm_R × gm_H} {a0 a2 a3 a4 a5 : Value} {x : Int32} : gm_Go E d 122 205 [a0, .int x, a2, a3, a4, a5] st h r ↔ gm_Go E d 122 206 [a0, .int x, a2, a3, a4, a5] (.int x :: st) h r := gr_loc m122 f122_205 rfl rfl
theorem f122_206 : gm_ft 122 206 = some (.dup2, 1) := by decide +kernel
theorem r122_206 {E : Nat → Value} {d : Nat} {st : List Value} {h : gm_H} {r : gm_R × gm_H} {lv : List Value} {x : Int32} {a : Nat} : gm_Go E d 122 206 lv (.int x :: .ref a :: st) h r ↔ gm_Go E d 122 207 lv (.int x :: .ref a :: .int x :: .ref a :: st) h r := gr_pure m122 f122_206 rfl
theorem f122_207 : gm_ft 122 207 = some (.iaload, 1) := by decide +kernel
theorem r122_207 {E : Nat → Value} {d : Nat} {st : List Value} {h : gm_H} {r : gm_R × gm_H} {lv : List Value} {a k j : Nat} {vs : List Value} {v : Value} (hr : gm_rd h a = some (k, vs)) (hk : 100 ≤ k ∧ (fun t => t == 0) (k % 100) = true) (hj : j < 2 ^ 31) (hv : vs[j]? = some v) : gm_Go E d 122 207 lv (.int (nI j) :: .ref a :: st) h r ↔ gm_Go E d 122 208 lv (v :: st) h r := gr_rd m122 f122_207 rfl rfl rfl rfl (ga_ld (P := fun t => t == 0) hr hk hj hv)
theorem f122_208 : gm_ft 122 208 = some (.iconst 1, 1) := by decide +kernel
theorem r122_208 {E : Nat → Value} {d : Nat} {st : List Value} {h : gm_H} {r : gm_R × gm_H} {lv : List Value} : gm_Go E d 122 208 lv st h r ↔ gm_Go E d 122 209 lv (.int (1 : Int32) :: st) h r := gr_pure m122 f122_208 rfl
theorem f122_209 : gm_ft 122 209 = some (.iadd, 1) := by decide +kernel
theorem r122_209 {E : Nat → Value} {d : Nat} {st : List Value} {h : gm_H} {r : gm_R × gm_H} {lv : List Value} {x y : Int32} : gm_Go E d 122 209 lv (.int y :: .int x :: st) h r ↔ gm_Go E d 122 210 lv (.int (x + y) :: st) h r := gr_pure m122 f122_209 rfl
theorem f122_210 : gm_ft 122 210 = some (.iastore, 1) := by decide +kernel
theorem r122_210 {E : Nat → Value} {d : Nat} {st : List Value} {h : gm_H} {r : gm_R × gm_H} {lv : List Value} {a k j : Nat} {vs : List Value} {x : Int32} (hr : gm_rd h a = some (k, vs)) (hk : 100 ≤ k ∧ k % 100 = 0 ∧ gm_ko k = 2 ∧ 2 < 3) (hj : j < 2 ^ 31) (hl : j < vs.length) : gm_Go E d 122 210 lv (.int x :: .int (nI j) :: .ref a :: st) h r ↔ gm_Go E d 122 211 lv st (gm_wr h a (k, vs.set j (.int x))) r := gr_wr m122 f122_210 rfl rfl rfl rfl rfl (ga_st hr hk hj hl)
theorem f122_211 : gm_ft 122 211 = some (.iload_n 3, 1) := by decide +kernel
theorem r122_211 {E : Nat → Value} {d : Nat} {st : List Value} {h : gm_H} {r : gm_R × gm_H} {a0 a1 a2 a4 a5 : Value} {x : Int32} : gm_Go E d 122 211 [a0, a1, a2, .int x, a4, a5] st h r ↔ gm_Go E d 122 212 [a0, a1, a2, .int x, a4, a5] (.int x :: st) h r := gr_loc m122 f122_211 rfl rfl
theorem f122_212 : gm_ft 122 212 = some (.iconst 5, 1) := by decide +kernel
theorem r122_212 {E : Nat → Value} {d : Nat} {st : List Value} {h : gm_H} {r : gm_R × gm_H} {lv : List Value} : gm_Go E d 122 212 lv st h r ↔ gm_Go E d 122 213 lv (.int (5 : Int32) :: st) h r := gr_pure m122 f122_212 rfl
theorem f122_213 : gm_ft 122 213 = some (.if_icmp .le 25, 3) := by decide +kernel
theorem r122_213 {E : Nat → Value} {d : Nat} {st : List Value} {h : gm_H} {r : gm_R × gm_H} {lv : List Value} {x y : Int32} : gm_Go E d 122 213 lv (.int y :: .int x :: st) h r ↔ (if x ≤ y then gm_Go E d 122 238 lv st h r else gm_Go E d 122 216 lv st h r) := (gr_br m122 f122_213 rfl rfl rfl rfl).trans gr_if
theorem f122_216 : gm_ft 122 216 = some (.aload_n 0, 1) := by decide +kernel
theorem r122_216 {E : Nat → Value} {d : Nat} {st : List Value} {h : gm_H} {r : gm_R × gm_H} {a1 a2 a3 a4 a5 : Value} {x : Nat} : gm_Go E d 122 216 [.ref x, a1, a2, a3, a4, a5] st h r ↔ gm_Go E d 122 217 [.ref x, a1, a2, a3, a4, a5] (.ref x :: st) h r := gr_loc m122 f122_216 rfl rfl
theorem r122_216n {E : Nat → Value} {d : Nat} {st : List Value} {h : gm_H} {r : gm_R × gm_H} {a1 a2 a3 a4 a5 : Value}  : gm_Go E d 122 216 [.null, a1, a2, a3, a4, a5] st h r ↔ gm_Go E d 122 217 [.null, a1, a2, a3, a4, a5] (.null :: st) h r := gr_loc m122 f122_216 rfl rfl
theorem f122_217 : gm_ft 122 217 = some (.getfield 96, 3) := by decide +kernel
theorem r122_217 {E : Nat → Value} {d : Nat} {st : List Value} {h : gm_H} {r : gm_R × gm_H} {lv : List Value} {a : Nat} {vs : List Value} {v : Value} (hr : gm_rd h a = some (5, vs)) (hv : vs[41]? = some v) : gm_Go E d 122 217 lv (.ref a :: st) h r ↔ gm_Go E d 122 220 lv (v :: st) h r := gr_rd m122 f122_217 rfl rfl rfl rfl (gf_get k5_96 hr hv)
theorem f122_220 : gm_ft 122 220 = some (.iload_n 1, 1) := by decide +kernel
theorem r122_220 {E : Nat → Value} {d : Nat} {st : List Value} {h : gm_H} {r : gm_R × gm_H} {a0 a2 a3 a4 a5 : Value} {x : Int32} : gm_Go E d 122 220 [a0, .int x, a2, a3, a4, a5] st h r ↔ gm_Go E d 122 221 [a0, .int x, a2, a3, a4, a5] (.int x :: st) h r := gr_loc m122 f122_220 rfl rfl
theorem f122_221 : gm_ft 122 221 = some (.iconst 2, 1) := by decide +kernel
theorem r122_221 {E : Nat → Value} {d : Nat} {st : List Value} {h : gm_H} {r : gm_R × gm_H} {lv : List Value} : gm_Go E d 122 221 lv st h r ↔ gm_Go E d 122 222 lv (.int (2 : Int32) :: st) h r := gr_pure m122 f122_221 rfl
theorem f122_222 : gm_ft 122 222 = some (.iastore, 1) := by decide +kernel
theorem r122_222 {E : Nat → Value} {d : Nat} {st : List Value} {h : gm_H} {r : gm_R × gm_H} {lv : List Value} {a k j : Nat} {vs : List Value} {x : Int32} (hr : gm_rd h a = some (k, vs)) (hk : 100 ≤ k ∧ k % 100 = 0 ∧ gm_ko k = 2 ∧ 2 < 3) (hj : j < 2 ^ 31) (hl : j < vs.length) : gm_Go E d 122 222 lv (.int x :: .int (nI j) :: .ref a :: st) h r ↔ gm_Go E d 122 223 lv st (gm_wr h a (k, vs.set j (.int x))) r := gr_wr m122 f122_222 rfl rfl rfl rfl rfl (ga_st hr hk hj hl)
theorem f122_223 : gm_ft 122 223 = some (.aload_n 0, 1) := by decide +kernel
theorem r122_223 {E : Nat → Value} {d : Nat} {st : List Value} {h : gm_H} {r : gm_R × gm_H} {a1 a2 a3 a4 a5 : Value} {x : Nat} : gm_Go E d 122 223 [.ref x, a1, a2, a3, a4, a5] st h r ↔ gm_Go E d 122 224 [.ref x, a1, a2, a3, a4, a5] (.ref x :: st) h r := gr_loc m122 f122_223 rfl rfl
theorem r122_223n {E : Nat → Value} {d : Nat} {st : List Value} {h : gm_H} {r : gm_R × gm_H} {a1 a2 a3 a4 a5 : Value}  : gm_Go E d 122 223 [.null, a1, a2, a3, a4, a5] st h r ↔ gm_Go E d 122 224 [.null, a1, a2, a3, a4, a5] (.null :: st) h r := gr_loc m122 f122_223 rfl rfl
theorem f122_224 : gm_ft 122 224 = some (.iconst 1, 1) := by decide +kernel
theorem r122_224 {E : Nat → Value} {d : Nat} {st : List Value} {h : gm_H} {r : gm_R × gm_H} {lv : List Value} : gm_Go E d 122 224 lv st h r ↔ gm_Go E d 122 225 lv (.int (1 : Int32) :: st) h r := gr_pure m122 f122_224 rfl
theorem f122_225 : gm_ft 122 225 = some (.aload_n 0, 1) := by decide +kernel
theorem r122_225 {E : Nat → Value} {d : Nat} {st : List Value} {h : gm_H} {r : gm_R × gm_H} {a1 a2 a3 a4 a5 : Value} {x : Nat} : gm_Go E d 122 225 [.ref x, a1, a2, a3, a4, a5] st h r ↔ gm_Go E d 122 226 [.ref x, a1, a2, a3, a4, a5] (.ref x :: st) h r := gr_loc m122 f122_225 rfl rfl
theorem r122_225n {E : Nat → Value} {d : Nat} {st : List Value} {h : gm_H} {r : gm_R × gm_H} {a1 a2 a3 a4 a5 : Value}  : gm_Go E d 122 225 [.null, a1, a2, a3, a4, a5] st h r ↔ gm_Go E d 122 226 [.null, a1, a2, a3, a4, a5] (.null :: st) h r := gr_loc m122 f122_225 rfl rfl
theorem f122_226 : gm_ft 122 226 = some (.getfield 99, 3) := by decide +kernel
theorem r122_226 {E : Nat → Value} {d : Nat} {st : List Value} {h : gm_H} {r : gm_R × gm_H} {lv : List Value} {a : Nat} {vs : List Value} {v : Value} (hr : gm_rd h a = some (5, vs)) (hv : vs[42]? = some v) : gm_Go E d 122 226 lv (.ref a :: st) h r ↔ gm_Go E d 122 229 lv (v :: st) h r := gr_rd m122 f122_226 rfl rfl rfl rfl (gf_get k5_99 hr hv)
theorem f122_229 : gm_ft 122 229 = some (.iload_n 1, 1) := by decide +kernel
theorem r122_229 {E : Nat → Value} {d : Nat} {st : List Value} {h : gm_H} {r : gm_R × gm_H} {a0 a2 a3 a4 a5 : Value} {x : Int32} : gm_Go E d 122 229 [a0, .int x, a2, a3, a4, a5] st h r ↔ gm_Go E d 122 230 [a0, .int x, a2, a3, a4, a5] (.int x :: st) h r := gr_loc m122 f122_229 rfl rfl
theorem f122_230 : gm_ft 122 230 = some (.iaload, 1) := by decide +kernel
theorem r122_230 {E : Nat → Value} {d : Nat} {st : List Value} {h : gm_H} {r : gm_R × gm_H} {lv : List Value} {a k j : Nat} {vs : List Value} {v : Value} (hr : gm_rd h a = some (k, vs)) (hk : 100 ≤ k ∧ (fun t => t == 0) (k % 100) = true) (hj : j < 2 ^ 31) (hv : vs[j]? = some v) : gm_Go E d 122 230 lv (.int (nI j) :: .ref a :: st) h r ↔ gm_Go E d 122 231 lv (v :: st) h r := gr_rd m122 f122_230 rfl rfl rfl rfl (ga_ld (P := fun t => t == 0) hr hk hj hv)
theorem f122_231 : gm_ft 122 231 = some (.iconst 1, 1) := by decide +kernel
theorem r122_231 {E : Nat → Value} {d : Nat} {st : List Value} {h : gm_H} {r : gm_R × gm_H} {lv : List Value} : gm_Go E d 122 231 lv st h r ↔ gm_Go E d 122 232 lv (.int (1 : Int32) :: st) h r := gr_pure m122 f122_231 rfl
theorem f122_232 : gm_ft 122 232 = some (.iadd, 1) := by decide +kernel
theorem r122_232 {E : Nat → Value} {d : Nat} {st : List Value} {h : gm_H} {r : gm_R × gm_H} {lv : List Value} {x y : Int32} : gm_Go E d 122 232 lv (.int y :: .int x :: st) h r ↔ gm_Go E d 122 233 lv (.int (x + y) :: st) h r := gr_pure m122 f122_232 rfl
theorem f122_233 : gm_ft 122 233 = some (.iconst 0, 1) := by decide +kernel
theorem r122_233 {E : Nat → Value} {d : Nat} {st : List Value} {h : gm_H} {r : gm_R × gm_H} {lv : List Value} : gm_Go E d 122 233 lv st h r ↔ gm_Go E d 122 234 lv (.int (0 : Int32) :: st) h r := gr_pure m122 f122_233 rfl
theorem f122_234 : gm_ft 122 234 = some (.iconst 0, 1) := by decide +kernel
theorem r122_234 {E : Nat → Value} {d : Nat} {st : List Value} {h : gm_H} {r : gm_R × gm_H} {lv : List Value} : gm_Go E d 122 234 lv st h r ↔ gm_Go E d 122 235 lv (.int (0 : Int32) :: st) h r := gr_pure m122 f122_234 rfl
theorem f122_235 : gm_ft 122 235 = some (.invokevirtual 200, 3) := by decide +kernel
theorem n122_235 {st : List Value} {h : gm_H} {E : Nat → Value} {lv : List Value} {b0 b1 b2 b3 : Value} {a : Nat} (hs : (st.map fun v => v.category).sum ≤ 8) (he : (gm_en1 [.ref a, b0, b1, b2, b3]).length ≤ 5) {vs : List Value} (hr : gm_rd h a = some (5, vs)) : gm_next E 122 235 lv (b3 :: b2 :: b1 :: b0 :: .ref a :: st) h = some (.inr (.inl (0, 101, [.ref a, b0, b1, b2, b3], st))) := gn_call m122 f122_235 rfl rfl rfl rfl rfl rfl rfl (gc_virt (bs := [b3, b2, b1, b0]) (w := 856) rfl rfl rfl rfl hs he hr) (by decide)
theorem f122_238 : gm_ft 122 238 = some (.return_, 1) := by decide +kernel
theorem r122_238 {E : Nat → Value} {d : Nat} {h : gm_H} {r : gm_R × gm_H} {lv : List Value} : gm_Go E d 122 238 lv [] h r ↔ r = (.inl none, h) := gr_ret m122 f122_238 rfl rfl rfl rfl rfl rfl rfl rfl rfl
/-! GraphReaderModel.typeOf(I)I -/
theorem m123 : gm_mt[123]? = some (⟨"GraphReaderModel", "typeOf", "(I)I"⟩, prog_7_method_32_code, 2, (some .int), [], 5, 2) := rfl
theorem f123_0 : gm_ft 123 0 = some (.iload_n 1, 1) := by decide +kernel
theorem r123_0 {E : Nat → Value} {d : Nat} {st : List Value} {h : gm_H} {r : gm_R × gm_H} {a0 : Value} {x : Int32} : gm_Go E d 123 0 [a0, .int x] st h r ↔ gm_Go E d 123 1 [a0, .int x] (.int x :: st) h r := gr_loc m123 f123_0 rfl rfl
theorem f123_1 : gm_ft 123 1 = some (.bipush 66, 2) := by decide +kernel
theorem r123_1 {E : Nat → Value} {d : Nat} {st : List Value} {h : gm_H} {r : gm_R × gm_H} {lv : List Value} : gm_Go E d 123 1 lv st h r ↔ gm_Go E d 123 3 lv (.int (66 : Int32) :: st) h r := gr_pure m123 f123_1 rfl
theorem f123_3 : gm_ft 123 3 = some (.if_icmp .ne 7, 3) := by decide +kernel
theorem r123_3 {E : Nat → Value} {d : Nat} {st : List Value} {h : gm_H} {r : gm_R × gm_H} {lv : List Value} {x y : Int32} : gm_Go E d 123 3 lv (.int y :: .int x :: st) h r ↔ (if x = y then gm_Go E d 123 6 lv st h r else gm_Go E d 123 10 lv st h r) := (gr_br m123 f123_3 rfl rfl rfl rfl).trans gr_ifn
theorem f123_6 : gm_ft 123 6 = some (.iconst 0, 1) := by decide +kernel
theorem r123_6 {E : Nat → Value} {d : Nat} {st : List Value} {h : gm_H} {r : gm_R × gm_H} {lv : List Value} : gm_Go E d 123 6 lv st h r ↔ gm_Go E d 123 7 lv (.int (0 : Int32) :: st) h r := gr_pure m123 f123_6 rfl
theorem f123_7 : gm_ft 123 7 = some (.goto 76, 3) := by decide +kernel
theorem r123_7 {E : Nat → Value} {d : Nat} {st : List Value} {h : gm_H} {r : gm_R × gm_H} {lv : List Value} : gm_Go E d 123 7 lv st h r ↔ gm_Go E d 123 83 lv st h r := gr_brT m123 f123_7 rfl rfl rfl rfl
theorem f123_10 : gm_ft 123 10 = some (.iload_n 1, 1) := by decide +kernel
theorem r123_10 {E : Nat → Value} {d : Nat} {st : List Value} {h : gm_H} {r : gm_R × gm_H} {a0 : Value} {x : Int32} : gm_Go E d 123 10 [a0, .int x] st h r ↔ gm_Go E d 123 11 [a0, .int x] (.int x :: st) h r := gr_loc m123 f123_10 rfl rfl
theorem f123_11 : gm_ft 123 11 = some (.bipush 67, 2) := by decide +kernel
theorem r123_11 {E : Nat → Value} {d : Nat} {st : List Value} {h : gm_H} {r : gm_R × gm_H} {lv : List Value} : gm_Go E d 123 11 lv st h r ↔ gm_Go E d 123 13 lv (.int (67 : Int32) :: st) h r := gr_pure m123 f123_11 rfl
theorem f123_13 : gm_ft 123 13 = some (.if_icmp .ne 7, 3) := by decide +kernel
theorem r123_13 {E : Nat → Value} {d : Nat} {st : List Value} {h : gm_H} {r : gm_R × gm_H} {lv : List Value} {x y : Int32} : gm_Go E d 123 13 lv (.int y :: .int x :: st) h r ↔ (if x = y then gm_Go E d 123 16 lv st h r else gm_Go E d 123 20 lv st h r) := (gr_br m123 f123_13 rfl rfl rfl rfl).trans gr_ifn
theorem f123_16 : gm_ft 123 16 = some (.iconst 1, 1) := by decide +kernel
theorem r123_16 {E : Nat → Value} {d : Nat} {st : List Value} {h : gm_H} {r : gm_R × gm_H} {lv : List Value} : gm_Go E d 123 16 lv st h r ↔ gm_Go E d 123 17 lv (.int (1 : Int32) :: st) h r := gr_pure m123 f123_16 rfl
theorem f123_17 : gm_ft 123 17 = some (.goto 66, 3) := by decide +kernel
theorem r123_17 {E : Nat → Value} {d : Nat} {st : List Value} {h : gm_H} {r : gm_R × gm_H} {lv : List Value} : gm_Go E d 123 17 lv st h r ↔ gm_Go E d 123 83 lv st h r := gr_brT m123 f123_17 rfl rfl rfl rfl
theorem f123_20 : gm_ft 123 20 = some (.iload_n 1, 1) := by decide +kernel
theorem r123_20 {E : Nat → Value} {d : Nat} {st : List Value} {h : gm_H} {r : gm_R × gm_H} {a0 : Value} {x : Int32} : gm_Go E d 123 20 [a0, .int x] st h r ↔ gm_Go E d 123 21 [a0, .int x] (.int x :: st) h r := gr_loc m123 f123_20 rfl rfl
theorem f123_21 : gm_ft 123 21 = some (.bipush 73, 2) := by decide +kernel
theorem r123_21 {E : Nat → Value} {d : Nat} {st : List Value} {h : gm_H} {r : gm_R × gm_H} {lv : List Value} : gm_Go E d 123 21 lv st h r ↔ gm_Go E d 123 23 lv (.int (73 : Int32) :: st) h r := gr_pure m123 f123_21 rfl
theorem f123_23 : gm_ft 123 23 = some (.if_icmp .ne 7, 3) := by decide +kernel
theorem r123_23 {E : Nat → Value} {d : Nat} {st : List Value} {h : gm_H} {r : gm_R × gm_H} {lv : List Value} {x y : Int32} : gm_Go E d 123 23 lv (.int y :: .int x :: st) h r ↔ (if x = y then gm_Go E d 123 26 lv st h r else gm_Go E d 123 30 lv st h r) := (gr_br m123 f123_23 rfl rfl rfl rfl).trans gr_ifn
theorem f123_26 : gm_ft 123 26 = some (.iconst 2, 1) := by decide +kernel
theorem r123_26 {E : Nat → Value} {d : Nat} {st : List Value} {h : gm_H} {r : gm_R × gm_H} {lv : List Value} : gm_Go E d 123 26 lv st h r ↔ gm_Go E d 123 27 lv (.int (2 : Int32) :: st) h r := gr_pure m123 f123_26 rfl
theorem f123_27 : gm_ft 123 27 = some (.goto 56, 3) := by decide +kernel
theorem r123_27 {E : Nat → Value} {d : Nat} {st : List Value} {h : gm_H} {r : gm_R × gm_H} {lv : List Value} : gm_Go E d 123 27 lv st h r ↔ gm_Go E d 123 83 lv st h r := gr_brT m123 f123_27 rfl rfl rfl rfl
theorem f123_30 : gm_ft 123 30 = some (.iload_n 1, 1) := by decide +kernel
theorem r123_30 {E : Nat → Value} {d : Nat} {st : List Value} {h : gm_H} {r : gm_R × gm_H} {a0 : Value} {x : Int32} : gm_Go E d 123 30 [a0, .int x] st h r ↔ gm_Go E d 123 31 [a0, .int x] (.int x :: st) h r := gr_loc m123 f123_30 rfl rfl
theorem f123_31 : gm_ft 123 31 = some (.bipush 74, 2) := by decide +kernel
theorem r123_31 {E : Nat → Value} {d : Nat} {st : List Value} {h : gm_H} {r : gm_R × gm_H} {lv : List Value} : gm_Go E d 123 31 lv st h r ↔ gm_Go E d 123 33 lv (.int (74 : Int32) :: st) h r := gr_pure m123 f123_31 rfl
theorem f123_33 : gm_ft 123 33 = some (.if_icmp .ne 7, 3) := by decide +kernel
theorem r123_33 {E : Nat → Value} {d : Nat} {st : List Value} {h : gm_H} {r : gm_R × gm_H} {lv : List Value} {x y : Int32} : gm_Go E d 123 33 lv (.int y :: .int x :: st) h r ↔ (if x = y then gm_Go E d 123 36 lv st h r else gm_Go E d 123 40 lv st h r) := (gr_br m123 f123_33 rfl rfl rfl rfl).trans gr_ifn
theorem f123_36 : gm_ft 123 36 = some (.iconst 3, 1) := by decide +kernel
theorem r123_36 {E : Nat → Value} {d : Nat} {st : List Value} {h : gm_H} {r : gm_R × gm_H} {lv : List Value} : gm_Go E d 123 36 lv st h r ↔ gm_Go E d 123 37 lv (.int (3 : Int32) :: st) h r := gr_pure m123 f123_36 rfl
theorem f123_37 : gm_ft 123 37 = some (.goto 46, 3) := by decide +kernel
theorem r123_37 {E : Nat → Value} {d : Nat} {st : List Value} {h : gm_H} {r : gm_R × gm_H} {lv : List Value} : gm_Go E d 123 37 lv st h r ↔ gm_Go E d 123 83 lv st h r := gr_brT m123 f123_37 rfl rfl rfl rfl
theorem f123_40 : gm_ft 123 40 = some (.iload_n 1, 1) := by decide +kernel
theorem r123_40 {E : Nat → Value} {d : Nat} {st : List Value} {h : gm_H} {r : gm_R × gm_H} {a0 : Value} {x : Int32} : gm_Go E d 123 40 [a0, .int x] st h r ↔ gm_Go E d 123 41 [a0, .int x] (.int x :: st) h r := gr_loc m123 f123_40 rfl rfl
theorem f123_41 : gm_ft 123 41 = some (.bipush 83, 2) := by decide +kernel
theorem r123_41 {E : Nat → Value} {d : Nat} {st : List Value} {h : gm_H} {r : gm_R × gm_H} {lv : List Value} : gm_Go E d 123 41 lv st h r ↔ gm_Go E d 123 43 lv (.int (83 : Int32) :: st) h r := gr_pure m123 f123_41 rfl
theorem f123_43 : gm_ft 123 43 = some (.if_icmp .ne 7, 3) := by decide +kernel
theorem r123_43 {E : Nat → Value} {d : Nat} {st : List Value} {h : gm_H} {r : gm_R × gm_H} {lv : List Value} {x y : Int32} : gm_Go E d 123 43 lv (.int y :: .int x :: st) h r ↔ (if x = y then gm_Go E d 123 46 lv st h r else gm_Go E d 123 50 lv st h r) := (gr_br m123 f123_43 rfl rfl rfl rfl).trans gr_ifn
theorem f123_46 : gm_ft 123 46 = some (.iconst 4, 1) := by decide +kernel
theorem r123_46 {E : Nat → Value} {d : Nat} {st : List Value} {h : gm_H} {r : gm_R × gm_H} {lv : List Value} : gm_Go E d 123 46 lv st h r ↔ gm_Go E d 123 47 lv (.int (4 : Int32) :: st) h r := gr_pure m123 f123_46 rfl
theorem f123_47 : gm_ft 123 47 = some (.goto 36, 3) := by decide +kernel
theorem r123_47 {E : Nat → Value} {d : Nat} {st : List Value} {h : gm_H} {r : gm_R × gm_H} {lv : List Value} : gm_Go E d 123 47 lv st h r ↔ gm_Go E d 123 83 lv st h r := gr_brT m123 f123_47 rfl rfl rfl rfl
theorem f123_50 : gm_ft 123 50 = some (.iload_n 1, 1) := by decide +kernel
theorem r123_50 {E : Nat → Value} {d : Nat} {st : List Value} {h : gm_H} {r : gm_R × gm_H} {a0 : Value} {x : Int32} : gm_Go E d 123 50 [a0, .int x] st h r ↔ gm_Go E d 123 51 [a0, .int x] (.int x :: st) h r := gr_loc m123 f123_50 rfl rfl
theorem f123_51 : gm_ft 123 51 = some (.bipush 90, 2) := by decide +kernel
theorem r123_51 {E : Nat → Value} {d : Nat} {st : List Value} {h : gm_H} {r : gm_R × gm_H} {lv : List Value} : gm_Go E d 123 51 lv st h r ↔ gm_Go E d 123 53 lv (.int (90 : Int32) :: st) h r := gr_pure m123 f123_51 rfl
theorem f123_53 : gm_ft 123 53 = some (.if_icmp .ne 7, 3) := by decide +kernel
theorem r123_53 {E : Nat → Value} {d : Nat} {st : List Value} {h : gm_H} {r : gm_R × gm_H} {lv : List Value} {x y : Int32} : gm_Go E d 123 53 lv (.int y :: .int x :: st) h r ↔ (if x = y then gm_Go E d 123 56 lv st h r else gm_Go E d 123 60 lv st h r) := (gr_br m123 f123_53 rfl rfl rfl rfl).trans gr_ifn
theorem f123_56 : gm_ft 123 56 = some (.iconst 5, 1) := by decide +kernel
theorem r123_56 {E : Nat → Value} {d : Nat} {st : List Value} {h : gm_H} {r : gm_R × gm_H} {lv : List Value} : gm_Go E d 123 56 lv st h r ↔ gm_Go E d 123 57 lv (.int (5 : Int32) :: st) h r := gr_pure m123 f123_56 rfl
theorem f123_57 : gm_ft 123 57 = some (.goto 26, 3) := by decide +kernel
theorem r123_57 {E : Nat → Value} {d : Nat} {st : List Value} {h : gm_H} {r : gm_R × gm_H} {lv : List Value} : gm_Go E d 123 57 lv st h r ↔ gm_Go E d 123 83 lv st h r := gr_brT m123 f123_57 rfl rfl rfl rfl
theorem f123_60 : gm_ft 123 60 = some (.iload_n 1, 1) := by decide +kernel
theorem r123_60 {E : Nat → Value} {d : Nat} {st : List Value} {h : gm_H} {r : gm_R × gm_H} {a0 : Value} {x : Int32} : gm_Go E d 123 60 [a0, .int x] st h r ↔ gm_Go E d 123 61 [a0, .int x] (.int x :: st) h r := gr_loc m123 f123_60 rfl rfl
theorem f123_61 : gm_ft 123 61 = some (.bipush 91, 2) := by decide +kernel
theorem r123_61 {E : Nat → Value} {d : Nat} {st : List Value} {h : gm_H} {r : gm_R × gm_H} {lv : List Value} : gm_Go E d 123 61 lv st h r ↔ gm_Go E d 123 63 lv (.int (91 : Int32) :: st) h r := gr_pure m123 f123_61 rfl
theorem f123_63 : gm_ft 123 63 = some (.if_icmp .ne 8, 3) := by decide +kernel
theorem r123_63 {E : Nat → Value} {d : Nat} {st : List Value} {h : gm_H} {r : gm_R × gm_H} {lv : List Value} {x y : Int32} : gm_Go E d 123 63 lv (.int y :: .int x :: st) h r ↔ (if x = y then gm_Go E d 123 66 lv st h r else gm_Go E d 123 71 lv st h r) := (gr_br m123 f123_63 rfl rfl rfl rfl).trans gr_ifn
theorem f123_66 : gm_ft 123 66 = some (.bipush 6, 2) := by decide +kernel
theorem r123_66 {E : Nat → Value} {d : Nat} {st : List Value} {h : gm_H} {r : gm_R × gm_H} {lv : List Value} : gm_Go E d 123 66 lv st h r ↔ gm_Go E d 123 68 lv (.int (6 : Int32) :: st) h r := gr_pure m123 f123_66 rfl
theorem f123_68 : gm_ft 123 68 = some (.goto 15, 3) := by decide +kernel
theorem r123_68 {E : Nat → Value} {d : Nat} {st : List Value} {h : gm_H} {r : gm_R × gm_H} {lv : List Value} : gm_Go E d 123 68 lv st h r ↔ gm_Go E d 123 83 lv st h r := gr_brT m123 f123_68 rfl rfl rfl rfl
theorem f123_71 : gm_ft 123 71 = some (.iload_n 1, 1) := by decide +kernel
theorem r123_71 {E : Nat → Value} {d : Nat} {st : List Value} {h : gm_H} {r : gm_R × gm_H} {a0 : Value} {x : Int32} : gm_Go E d 123 71 [a0, .int x] st h r ↔ gm_Go E d 123 72 [a0, .int x] (.int x :: st) h r := gr_loc m123 f123_71 rfl rfl
theorem f123_72 : gm_ft 123 72 = some (.bipush 76, 2) := by decide +kernel
theorem r123_72 {E : Nat → Value} {d : Nat} {st : List Value} {h : gm_H} {r : gm_R × gm_H} {lv : List Value} : gm_Go E d 123 72 lv st h r ↔ gm_Go E d 123 74 lv (.int (76 : Int32) :: st) h r := gr_pure m123 f123_72 rfl
theorem f123_74 : gm_ft 123 74 = some (.if_icmp .ne 8, 3) := by decide +kernel
theorem r123_74 {E : Nat → Value} {d : Nat} {st : List Value} {h : gm_H} {r : gm_R × gm_H} {lv : List Value} {x y : Int32} : gm_Go E d 123 74 lv (.int y :: .int x :: st) h r ↔ (if x = y then gm_Go E d 123 77 lv st h r else gm_Go E d 123 82 lv st h r) := (gr_br m123 f123_74 rfl rfl rfl rfl).trans gr_ifn
theorem f123_77 : gm_ft 123 77 = some (.bipush 7, 2) := by decide +kernel
theorem r123_77 {E : Nat → Value} {d : Nat} {st : List Value} {h : gm_H} {r : gm_R × gm_H} {lv : List Value} : gm_Go E d 123 77 lv st h r ↔ gm_Go E d 123 79 lv (.int (7 : Int32) :: st) h r := gr_pure m123 f123_77 rfl
theorem f123_79 : gm_ft 123 79 = some (.goto 4, 3) := by decide +kernel
theorem r123_79 {E : Nat → Value} {d : Nat} {st : List Value} {h : gm_H} {r : gm_R × gm_H} {lv : List Value} : gm_Go E d 123 79 lv st h r ↔ gm_Go E d 123 83 lv st h r := gr_brT m123 f123_79 rfl rfl rfl rfl
theorem f123_82 : gm_ft 123 82 = some (.iconst (-1), 1) := by decide +kernel
theorem r123_82 {E : Nat → Value} {d : Nat} {st : List Value} {h : gm_H} {r : gm_R × gm_H} {lv : List Value} : gm_Go E d 123 82 lv st h r ↔ gm_Go E d 123 83 lv (.int (-1 : Int32) :: st) h r := gr_pure m123 f123_82 rfl
theorem f123_83 : gm_ft 123 83 = some (.ireturn, 1) := by decide +kernel
theorem r123_83 {E : Nat → Value} {d : Nat} {h : gm_H} {r : gm_R × gm_H} {lv : List Value} {x : Int32} : gm_Go E d 123 83 lv [.int x] h r ↔ r = (.inl (some (.int x)), h) := gr_ret m123 f123_83 rfl rfl rfl rfl rfl rfl rfl rfl (by unfold gm_rt; dsimp only; rw [if_pos ⟨rfl, rfl⟩])
/-! GraphReaderModel.endDescriptor(I)V -/
theorem m124 : gm_mt[124]? = some (⟨"GraphReaderModel", "endDescriptor", "(I)V"⟩, prog_7_method_35_code, 4, none, [], 5, 2) := rfl
theorem f124_0 : gm_ft 124 0 = some (.aload_n 0, 1) := by decide +kernel
theorem r124_0 {E : Nat → Value} {d : Nat} {st : List Value} {h : gm_H} {r : gm_R × gm_H} {a1 a2 a3 : Value} {x : Nat} : gm_Go E d 124 0 [.ref x, a1, a2, a3] st h r ↔ gm_Go E d 124 1 [.ref x, a1, a2, a3] (.ref x :: st) h r := gr_loc m124 f124_0 rfl rfl
theorem r124_0n {E : Nat → Value} {d : Nat} {st : List Value} {h : gm_H} {r : gm_R × gm_H} {a1 a2 a3 : Value}  : gm_Go E d 124 0 [.null, a1, a2, a3] st h r ↔ gm_Go E d 124 1 [.null, a1, a2, a3] (.null :: st) h r := gr_loc m124 f124_0 rfl rfl
theorem f124_1 : gm_ft 124 1 = some (.getfield 105, 3) := by decide +kernel
theorem r124_1 {E : Nat → Value} {d : Nat} {st : List Value} {h : gm_H} {r : gm_R × gm_H} {lv : List Value} {a : Nat} {vs : List Value} {v : Value} (hr : gm_rd h a = some (5, vs)) (hv : vs[44]? = some v) : gm_Go E d 124 1 lv (.ref a :: st) h r ↔ gm_Go E d 124 4 lv (v :: st) h r := gr_rd m124 f124_1 rfl rfl rfl rfl (gf_get k5_105 hr hv)
theorem f124_4 : gm_ft 124 4 = some (.iload_n 1, 1) := by decide +kernel
theorem r124_4 {E : Nat → Value} {d : Nat} {st : List Value} {h : gm_H} {r : gm_R × gm_H} {a0 a2 a3 : Value} {x : Int32} : gm_Go E d 124 4 [a0, .int x, a2, a3] st h r ↔ gm_Go E d 124 5 [a0, .int x, a2, a3] (.int x :: st) h r := gr_loc m124 f124_4 rfl rfl
theorem f124_5 : gm_ft 124 5 = some (.iaload, 1) := by decide +kernel
theorem r124_5 {E : Nat → Value} {d : Nat} {st : List Value} {h : gm_H} {r : gm_R × gm_H} {lv : List Value} {a k j : Nat} {vs : List Value} {v : Value} (hr : gm_rd h a = some (k, vs)) (hk : 100 ≤ k ∧ (fun t => t == 0) (k % 100) = true) (hj : j < 2 ^ 31) (hv : vs[j]? = some v) : gm_Go E d 124 5 lv (.int (nI j) :: .ref a :: st) h r ↔ gm_Go E d 124 6 lv (v :: st) h r := gr_rd m124 f124_5 rfl rfl rfl rfl (ga_ld (P := fun t => t == 0) hr hk hj hv)
theorem f124_6 : gm_ft 124 6 = some (.istore_n 2, 1) := by decide +kernel
theorem r124_6 {E : Nat → Value} {d : Nat} {st : List Value} {h : gm_H} {r : gm_R × gm_H} {a0 a1 a2 a3 : Value} {x : Int32} : gm_Go E d 124 6 [a0, a1, a2, a3] (.int x :: st) h r ↔ gm_Go E d 124 7 [a0, gm_k a1, .int x, a3] st h r := gr_loc m124 f124_6 rfl rfl
theorem f124_7 : gm_ft 124 7 = some (.aload_n 0, 1) := by decide +kernel
theorem r124_7 {E : Nat → Value} {d : Nat} {st : List Value} {h : gm_H} {r : gm_R × gm_H} {a1 a2 a3 : Value} {x : Nat} : gm_Go E d 124 7 [.ref x, a1, a2, a3] st h r ↔ gm_Go E d 124 8 [.ref x, a1, a2, a3] (.ref x :: st) h r := gr_loc m124 f124_7 rfl rfl
theorem r124_7n {E : Nat → Value} {d : Nat} {st : List Value} {h : gm_H} {r : gm_R × gm_H} {a1 a2 a3 : Value}  : gm_Go E d 124 7 [.null, a1, a2, a3] st h r ↔ gm_Go E d 124 8 [.null, a1, a2, a3] (.null :: st) h r := gr_loc m124 f124_7 rfl rfl
theorem f124_8 : gm_ft 124 8 = some (.getfield 69, 3) := by decide +kernel
theorem r124_8 {E : Nat → Value} {d : Nat} {st : List Value} {h : gm_H} {r : gm_R × gm_H} {lv : List Value} {a : Nat} {vs : List Value} {v : Value} (hr : gm_rd h a = some (5, vs)) (hv : vs[31]? = some v) : gm_Go E d 124 8 lv (.ref a :: st) h r ↔ gm_Go E d 124 11 lv (v :: st) h r := gr_rd m124 f124_8 rfl rfl rfl rfl (gf_get k5_69 hr hv)
theorem f124_11 : gm_ft 124 11 = some (.iload_n 2, 1) := by decide +kernel
theorem r124_11 {E : Nat → Value} {d : Nat} {st : List Value} {h : gm_H} {r : gm_R × gm_H} {a0 a1 a3 : Value} {x : Int32} : gm_Go E d 124 11 [a0, a1, .int x, a3] st h r ↔ gm_Go E d 124 12 [a0, a1, .int x, a3] (.int x :: st) h r := gr_loc m124 f124_11 rfl rfl
theorem f124_12 : gm_ft 124 12 = some (.iaload, 1) := by decide +kernel
theorem r124_12 {E : Nat → Value} {d : Nat} {st : List Value} {h : gm_H} {r : gm_R × gm_H} {lv : List Value} {a k j : Nat} {vs : List Value} {v : Value} (hr : gm_rd h a = some (k, vs)) (hk : 100 ≤ k ∧ (fun t => t == 0) (k % 100) = true) (hj : j < 2 ^ 31) (hv : vs[j]? = some v) : gm_Go E d 124 12 lv (.int (nI j) :: .ref a :: st) h r ↔ gm_Go E d 124 13 lv (v :: st) h r := gr_rd m124 f124_12 rfl rfl rfl rfl (ga_ld (P := fun t => t == 0) hr hk hj hv)
theorem f124_13 : gm_ft 124 13 = some (.istore_n 3, 1) := by decide +kernel
theorem r124_13 {E : Nat → Value} {d : Nat} {st : List Value} {h : gm_H} {r : gm_R × gm_H} {a0 a1 a2 a3 : Value} {x : Int32} : gm_Go E d 124 13 [a0, a1, a2, a3] (.int x :: st) h r ↔ gm_Go E d 124 14 [a0, a1, gm_k a2, .int x] st h r := gr_loc m124 f124_13 rfl rfl
theorem f124_14 : gm_ft 124 14 = some (.aload_n 0, 1) := by decide +kernel
theorem r124_14 {E : Nat → Value} {d : Nat} {st : List Value} {h : gm_H} {r : gm_R × gm_H} {a1 a2 a3 : Value} {x : Nat} : gm_Go E d 124 14 [.ref x, a1, a2, a3] st h r ↔ gm_Go E d 124 15 [.ref x, a1, a2, a3] (.ref x :: st) h r := gr_loc m124 f124_14 rfl rfl
theorem r124_14n {E : Nat → Value} {d : Nat} {st : List Value} {h : gm_H} {r : gm_R × gm_H} {a1 a2 a3 : Value}  : gm_Go E d 124 14 [.null, a1, a2, a3] st h r ↔ gm_Go E d 124 15 [.null, a1, a2, a3] (.null :: st) h r := gr_loc m124 f124_14 rfl rfl
theorem f124_15 : gm_ft 124 15 = some (.getfield 90, 3) := by decide +kernel
theorem r124_15 {E : Nat → Value} {d : Nat} {st : List Value} {h : gm_H} {r : gm_R × gm_H} {lv : List Value} {a : Nat} {vs : List Value} {v : Value} (hr : gm_rd h a = some (5, vs)) (hv : vs[38]? = some v) : gm_Go E d 124 15 lv (.ref a :: st) h r ↔ gm_Go E d 124 18 lv (v :: st) h r := gr_rd m124 f124_15 rfl rfl rfl rfl (gf_get k5_90 hr hv)
theorem f124_18 : gm_ft 124 18 = some (.iload_n 2, 1) := by decide +kernel
theorem r124_18 {E : Nat → Value} {d : Nat} {st : List Value} {h : gm_H} {r : gm_R × gm_H} {a0 a1 a3 : Value} {x : Int32} : gm_Go E d 124 18 [a0, a1, .int x, a3] st h r ↔ gm_Go E d 124 19 [a0, a1, .int x, a3] (.int x :: st) h r := gr_loc m124 f124_18 rfl rfl
theorem f124_19 : gm_ft 124 19 = some (.aload_n 0, 1) := by decide +kernel
theorem r124_19 {E : Nat → Value} {d : Nat} {st : List Value} {h : gm_H} {r : gm_R × gm_H} {a1 a2 a3 : Value} {x : Nat} : gm_Go E d 124 19 [.ref x, a1, a2, a3] st h r ↔ gm_Go E d 124 20 [.ref x, a1, a2, a3] (.ref x :: st) h r := gr_loc m124 f124_19 rfl rfl
theorem r124_19n {E : Nat → Value} {d : Nat} {st : List Value} {h : gm_H} {r : gm_R × gm_H} {a1 a2 a3 : Value}  : gm_Go E d 124 19 [.null, a1, a2, a3] st h r ↔ gm_Go E d 124 20 [.null, a1, a2, a3] (.null :: st) h r := gr_loc m124 f124_19 rfl rfl
theorem f124_20 : gm_ft 124 20 = some (.getfield 178, 3) := by decide +kernel
theorem r124_20 {E : Nat → Value} {d : Nat} {st : List Value} {h : gm_H} {r : gm_R × gm_H} {lv : List Value} {a : Nat} {vs : List Value} {v : Value} (hr : gm_rd h a = some (5, vs)) (hv : vs[9]? = some v) : gm_Go E d 124 20 lv (.ref a :: st) h r ↔ gm_Go E d 124 23 lv (v :: st) h r := gr_rd m124 f124_20 rfl rfl rfl rfl (gf_get k5_178 hr hv)
theorem f124_23 : gm_ft 124 23 = some (.iastore, 1) := by decide +kernel
theorem r124_23 {E : Nat → Value} {d : Nat} {st : List Value} {h : gm_H} {r : gm_R × gm_H} {lv : List Value} {a k j : Nat} {vs : List Value} {x : Int32} (hr : gm_rd h a = some (k, vs)) (hk : 100 ≤ k ∧ k % 100 = 0 ∧ gm_ko k = 2 ∧ 2 < 3) (hj : j < 2 ^ 31) (hl : j < vs.length) : gm_Go E d 124 23 lv (.int x :: .int (nI j) :: .ref a :: st) h r ↔ gm_Go E d 124 24 lv st (gm_wr h a (k, vs.set j (.int x))) r := gr_wr m124 f124_23 rfl rfl rfl rfl rfl (ga_st hr hk hj hl)
theorem f124_24 : gm_ft 124 24 = some (.aload_n 0, 1) := by decide +kernel
theorem r124_24 {E : Nat → Value} {d : Nat} {st : List Value} {h : gm_H} {r : gm_R × gm_H} {a1 a2 a3 : Value} {x : Nat} : gm_Go E d 124 24 [.ref x, a1, a2, a3] st h r ↔ gm_Go E d 124 25 [.ref x, a1, a2, a3] (.ref x :: st) h r := gr_loc m124 f124_24 rfl rfl
theorem r124_24n {E : Nat → Value} {d : Nat} {st : List Value} {h : gm_H} {r : gm_R × gm_H} {a1 a2 a3 : Value}  : gm_Go E d 124 24 [.null, a1, a2, a3] st h r ↔ gm_Go E d 124 25 [.null, a1, a2, a3] (.null :: st) h r := gr_loc m124 f124_24 rfl rfl
theorem f124_25 : gm_ft 124 25 = some (.getfield 75, 3) := by decide +kernel
theorem r124_25 {E : Nat → Value} {d : Nat} {st : List Value} {h : gm_H} {r : gm_R × gm_H} {lv : List Value} {a : Nat} {vs : List Value} {v : Value} (hr : gm_rd h a = some (5, vs)) (hv : vs[33]? = some v) : gm_Go E d 124 25 lv (.ref a :: st) h r ↔ gm_Go E d 124 28 lv (v :: st) h r := gr_rd m124 f124_25 rfl rfl rfl rfl (gf_get k5_75 hr hv)
theorem f124_28 : gm_ft 124 28 = some (.iload_n 2, 1) := by decide +kernel
theorem r124_28 {E : Nat → Value} {d : Nat} {st : List Value} {h : gm_H} {r : gm_R × gm_H} {a0 a1 a3 : Value} {x : Int32} : gm_Go E d 124 28 [a0, a1, .int x, a3] st h r ↔ gm_Go E d 124 29 [a0, a1, .int x, a3] (.int x :: st) h r := gr_loc m124 f124_28 rfl rfl
theorem f124_29 : gm_ft 124 29 = some (.iaload, 1) := by decide +kernel
theorem r124_29 {E : Nat → Value} {d : Nat} {st : List Value} {h : gm_H} {r : gm_R × gm_H} {lv : List Value} {a k j : Nat} {vs : List Value} {v : Value} (hr : gm_rd h a = some (k, vs)) (hk : 100 ≤ k ∧ (fun t => t == 0) (k % 100) = true) (hj : j < 2 ^ 31) (hv : vs[j]? = some v) : gm_Go E d 124 29 lv (.int (nI j) :: .ref a :: st) h r ↔ gm_Go E d 124 30 lv (v :: st) h r := gr_rd m124 f124_29 rfl rfl rfl rfl (ga_ld (P := fun t => t == 0) hr hk hj hv)
theorem f124_30 : gm_ft 124 30 = some (.iconst 4, 1) := by decide +kernel
theorem r124_30 {E : Nat → Value} {d : Nat} {st : List Value} {h : gm_H} {r : gm_R × gm_H} {lv : List Value} : gm_Go E d 124 30 lv st h r ↔ gm_Go E d 124 31 lv (.int (4 : Int32) :: st) h r := gr_pure m124 f124_30 rfl
theorem f124_31 : gm_ft 124 31 = some (.iand, 1) := by decide +kernel
theorem r124_31 {E : Nat → Value} {d : Nat} {st : List Value} {h : gm_H} {r : gm_R × gm_H} {lv : List Value} {x y : Int32} : gm_Go E d 124 31 lv (.int y :: .int x :: st) h r ↔ gm_Go E d 124 32 lv (.int (x &&& y) :: st) h r := gr_pure m124 f124_31 rfl
theorem f124_32 : gm_ft 124 32 = some (.ifCond .eq 9, 3) := by decide +kernel
theorem r124_32 {E : Nat → Value} {d : Nat} {st : List Value} {h : gm_H} {r : gm_R × gm_H} {lv : List Value} {x : Int32} : gm_Go E d 124 32 lv (.int x :: st) h r ↔ (if x = 0 then gm_Go E d 124 41 lv st h r else gm_Go E d 124 35 lv st h r) := (gr_br m124 f124_32 rfl rfl rfl rfl).trans gr_if
theorem f124_35 : gm_ft 124 35 = some (.aload_n 0, 1) := by decide +kernel
theorem r124_35 {E : Nat → Value} {d : Nat} {st : List Value} {h : gm_H} {r : gm_R × gm_H} {a1 a2 a3 : Value} {x : Nat} : gm_Go E d 124 35 [.ref x, a1, a2, a3] st h r ↔ gm_Go E d 124 36 [.ref x, a1, a2, a3] (.ref x :: st) h r := gr_loc m124 f124_35 rfl rfl
theorem r124_35n {E : Nat → Value} {d : Nat} {st : List Value} {h : gm_H} {r : gm_R × gm_H} {a1 a2 a3 : Value}  : gm_Go E d 124 35 [.null, a1, a2, a3] st h r ↔ gm_Go E d 124 36 [.null, a1, a2, a3] (.null :: st) h r := gr_loc m124 f124_35 rfl rfl
theorem f124_36 : gm_ft 124 36 = some (.bipush (-5), 2) := by decide +kernel
theorem r124_36 {E : Nat → Value} {d : Nat} {st : List Value} {h : gm_H} {r : gm_R × gm_H} {lv : List Value} : gm_Go E d 124 36 lv st h r ↔ gm_Go E d 124 38 lv (.int (-5 : Int32) :: st) h r := gr_pure m124 f124_36 rfl
theorem f124_38 : gm_ft 124 38 = some (.invokevirtual 151, 3) := by decide +kernel
theorem n124_38 {st : List Value} {h : gm_H} {E : Nat → Value} {lv : List Value} {b0 : Value} {a : Nat} (hs : (st.map fun v => v.category).sum ≤ 8) (he : (gm_en1 [.ref a, b0]).length ≤ 2) {vs : List Value} (hr : gm_rd h a = some (5, vs)) : gm_next E 124 38 lv (b0 :: .ref a :: st) h = some (.inr (.inl (0, 98, [.ref a, b0], st))) := gn_call m124 f124_38 rfl rfl rfl rfl rfl rfl rfl (gc_virt (bs := [b0]) (w := 844) rfl rfl rfl rfl hs he hr) (by decide)
theorem f124_41 : gm_ft 124 41 = some (.iload_n 3, 1) := by decide +kernel
theorem r124_41 {E : Nat → Value} {d : Nat} {st : List Value} {h : gm_H} {r : gm_R × gm_H} {a0 a1 a2 : Value} {x : Int32} : gm_Go E d 124 41 [a0, a1, a2, .int x] st h r ↔ gm_Go E d 124 42 [a0, a1, a2, .int x] (.int x :: st) h r := gr_loc m124 f124_41 rfl rfl
theorem f124_42 : gm_ft 124 42 = some (.ifCond .lt 111, 3) := by decide +kernel
theorem r124_42 {E : Nat → Value} {d : Nat} {st : List Value} {h : gm_H} {r : gm_R × gm_H} {lv : List Value} {x : Int32} : gm_Go E d 124 42 lv (.int x :: st) h r ↔ (if x < 0 then gm_Go E d 124 153 lv st h r else gm_Go E d 124 45 lv st h r) := (gr_br m124 f124_42 rfl rfl rfl rfl).trans gr_if
theorem f124_45 : gm_ft 124 45 = some (.aload_n 0, 1) := by decide +kernel
theorem r124_45 {E : Nat → Value} {d : Nat} {st : List Value} {h : gm_H} {r : gm_R × gm_H} {a1 a2 a3 : Value} {x : Nat} : gm_Go E d 124 45 [.ref x, a1, a2, a3] st h r ↔ gm_Go E d 124 46 [.ref x, a1, a2, a3] (.ref x :: st) h r := gr_loc m124 f124_45 rfl rfl
theorem r124_45n {E : Nat → Value} {d : Nat} {st : List Value} {h : gm_H} {r : gm_R × gm_H} {a1 a2 a3 : Value}  : gm_Go E d 124 45 [.null, a1, a2, a3] st h r ↔ gm_Go E d 124 46 [.null, a1, a2, a3] (.null :: st) h r := gr_loc m124 f124_45 rfl rfl
theorem f124_46 : gm_ft 124 46 = some (.getfield 75, 3) := by decide +kernel
theorem r124_46 {E : Nat → Value} {d : Nat} {st : List Value} {h : gm_H} {r : gm_R × gm_H} {lv : List Value} {a : Nat} {vs : List Value} {v : Value} (hr : gm_rd h a = some (5, vs)) (hv : vs[33]? = some v) : gm_Go E d 124 46 lv (.ref a :: st) h r ↔ gm_Go E d 124 49 lv (v :: st) h r := gr_rd m124 f124_46 rfl rfl rfl rfl (gf_get k5_75 hr hv)
theorem f124_49 : gm_ft 124 49 = some (.iload_n 2, 1) := by decide +kernel
theorem r124_49 {E : Nat → Value} {d : Nat} {st : List Value} {h : gm_H} {r : gm_R × gm_H} {a0 a1 a3 : Value} {x : Int32} : gm_Go E d 124 49 [a0, a1, .int x, a3] st h r ↔ gm_Go E d 124 50 [a0, a1, .int x, a3] (.int x :: st) h r := gr_loc m124 f124_49 rfl rfl
theorem f124_50 : gm_ft 124 50 = some (.iaload, 1) := by decide +kernel
theorem r124_50 {E : Nat → Value} {d : Nat} {st : List Value} {h : gm_H} {r : gm_R × gm_H} {lv : List Value} {a k j : Nat} {vs : List Value} {v : Value} (hr : gm_rd h a = some (k, vs)) (hk : 100 ≤ k ∧ (fun t => t == 0) (k % 100) = true) (hj : j < 2 ^ 31) (hv : vs[j]? = some v) : gm_Go E d 124 50 lv (.int (nI j) :: .ref a :: st) h r ↔ gm_Go E d 124 51 lv (v :: st) h r := gr_rd m124 f124_50 rfl rfl rfl rfl (ga_ld (P := fun t => t == 0) hr hk hj hv)
theorem f124_51 : gm_ft 124 51 = some (.bipush 16, 2) := by decide +kernel
theorem r124_51 {E : Nat → Value} {d : Nat} {st : List Value} {h : gm_H} {r : gm_R × gm_H} {lv : List Value} : gm_Go E d 124 51 lv st h r ↔ gm_Go E d 124 53 lv (.int (16 : Int32) :: st) h r := gr_pure m124 f124_51 rfl
theorem f124_53 : gm_ft 124 53 = some (.iand, 1) := by decide +kernel
theorem r124_53 {E : Nat → Value} {d : Nat} {st : List Value} {h : gm_H} {r : gm_R × gm_H} {lv : List Value} {x y : Int32} : gm_Go E d 124 53 lv (.int y :: .int x :: st) h r ↔ gm_Go E d 124 54 lv (.int (x &&& y) :: st) h r := gr_pure m124 f124_53 rfl
theorem f124_54 : gm_ft 124 54 = some (.ifCond .eq 7, 3) := by decide +kernel
theorem r124_54 {E : Nat → Value} {d : Nat} {st : List Value} {h : gm_H} {r : gm_R × gm_H} {lv : List Value} {x : Int32} : gm_Go E d 124 54 lv (.int x :: st) h r ↔ (if x = 0 then gm_Go E d 124 61 lv st h r else gm_Go E d 124 57 lv st h r) := (gr_br m124 f124_54 rfl rfl rfl rfl).trans gr_if
theorem f124_57 : gm_ft 124 57 = some (.iconst 1, 1) := by decide +kernel
theorem r124_57 {E : Nat → Value} {d : Nat} {st : List Value} {h : gm_H} {r : gm_R × gm_H} {lv : List Value} : gm_Go E d 124 57 lv st h r ↔ gm_Go E d 124 58 lv (.int (1 : Int32) :: st) h r := gr_pure m124 f124_57 rfl
theorem f124_58 : gm_ft 124 58 = some (.goto 4, 3) := by decide +kernel
theorem r124_58 {E : Nat → Value} {d : Nat} {st : List Value} {h : gm_H} {r : gm_R × gm_H} {lv : List Value} : gm_Go E d 124 58 lv st h r ↔ gm_Go E d 124 62 lv st h r := gr_brT m124 f124_58 rfl rfl rfl rfl
theorem f124_61 : gm_ft 124 61 = some (.iconst 0, 1) := by decide +kernel
theorem r124_61 {E : Nat → Value} {d : Nat} {st : List Value} {h : gm_H} {r : gm_R × gm_H} {lv : List Value} : gm_Go E d 124 61 lv st h r ↔ gm_Go E d 124 62 lv (.int (0 : Int32) :: st) h r := gr_pure m124 f124_61 rfl
theorem f124_62 : gm_ft 124 62 = some (.aload_n 0, 1) := by decide +kernel
theorem r124_62 {E : Nat → Value} {d : Nat} {st : List Value} {h : gm_H} {r : gm_R × gm_H} {a1 a2 a3 : Value} {x : Nat} : gm_Go E d 124 62 [.ref x, a1, a2, a3] st h r ↔ gm_Go E d 124 63 [.ref x, a1, a2, a3] (.ref x :: st) h r := gr_loc m124 f124_62 rfl rfl
theorem r124_62n {E : Nat → Value} {d : Nat} {st : List Value} {h : gm_H} {r : gm_R × gm_H} {a1 a2 a3 : Value}  : gm_Go E d 124 62 [.null, a1, a2, a3] st h r ↔ gm_Go E d 124 63 [.null, a1, a2, a3] (.null :: st) h r := gr_loc m124 f124_62 rfl rfl
theorem f124_63 : gm_ft 124 63 = some (.getfield 13, 3) := by decide +kernel
theorem r124_63 {E : Nat → Value} {d : Nat} {st : List Value} {h : gm_H} {r : gm_R × gm_H} {lv : List Value} {a : Nat} {vs : List Value} {v : Value} (hr : gm_rd h a = some (5, vs)) (hv : vs[10]? = some v) : gm_Go E d 124 63 lv (.ref a :: st) h r ↔ gm_Go E d 124 66 lv (v :: st) h r := gr_rd m124 f124_63 rfl rfl rfl rfl (gf_get k5_13 hr hv)
theorem f124_66 : gm_ft 124 66 = some (.iload_n 3, 1) := by decide +kernel
theorem r124_66 {E : Nat → Value} {d : Nat} {st : List Value} {h : gm_H} {r : gm_R × gm_H} {a0 a1 a2 : Value} {x : Int32} : gm_Go E d 124 66 [a0, a1, a2, .int x] st h r ↔ gm_Go E d 124 67 [a0, a1, a2, .int x] (.int x :: st) h r := gr_loc m124 f124_66 rfl rfl
theorem f124_67 : gm_ft 124 67 = some (.iaload, 1) := by decide +kernel
theorem r124_67 {E : Nat → Value} {d : Nat} {st : List Value} {h : gm_H} {r : gm_R × gm_H} {lv : List Value} {a k j : Nat} {vs : List Value} {v : Value} (hr : gm_rd h a = some (k, vs)) (hk : 100 ≤ k ∧ (fun t => t == 0) (k % 100) = true) (hj : j < 2 ^ 31) (hv : vs[j]? = some v) : gm_Go E d 124 67 lv (.int (nI j) :: .ref a :: st) h r ↔ gm_Go E d 124 68 lv (v :: st) h r := gr_rd m124 f124_67 rfl rfl rfl rfl (ga_ld (P := fun t => t == 0) hr hk hj hv)
theorem f124_68 : gm_ft 124 68 = some (.iconst 3, 1) := by decide +kernel
theorem r124_68 {E : Nat → Value} {d : Nat} {st : List Value} {h : gm_H} {r : gm_R × gm_H} {lv : List Value} : gm_Go E d 124 68 lv st h r ↔ gm_Go E d 124 69 lv (.int (3 : Int32) :: st) h r := gr_pure m124 f124_68 rfl
theorem f124_69 : gm_ft 124 69 = some (.if_icmp .ne 7, 3) := by decide +kernel
theorem r124_69 {E : Nat → Value} {d : Nat} {st : List Value} {h : gm_H} {r : gm_R × gm_H} {lv : List Value} {x y : Int32} : gm_Go E d 124 69 lv (.int y :: .int x :: st) h r ↔ (if x = y then gm_Go E d 124 72 lv st h r else gm_Go E d 124 76 lv st h r) := (gr_br m124 f124_69 rfl rfl rfl rfl).trans gr_ifn
theorem f124_72 : gm_ft 124 72 = some (.iconst 1, 1) := by decide +kernel
theorem r124_72 {E : Nat → Value} {d : Nat} {st : List Value} {h : gm_H} {r : gm_R × gm_H} {lv : List Value} : gm_Go E d 124 72 lv st h r ↔ gm_Go E d 124 73 lv (.int (1 : Int32) :: st) h r := gr_pure m124 f124_72 rfl
theorem f124_73 : gm_ft 124 73 = some (.goto 4, 3) := by decide +kernel
theorem r124_73 {E : Nat → Value} {d : Nat} {st : List Value} {h : gm_H} {r : gm_R × gm_H} {lv : List Value} : gm_Go E d 124 73 lv st h r ↔ gm_Go E d 124 77 lv st h r := gr_brT m124 f124_73 rfl rfl rfl rfl
theorem f124_76 : gm_ft 124 76 = some (.iconst 0, 1) := by decide +kernel
theorem r124_76 {E : Nat → Value} {d : Nat} {st : List Value} {h : gm_H} {r : gm_R × gm_H} {lv : List Value} : gm_Go E d 124 76 lv st h r ↔ gm_Go E d 124 77 lv (.int (0 : Int32) :: st) h r := gr_pure m124 f124_76 rfl
theorem f124_77 : gm_ft 124 77 = some (.if_icmp .eq 9, 3) := by decide +kernel
theorem r124_77 {E : Nat → Value} {d : Nat} {st : List Value} {h : gm_H} {r : gm_R × gm_H} {lv : List Value} {x y : Int32} : gm_Go E d 124 77 lv (.int y :: .int x :: st) h r ↔ (if x = y then gm_Go E d 124 86 lv st h r else gm_Go E d 124 80 lv st h r) := (gr_br m124 f124_77 rfl rfl rfl rfl).trans gr_if
theorem f124_80 : gm_ft 124 80 = some (.aload_n 0, 1) := by decide +kernel
theorem r124_80 {E : Nat → Value} {d : Nat} {st : List Value} {h : gm_H} {r : gm_R × gm_H} {a1 a2 a3 : Value} {x : Nat} : gm_Go E d 124 80 [.ref x, a1, a2, a3] st h r ↔ gm_Go E d 124 81 [.ref x, a1, a2, a3] (.ref x :: st) h r := gr_loc m124 f124_80 rfl rfl
theorem r124_80n {E : Nat → Value} {d : Nat} {st : List Value} {h : gm_H} {r : gm_R × gm_H} {a1 a2 a3 : Value}  : gm_Go E d 124 80 [.null, a1, a2, a3] st h r ↔ gm_Go E d 124 81 [.null, a1, a2, a3] (.null :: st) h r := gr_loc m124 f124_80 rfl rfl
theorem f124_81 : gm_ft 124 81 = some (.bipush (-5), 2) := by decide +kernel
theorem r124_81 {E : Nat → Value} {d : Nat} {st : List Value} {h : gm_H} {r : gm_R × gm_H} {lv : List Value} : gm_Go E d 124 81 lv st h r ↔ gm_Go E d 124 83 lv (.int (-5 : Int32) :: st) h r := gr_pure m124 f124_81 rfl
theorem f124_83 : gm_ft 124 83 = some (.invokevirtual 151, 3) := by decide +kernel
theorem n124_83 {st : List Value} {h : gm_H} {E : Nat → Value} {lv : List Value} {b0 : Value} {a : Nat} (hs : (st.map fun v => v.category).sum ≤ 8) (he : (gm_en1 [.ref a, b0]).length ≤ 2) {vs : List Value} (hr : gm_rd h a = some (5, vs)) : gm_next E 124 83 lv (b0 :: .ref a :: st) h = some (.inr (.inl (0, 98, [.ref a, b0], st))) := gn_call m124 f124_83 rfl rfl rfl rfl rfl rfl rfl (gc_virt (bs := [b0]) (w := 844) rfl rfl rfl rfl hs he hr) (by decide)
theorem f124_86 : gm_ft 124 86 = some (.aload_n 0, 1) := by decide +kernel
theorem r124_86 {E : Nat → Value} {d : Nat} {st : List Value} {h : gm_H} {r : gm_R × gm_H} {a1 a2 a3 : Value} {x : Nat} : gm_Go E d 124 86 [.ref x, a1, a2, a3] st h r ↔ gm_Go E d 124 87 [.ref x, a1, a2, a3] (.ref x :: st) h r := gr_loc m124 f124_86 rfl rfl
theorem r124_86n {E : Nat → Value} {d : Nat} {st : List Value} {h : gm_H} {r : gm_R × gm_H} {a1 a2 a3 : Value}  : gm_Go E d 124 86 [.null, a1, a2, a3] st h r ↔ gm_Go E d 124 87 [.null, a1, a2, a3] (.null :: st) h r := gr_loc m124 f124_86 rfl rfl
theorem f124_87 : gm_ft 124 87 = some (.getfield 75, 3) := by decide +kernel
theorem r124_87 {E : Nat → Value} {d : Nat} {st : List Value} {h : gm_H} {r : gm_R × gm_H} {lv : List Value} {a : Nat} {vs : List Value} {v : Value} (hr : gm_rd h a = some (5, vs)) (hv : vs[33]? = some v) : gm_Go E d 124 87 lv (.ref a :: st) h r ↔ gm_Go E d 124 90 lv (v :: st) h r := gr_rd m124 f124_87 rfl rfl rfl rfl (gf_get k5_75 hr hv)
theorem f124_90 : gm_ft 124 90 = some (.iload_n 2, 1) := by decide +kernel
theorem r124_90 {E : Nat → Value} {d : Nat} {st : List Value} {h : gm_H} {r : gm_R × gm_H} {a0 a1 a3 : Value} {x : Int32} : gm_Go E d 124 90 [a0, a1, .int x, a3] st h r ↔ gm_Go E d 124 91 [a0, a1, .int x, a3] (.int x :: st) h r := gr_loc m124 f124_90 rfl rfl
theorem f124_91 : gm_ft 124 91 = some (.iaload, 1) := by decide +kernel
theorem r124_91 {E : Nat → Value} {d : Nat} {st : List Value} {h : gm_H} {r : gm_R × gm_H} {lv : List Value} {a k j : Nat} {vs : List Value} {v : Value} (hr : gm_rd h a = some (k, vs)) (hk : 100 ≤ k ∧ (fun t => t == 0) (k % 100) = true) (hj : j < 2 ^ 31) (hv : vs[j]? = some v) : gm_Go E d 124 91 lv (.int (nI j) :: .ref a :: st) h r ↔ gm_Go E d 124 92 lv (v :: st) h r := gr_rd m124 f124_91 rfl rfl rfl rfl (ga_ld (P := fun t => t == 0) hr hk hj hv)
theorem f124_92 : gm_ft 124 92 = some (.iconst 2, 1) := by decide +kernel
theorem r124_92 {E : Nat → Value} {d : Nat} {st : List Value} {h : gm_H} {r : gm_R × gm_H} {lv : List Value} : gm_Go E d 124 92 lv st h r ↔ gm_Go E d 124 93 lv (.int (2 : Int32) :: st) h r := gr_pure m124 f124_92 rfl
theorem f124_93 : gm_ft 124 93 = some (.iand, 1) := by decide +kernel
theorem r124_93 {E : Nat → Value} {d : Nat} {st : List Value} {h : gm_H} {r : gm_R × gm_H} {lv : List Value} {x y : Int32} : gm_Go E d 124 93 lv (.int y :: .int x :: st) h r ↔ gm_Go E d 124 94 lv (.int (x &&& y) :: st) h r := gr_pure m124 f124_93 rfl
theorem f124_94 : gm_ft 124 94 = some (.ifCond .eq 44, 3) := by decide +kernel
theorem r124_94 {E : Nat → Value} {d : Nat} {st : List Value} {h : gm_H} {r : gm_R × gm_H} {lv : List Value} {x : Int32} : gm_Go E d 124 94 lv (.int x :: st) h r ↔ (if x = 0 then gm_Go E d 124 138 lv st h r else gm_Go E d 124 97 lv st h r) := (gr_br m124 f124_94 rfl rfl rfl rfl).trans gr_if
theorem f124_97 : gm_ft 124 97 = some (.aload_n 0, 1) := by decide +kernel
theorem r124_97 {E : Nat → Value} {d : Nat} {st : List Value} {h : gm_H} {r : gm_R × gm_H} {a1 a2 a3 : Value} {x : Nat} : gm_Go E d 124 97 [.ref x, a1, a2, a3] st h r ↔ gm_Go E d 124 98 [.ref x, a1, a2, a3] (.ref x :: st) h r := gr_loc m124 f124_97 rfl rfl
theorem r124_97n {E : Nat → Value} {d : Nat} {st : List Value} {h : gm_H} {r : gm_R × gm_H} {a1 a2 a3 : Value}  : gm_Go E d 124 97 [.null, a1, a2, a3] st h r ↔ gm_Go E d 124 98 [.null, a1, a2, a3] (.null :: st) h r := gr_loc m124 f124_97 rfl rfl
theorem f124_98 : gm_ft 124 98 = some (.getfield 13, 3) := by decide +kernel
theorem r124_98 {E : Nat → Value} {d : Nat} {st : List Value} {h : gm_H} {r : gm_R × gm_H} {lv : List Value} {a : Nat} {vs : List Value} {v : Value} (hr : gm_rd h a = some (5, vs)) (hv : vs[10]? = some v) : gm_Go E d 124 98 lv (.ref a :: st) h r ↔ gm_Go E d 124 101 lv (v :: st) h r := gr_rd m124 f124_98 rfl rfl rfl rfl (gf_get k5_13 hr hv)
theorem f124_101 : gm_ft 124 101 = some (.iload_n 3, 1) := by decide +kernel
theorem r124_101 {E : Nat → Value} {d : Nat} {st : List Value} {h : gm_H} {r : gm_R × gm_H} {a0 a1 a2 : Value} {x : Int32} : gm_Go E d 124 101 [a0, a1, a2, .int x] st h r ↔ gm_Go E d 124 102 [a0, a1, a2, .int x] (.int x :: st) h r := gr_loc m124 f124_101 rfl rfl
theorem f124_102 : gm_ft 124 102 = some (.iaload, 1) := by decide +kernel
theorem r124_102 {E : Nat → Value} {d : Nat} {st : List Value} {h : gm_H} {r : gm_R × gm_H} {lv : List Value} {a k j : Nat} {vs : List Value} {v : Value} (hr : gm_rd h a = some (k, vs)) (hk : 100 ≤ k ∧ (fun t => t == 0) (k % 100) = true) (hj : j < 2 ^ 31) (hv : vs[j]? = some v) : gm_Go E d 124 102 lv (.int (nI j) :: .ref a :: st) h r ↔ gm_Go E d 124 103 lv (v :: st) h r := gr_rd m124 f124_102 rfl rfl rfl rfl (ga_ld (P := fun t => t == 0) hr hk hj hv)
theorem f124_103 : gm_ft 124 103 = some (.ifCond .eq 35, 3) := by decide +kernel
theorem r124_103 {E : Nat → Value} {d : Nat} {st : List Value} {h : gm_H} {r : gm_R × gm_H} {lv : List Value} {x : Int32} : gm_Go E d 124 103 lv (.int x :: st) h r ↔ (if x = 0 then gm_Go E d 124 138 lv st h r else gm_Go E d 124 106 lv st h r) := (gr_br m124 f124_103 rfl rfl rfl rfl).trans gr_if
theorem f124_106 : gm_ft 124 106 = some (.aload_n 0, 1) := by decide +kernel
theorem r124_106 {E : Nat → Value} {d : Nat} {st : List Value} {h : gm_H} {r : gm_R × gm_H} {a1 a2 a3 : Value} {x : Nat} : gm_Go E d 124 106 [.ref x, a1, a2, a3] st h r ↔ gm_Go E d 124 107 [.ref x, a1, a2, a3] (.ref x :: st) h r := gr_loc m124 f124_106 rfl rfl
theorem r124_106n {E : Nat → Value} {d : Nat} {st : List Value} {h : gm_H} {r : gm_R × gm_H} {a1 a2 a3 : Value}  : gm_Go E d 124 106 [.null, a1, a2, a3] st h r ↔ gm_Go E d 124 107 [.null, a1, a2, a3] (.null :: st) h r := gr_loc m124 f124_106 rfl rfl
theorem f124_107 : gm_ft 124 107 = some (.getfield 13, 3) := by decide +kernel
theorem r124_107 {E : Nat → Value} {d : Nat} {st : List Value} {h : gm_H} {r : gm_R × gm_H} {lv : List Value} {a : Nat} {vs : List Value} {v : Value} (hr : gm_rd h a = some (5, vs)) (hv : vs[10]? = some v) : gm_Go E d 124 107 lv (.ref a :: st) h r ↔ gm_Go E d 124 110 lv (v :: st) h r := gr_rd m124 f124_107 rfl rfl rfl rfl (gf_get k5_13 hr hv)
theorem f124_110 : gm_ft 124 110 = some (.iload_n 3, 1) := by decide +kernel
theorem r124_110 {E : Nat → Value} {d : Nat} {st : List Value} {h : gm_H} {r : gm_R × gm_H} {a0 a1 a2 : Value} {x : Int32} : gm_Go E d 124 110 [a0, a1, a2, .int x] st h r ↔ gm_Go E d 124 111 [a0, a1, a2, .int x] (.int x :: st) h r := gr_loc m124 f124_110 rfl rfl
theorem f124_111 : gm_ft 124 111 = some (.iaload, 1) := by decide +kernel
theorem r124_111 {E : Nat → Value} {d : Nat} {st : List Value} {h : gm_H} {r : gm_R × gm_H} {lv : List Value} {a k j : Nat} {vs : List Value} {v : Value} (hr : gm_rd h a = some (k, vs)) (hk : 100 ≤ k ∧ (fun t => t == 0) (k % 100) = true) (hj : j < 2 ^ 31) (hv : vs[j]? = some v) : gm_Go E d 124 111 lv (.int (nI j) :: .ref a :: st) h r ↔ gm_Go E d 124 112 lv (v :: st) h r := gr_rd m124 f124_111 rfl rfl rfl rfl (ga_ld (P := fun t => t == 0) hr hk hj hv)
theorem f124_112 : gm_ft 124 112 = some (.iconst 3, 1) := by decide +kernel
theorem r124_112 {E : Nat → Value} {d : Nat} {st : List Value} {h : gm_H} {r : gm_R × gm_H} {lv : List Value} : gm_Go E d 124 112 lv st h r ↔ gm_Go E d 124 113 lv (.int (3 : Int32) :: st) h r := gr_pure m124 f124_112 rfl
theorem f124_113 : gm_ft 124 113 = some (.if_icmp .eq 25, 3) := by decide +kernel
theorem r124_113 {E : Nat → Value} {d : Nat} {st : List Value} {h : gm_H} {r : gm_R × gm_H} {lv : List Value} {x y : Int32} : gm_Go E d 124 113 lv (.int y :: .int x :: st) h r ↔ (if x = y then gm_Go E d 124 138 lv st h r else gm_Go E d 124 116 lv st h r) := (gr_br m124 f124_113 rfl rfl rfl rfl).trans gr_if
theorem f124_116 : gm_ft 124 116 = some (.aload_n 0, 1) := by decide +kernel
theorem r124_116 {E : Nat → Value} {d : Nat} {st : List Value} {h : gm_H} {r : gm_R × gm_H} {a1 a2 a3 : Value} {x : Nat} : gm_Go E d 124 116 [.ref x, a1, a2, a3] st h r ↔ gm_Go E d 124 117 [.ref x, a1, a2, a3] (.ref x :: st) h r := gr_loc m124 f124_116 rfl rfl
theorem r124_116n {E : Nat → Value} {d : Nat} {st : List Value} {h : gm_H} {r : gm_R × gm_H} {a1 a2 a3 : Value}  : gm_Go E d 124 116 [.null, a1, a2, a3] st h r ↔ gm_Go E d 124 117 [.null, a1, a2, a3] (.null :: st) h r := gr_loc m124 f124_116 rfl rfl
theorem f124_117 : gm_ft 124 117 = some (.getfield 16, 3) := by decide +kernel
theorem r124_117 {E : Nat → Value} {d : Nat} {st : List Value} {h : gm_H} {r : gm_R × gm_H} {lv : List Value} {a : Nat} {vs : List Value} {v : Value} (hr : gm_rd h a = some (5, vs)) (hv : vs[11]? = some v) : gm_Go E d 124 117 lv (.ref a :: st) h r ↔ gm_Go E d 124 120 lv (v :: st) h r := gr_rd m124 f124_117 rfl rfl rfl rfl (gf_get k5_16 hr hv)
theorem f124_120 : gm_ft 124 120 = some (.iload_n 3, 1) := by decide +kernel
theorem r124_120 {E : Nat → Value} {d : Nat} {st : List Value} {h : gm_H} {r : gm_R × gm_H} {a0 a1 a2 : Value} {x : Int32} : gm_Go E d 124 120 [a0, a1, a2, .int x] st h r ↔ gm_Go E d 124 121 [a0, a1, a2, .int x] (.int x :: st) h r := gr_loc m124 f124_120 rfl rfl
theorem f124_121 : gm_ft 124 121 = some (.laload, 1) := by decide +kernel
theorem r124_121 {E : Nat → Value} {d : Nat} {st : List Value} {h : gm_H} {r : gm_R × gm_H} {lv : List Value} {a k j : Nat} {vs : List Value} {v : Value} (hr : gm_rd h a = some (k, vs)) (hk : 100 ≤ k ∧ (fun t => t == 1) (k % 100) = true) (hj : j < 2 ^ 31) (hv : vs[j]? = some v) : gm_Go E d 124 121 lv (.int (nI j) :: .ref a :: st) h r ↔ gm_Go E d 124 122 lv (v :: st) h r := gr_rd m124 f124_121 rfl rfl rfl rfl (ga_ld (P := fun t => t == 1) hr hk hj hv)
theorem f124_122 : gm_ft 124 122 = some (.aload_n 0, 1) := by decide +kernel
theorem r124_122 {E : Nat → Value} {d : Nat} {st : List Value} {h : gm_H} {r : gm_R × gm_H} {a1 a2 a3 : Value} {x : Nat} : gm_Go E d 124 122 [.ref x, a1, a2, a3] st h r ↔ gm_Go E d 124 123 [.ref x, a1, a2, a3] (.ref x :: st) h r := gr_loc m124 f124_122 rfl rfl
theorem r124_122n {E : Nat → Value} {d : Nat} {st : List Value} {h : gm_H} {r : gm_R × gm_H} {a1 a2 a3 : Value}  : gm_Go E d 124 122 [.null, a1, a2, a3] st h r ↔ gm_Go E d 124 123 [.null, a1, a2, a3] (.null :: st) h r := gr_loc m124 f124_122 rfl rfl
theorem f124_123 : gm_ft 124 123 = some (.getfield 78, 3) := by decide +kernel
theorem r124_123 {E : Nat → Value} {d : Nat} {st : List Value} {h : gm_H} {r : gm_R × gm_H} {lv : List Value} {a : Nat} {vs : List Value} {v : Value} (hr : gm_rd h a = some (5, vs)) (hv : vs[34]? = some v) : gm_Go E d 124 123 lv (.ref a :: st) h r ↔ gm_Go E d 124 126 lv (v :: st) h r := gr_rd m124 f124_123 rfl rfl rfl rfl (gf_get k5_78 hr hv)
theorem f124_126 : gm_ft 124 126 = some (.iload_n 2, 1) := by decide +kernel
theorem r124_126 {E : Nat → Value} {d : Nat} {st : List Value} {h : gm_H} {r : gm_R × gm_H} {a0 a1 a3 : Value} {x : Int32} : gm_Go E d 124 126 [a0, a1, .int x, a3] st h r ↔ gm_Go E d 124 127 [a0, a1, .int x, a3] (.int x :: st) h r := gr_loc m124 f124_126 rfl rfl
theorem f124_127 : gm_ft 124 127 = some (.laload, 1) := by decide +kernel
theorem r124_127 {E : Nat → Value} {d : Nat} {st : List Value} {h : gm_H} {r : gm_R × gm_H} {lv : List Value} {a k j : Nat} {vs : List Value} {v : Value} (hr : gm_rd h a = some (k, vs)) (hk : 100 ≤ k ∧ (fun t => t == 1) (k % 100) = true) (hj : j < 2 ^ 31) (hv : vs[j]? = some v) : gm_Go E d 124 127 lv (.int (nI j) :: .ref a :: st) h r ↔ gm_Go E d 124 128 lv (v :: st) h r := gr_rd m124 f124_127 rfl rfl rfl rfl (ga_ld (P := fun t => t == 1) hr hk hj hv)
theorem f124_128 : gm_ft 124 128 = some (.lcmp, 1) := by decide +kernel
theorem r124_128 {E : Nat → Value} {d : Nat} {st : List Value} {h : gm_H} {r : gm_R × gm_H} {lv : List Value} {x y : Int64} : gm_Go E d 124 128 lv (.long y :: .long x :: st) h r ↔ gm_Go E d 124 129 lv (.int (lg_cmp x y) :: st) h r := gr_pure m124 f124_128 rfl
theorem f124_129 : gm_ft 124 129 = some (.ifCond .eq 9, 3) := by decide +kernel
theorem r124_129 {E : Nat → Value} {d : Nat} {st : List Value} {h : gm_H} {r : gm_R × gm_H} {lv : List Value} {x : Int32} : gm_Go E d 124 129 lv (.int x :: st) h r ↔ (if x = 0 then gm_Go E d 124 138 lv st h r else gm_Go E d 124 132 lv st h r) := (gr_br m124 f124_129 rfl rfl rfl rfl).trans gr_if
theorem f124_132 : gm_ft 124 132 = some (.aload_n 0, 1) := by decide +kernel
theorem r124_132 {E : Nat → Value} {d : Nat} {st : List Value} {h : gm_H} {r : gm_R × gm_H} {a1 a2 a3 : Value} {x : Nat} : gm_Go E d 124 132 [.ref x, a1, a2, a3] st h r ↔ gm_Go E d 124 133 [.ref x, a1, a2, a3] (.ref x :: st) h r := gr_loc m124 f124_132 rfl rfl
theorem r124_132n {E : Nat → Value} {d : Nat} {st : List Value} {h : gm_H} {r : gm_R × gm_H} {a1 a2 a3 : Value}  : gm_Go E d 124 132 [.null, a1, a2, a3] st h r ↔ gm_Go E d 124 133 [.null, a1, a2, a3] (.null :: st) h r := gr_loc m124 f124_132 rfl rfl
theorem f124_133 : gm_ft 124 133 = some (.bipush (-5), 2) := by decide +kernel
theorem r124_133 {E : Nat → Value} {d : Nat} {st : List Value} {h : gm_H} {r : gm_R × gm_H} {lv : List Value} : gm_Go E d 124 133 lv st h r ↔ gm_Go E d 124 135 lv (.int (-5 : Int32) :: st) h r := gr_pure m124 f124_133 rfl
theorem f124_135 : gm_ft 124 135 = some (.invokevirtual 151, 3) := by decide +kernel
theorem n124_135 {st : List Value} {h : gm_H} {E : Nat → Value} {lv : List Value} {b0 : Value} {a : Nat} (hs : (st.map fun v => v.category).sum ≤ 8) (he : (gm_en1 [.ref a, b0]).length ≤ 2) {vs : List Value} (hr : gm_rd h a = some (5, vs)) : gm_next E 124 135 lv (b0 :: .ref a :: st) h = some (.inr (.inl (0, 98, [.ref a, b0], st))) := gn_call m124 f124_135 rfl rfl rfl rfl rfl rfl rfl (gc_virt (bs := [b0]) (w := 844) rfl rfl rfl rfl hs he hr) (by decide)
theorem f124_138 : gm_ft 124 138 = some (.aload_n 0, 1) := by decide +kernel
theorem r124_138 {E : Nat → Value} {d : Nat} {st : List Value} {h : gm_H} {r : gm_R × gm_H} {a1 a2 a3 : Value} {x : Nat} : gm_Go E d 124 138 [.ref x, a1, a2, a3] st h r ↔ gm_Go E d 124 139 [.ref x, a1, a2, a3] (.ref x :: st) h r := gr_loc m124 f124_138 rfl rfl
theorem r124_138n {E : Nat → Value} {d : Nat} {st : List Value} {h : gm_H} {r : gm_R × gm_H} {a1 a2 a3 : Value}  : gm_Go E d 124 138 [.null, a1, a2, a3] st h r ↔ gm_Go E d 124 139 [.null, a1, a2, a3] (.null :: st) h r := gr_loc m124 f124_138 rfl rfl
theorem f124_139 : gm_ft 124 139 = some (.iload_n 2, 1) := by decide +kernel
theorem r124_139 {E : Nat → Value} {d : Nat} {st : List Value} {h : gm_H} {r : gm_R × gm_H} {a0 a1 a3 : Value} {x : Int32} : gm_Go E d 124 139 [a0, a1, .int x, a3] st h r ↔ gm_Go E d 124 140 [a0, a1, .int x, a3] (.int x :: st) h r := gr_loc m124 f124_139 rfl rfl
theorem f124_140 : gm_ft 124 140 = some (.iload_n 3, 1) := by decide +kernel
theorem r124_140 {E : Nat → Value} {d : Nat} {st : List Value} {h : gm_H} {r : gm_R × gm_H} {a0 a1 a2 : Value} {x : Int32} : gm_Go E d 124 140 [a0, a1, a2, .int x] st h r ↔ gm_Go E d 124 141 [a0, a1, a2, .int x] (.int x :: st) h r := gr_loc m124 f124_140 rfl rfl
theorem f124_141 : gm_ft 124 141 = some (.invokevirtual 248, 3) := by decide +kernel
theorem n124_141 {st : List Value} {h : gm_H} {E : Nat → Value} {lv : List Value} {b0 b1 : Value} {a : Nat} (hs : (st.map fun v => v.category).sum ≤ 8) (he : (gm_en1 [.ref a, b0, b1]).length ≤ 6) {vs : List Value} (hr : gm_rd h a = some (5, vs)) : gm_next E 124 141 lv (b1 :: b0 :: .ref a :: st) h = some (.inr (.inl (0, 125, [.ref a, b0, b1], st))) := gn_call m124 f124_141 rfl rfl rfl rfl rfl rfl rfl (gc_virt (bs := [b1, b0]) (w := 957) rfl rfl rfl rfl hs he hr) (by decide)
theorem f124_144 : gm_ft 124 144 = some (.ifCond .eq 9, 3) := by decide +kernel
theorem r124_144 {E : Nat → Value} {d : Nat} {st : List Value} {h : gm_H} {r : gm_R × gm_H} {lv : List Value} {x : Int32} : gm_Go E d 124 144 lv (.int x :: st) h r ↔ (if x = 0 then gm_Go E d 124 153 lv st h r else gm_Go E d 124 147 lv st h r) := (gr_br m124 f124_144 rfl rfl rfl rfl).trans gr_if
theorem f124_147 : gm_ft 124 147 = some (.aload_n 0, 1) := by decide +kernel
theorem r124_147 {E : Nat → Value} {d : Nat} {st : List Value} {h : gm_H} {r : gm_R × gm_H} {a1 a2 a3 : Value} {x : Nat} : gm_Go E d 124 147 [.ref x, a1, a2, a3] st h r ↔ gm_Go E d 124 148 [.ref x, a1, a2, a3] (.ref x :: st) h r := gr_loc m124 f124_147 rfl rfl
theorem r124_147n {E : Nat → Value} {d : Nat} {st : List Value} {h : gm_H} {r : gm_R × gm_H} {a1 a2 a3 : Value}  : gm_Go E d 124 147 [.null, a1, a2, a3] st h r ↔ gm_Go E d 124 148 [.null, a1, a2, a3] (.null :: st) h r := gr_loc m124 f124_147 rfl rfl
theorem f124_148 : gm_ft 124 148 = some (.bipush (-5), 2) := by decide +kernel
theorem r124_148 {E : Nat → Value} {d : Nat} {st : List Value} {h : gm_H} {r : gm_R × gm_H} {lv : List Value} : gm_Go E d 124 148 lv st h r ↔ gm_Go E d 124 150 lv (.int (-5 : Int32) :: st) h r := gr_pure m124 f124_148 rfl
theorem f124_150 : gm_ft 124 150 = some (.invokevirtual 151, 3) := by decide +kernel
theorem n124_150 {st : List Value} {h : gm_H} {E : Nat → Value} {lv : List Value} {b0 : Value} {a : Nat} (hs : (st.map fun v => v.category).sum ≤ 8) (he : (gm_en1 [.ref a, b0]).length ≤ 2) {vs : List Value} (hr : gm_rd h a = some (5, vs)) : gm_next E 124 150 lv (b0 :: .ref a :: st) h = some (.inr (.inl (0, 98, [.ref a, b0], st))) := gn_call m124 f124_150 rfl rfl rfl rfl rfl rfl rfl (gc_virt (bs := [b0]) (w := 844) rfl rfl rfl rfl hs he hr) (by decide)
theorem f124_153 : gm_ft 124 153 = some (.aload_n 0, 1) := by decide +kernel
theorem r124_153 {E : Nat → Value} {d : Nat} {st : List Value} {h : gm_H} {r : gm_R × gm_H} {a1 a2 a3 : Value} {x : Nat} : gm_Go E d 124 153 [.ref x, a1, a2, a3] st h r ↔ gm_Go E d 124 154 [.ref x, a1, a2, a3] (.ref x :: st) h r := gr_loc m124 f124_153 rfl rfl
theorem r124_153n {E : Nat → Value} {d : Nat} {st : List Value} {h : gm_H} {r : gm_R × gm_H} {a1 a2 a3 : Value}  : gm_Go E d 124 153 [.null, a1, a2, a3] st h r ↔ gm_Go E d 124 154 [.null, a1, a2, a3] (.null :: st) h r := gr_loc m124 f124_153 rfl rfl
theorem f124_154 : gm_ft 124 154 = some (.getfield 145, 3) := by decide +kernel
theorem r124_154 {E : Nat → Value} {d : Nat} {st : List Value} {h : gm_H} {r : gm_R × gm_H} {lv : List Value} {a : Nat} {vs : List Value} {v : Value} (hr : gm_rd h a = some (5, vs)) (hv : vs[8]? = some v) : gm_Go E d 124 154 lv (.ref a :: st) h r ↔ gm_Go E d 124 157 lv (v :: st) h r := gr_rd m124 f124_154 rfl rfl rfl rfl (gf_get k5_145 hr hv)
theorem f124_157 : gm_ft 124 157 = some (.ifCond .eq 4, 3) := by decide +kernel
theorem r124_157 {E : Nat → Value} {d : Nat} {st : List Value} {h : gm_H} {r : gm_R × gm_H} {lv : List Value} {x : Int32} : gm_Go E d 124 157 lv (.int x :: st) h r ↔ (if x = 0 then gm_Go E d 124 161 lv st h r else gm_Go E d 124 160 lv st h r) := (gr_br m124 f124_157 rfl rfl rfl rfl).trans gr_if
theorem f124_160 : gm_ft 124 160 = some (.return_, 1) := by decide +kernel
theorem r124_160 {E : Nat → Value} {d : Nat} {h : gm_H} {r : gm_R × gm_H} {lv : List Value} : gm_Go E d 124 160 lv [] h r ↔ r = (.inl none, h) := gr_ret m124 f124_160 rfl rfl rfl rfl rfl rfl rfl rfl rfl
theorem f124_161 : gm_ft 124 161 = some (.aload_n 0, 1) := by decide +kernel
theorem r124_161 {E : Nat → Value} {d : Nat} {st : List Value} {h : gm_H} {r : gm_R × gm_H} {a1 a2 a3 : Value} {x : Nat} : gm_Go E d 124 161 [.ref x, a1, a2, a3] st h r ↔ gm_Go E d 124 162 [.ref x, a1, a2, a3] (.ref x :: st) h r := gr_loc m124 f124_161 rfl rfl
theorem r124_161n {E : Nat → Value} {d : Nat} {st : List Value} {h : gm_H} {r : gm_R × gm_H} {a1 a2 a3 : Value}  : gm_Go E d 124 161 [.null, a1, a2, a3] st h r ↔ gm_Go E d 124 162 [.null, a1, a2, a3] (.null :: st) h r := gr_loc m124 f124_161 rfl rfl
theorem f124_162 : gm_ft 124 162 = some (.getfield 57, 3) := by decide +kernel
theorem r124_162 {E : Nat → Value} {d : Nat} {st : List Value} {h : gm_H} {r : gm_R × gm_H} {lv : List Value} {a : Nat} {vs : List Value} {v : Value} (hr : gm_rd h a = some (5, vs)) (hv : vs[26]? = some v) : gm_Go E d 124 162 lv (.ref a :: st) h r ↔ gm_Go E d 124 165 lv (v :: st) h r := gr_rd m124 f124_162 rfl rfl rfl rfl (gf_get k5_57 hr hv)
theorem f124_165 : gm_ft 124 165 = some (.aload_n 0, 1) := by decide +kernel
theorem r124_165 {E : Nat → Value} {d : Nat} {st : List Value} {h : gm_H} {r : gm_R × gm_H} {a1 a2 a3 : Value} {x : Nat} : gm_Go E d 124 165 [.ref x, a1, a2, a3] st h r ↔ gm_Go E d 124 166 [.ref x, a1, a2, a3] (.ref x :: st) h r := gr_loc m124 f124_165 rfl rfl
theorem r124_165n {E : Nat → Value} {d : Nat} {st : List Value} {h : gm_H} {r : gm_R × gm_H} {a1 a2 a3 : Value}  : gm_Go E d 124 165 [.null, a1, a2, a3] st h r ↔ gm_Go E d 124 166 [.null, a1, a2, a3] (.null :: st) h r := gr_loc m124 f124_165 rfl rfl
theorem f124_166 : gm_ft 124 166 = some (.getfield 111, 3) := by decide +kernel
theorem r124_166 {E : Nat → Value} {d : Nat} {st : List Value} {h : gm_H} {r : gm_R × gm_H} {lv : List Value} {a : Nat} {vs : List Value} {v : Value} (hr : gm_rd h a = some (5, vs)) (hv : vs[46]? = some v) : gm_Go E d 124 166 lv (.ref a :: st) h r ↔ gm_Go E d 124 169 lv (v :: st) h r := gr_rd m124 f124_166 rfl rfl rfl rfl (gf_get k5_111 hr hv)
theorem f124_169 : gm_ft 124 169 = some (.iload_n 1, 1) := by decide +kernel
theorem r124_169 {E : Nat → Value} {d : Nat} {st : List Value} {h : gm_H} {r : gm_R × gm_H} {a0 a2 a3 : Value} {x : Int32} : gm_Go E d 124 169 [a0, .int x, a2, a3] st h r ↔ gm_Go E d 124 170 [a0, .int x, a2, a3] (.int x :: st) h r := gr_loc m124 f124_169 rfl rfl
theorem f124_170 : gm_ft 124 170 = some (.iaload, 1) := by decide +kernel
theorem r124_170 {E : Nat → Value} {d : Nat} {st : List Value} {h : gm_H} {r : gm_R × gm_H} {lv : List Value} {a k j : Nat} {vs : List Value} {v : Value} (hr : gm_rd h a = some (k, vs)) (hk : 100 ≤ k ∧ (fun t => t == 0) (k % 100) = true) (hj : j < 2 ^ 31) (hv : vs[j]? = some v) : gm_Go E d 124 170 lv (.int (nI j) :: .ref a :: st) h r ↔ gm_Go E d 124 171 lv (v :: st) h r := gr_rd m124 f124_170 rfl rfl rfl rfl (ga_ld (P := fun t => t == 0) hr hk hj hv)
theorem f124_171 : gm_ft 124 171 = some (.iconst 1, 1) := by decide +kernel
theorem r124_171 {E : Nat → Value} {d : Nat} {st : List Value} {h : gm_H} {r : gm_R × gm_H} {lv : List Value} : gm_Go E d 124 171 lv st h r ↔ gm_Go E d 124 172 lv (.int (1 : Int32) :: st) h r := gr_pure m124 f124_171 rfl
theorem f124_172 : gm_ft 124 172 = some (.iastore, 1) := by decide +kernel
theorem r124_172 {E : Nat → Value} {d : Nat} {st : List Value} {h : gm_H} {r : gm_R × gm_H} {lv : List Value} {a k j : Nat} {vs : List Value} {x : Int32} (hr : gm_rd h a = some (k, vs)) (hk : 100 ≤ k ∧ k % 100 = 0 ∧ gm_ko k = 2 ∧ 2 < 3) (hj : j < 2 ^ 31) (hl : j < vs.length) : gm_Go E d 124 172 lv (.int x :: .int (nI j) :: .ref a :: st) h r ↔ gm_Go E d 124 173 lv st (gm_wr h a (k, vs.set j (.int x))) r := gr_wr m124 f124_172 rfl rfl rfl rfl rfl (ga_st hr hk hj hl)
theorem f124_173 : gm_ft 124 173 = some (.aload_n 0, 1) := by decide +kernel
theorem r124_173 {E : Nat → Value} {d : Nat} {st : List Value} {h : gm_H} {r : gm_R × gm_H} {a1 a2 a3 : Value} {x : Nat} : gm_Go E d 124 173 [.ref x, a1, a2, a3] st h r ↔ gm_Go E d 124 174 [.ref x, a1, a2, a3] (.ref x :: st) h r := gr_loc m124 f124_173 rfl rfl
theorem r124_173n {E : Nat → Value} {d : Nat} {st : List Value} {h : gm_H} {r : gm_R × gm_H} {a1 a2 a3 : Value}  : gm_Go E d 124 173 [.null, a1, a2, a3] st h r ↔ gm_Go E d 124 174 [.null, a1, a2, a3] (.null :: st) h r := gr_loc m124 f124_173 rfl rfl
theorem f124_174 : gm_ft 124 174 = some (.iload_n 2, 1) := by decide +kernel
theorem r124_174 {E : Nat → Value} {d : Nat} {st : List Value} {h : gm_H} {r : gm_R × gm_H} {a0 a1 a3 : Value} {x : Int32} : gm_Go E d 124 174 [a0, a1, .int x, a3] st h r ↔ gm_Go E d 124 175 [a0, a1, .int x, a3] (.int x :: st) h r := gr_loc m124 f124_174 rfl rfl
theorem f124_175 : gm_ft 124 175 = some (.invokevirtual 182, 3) := by decide +kernel
theorem n124_175 {st : List Value} {h : gm_H} {E : Nat → Value} {lv : List Value} {b0 : Value} {a : Nat} (hs : (st.map fun v => v.category).sum ≤ 8) (he : (gm_en1 [.ref a, b0]).length ≤ 2) {vs : List Value} (hr : gm_rd h a = some (5, vs)) : gm_next E 124 175 lv (b0 :: .ref a :: st) h = some (.inr (.inl (0, 105, [.ref a, b0], st))) := gn_call m124 f124_175 rfl rfl rfl rfl rfl rfl rfl (gc_virt (bs := [b0]) (w := 872) rfl rfl rfl rfl hs he hr) (by decide)
theorem f124_178 : gm_ft 124 178 = some (.return_, 1) := by decide +kernel
theorem r124_178 {E : Nat → Value} {d : Nat} {h : gm_H} {r : gm_R × gm_H} {lv : List Value} : gm_Go E d 124 178 lv [] h r ↔ r = (.inl none, h) := gr_ret m124 f124_178 rfl rfl rfl rfl rfl rfl rfl rfl rfl
/-! GraphReaderModel.clash(II)Z -/
theorem m125 : gm_mt[125]? = some (⟨"GraphReaderModel", "clash", "(II)Z"⟩, prog_7_method_34_code, 6, (some .boolean), [], 5, 2) := rfl
theorem f125_0 : gm_ft 125 0 = some (.iconst 0, 1) := by decide +kernel
theorem r125_0 {E : Nat → Value} {d : Nat} {st : List Value} {h : gm_H} {r : gm_R × gm_H} {lv : List Value} : gm_Go E d 125 0 lv st h r ↔ gm_Go E d 125 1 lv (.int (0 : Int32) :: st) h r := gr_pure m125 f125_0 rfl
theorem f125_1 : gm_ft 125 1 = some (.istore_n 3, 1) := by decide +kernel
theorem r125_1 {E : Nat → Value} {d : Nat} {st : List Value} {h : gm_H} {r : gm_R × gm_H} {a0 a1 a2 a3 a4 a5 : Value} {x : Int32} : gm_Go E d 125 1 [a0, a1, a2, a3, a4, a5] (.int x :: st) h r ↔ gm_Go E d 125 2 [a0, a1, gm_k a2, .int x, a4, a5] st h r := gr_loc m125 f125_1 rfl rfl
theorem f125_2 : gm_ft 125 2 = some (.iload_n 3, 1) := by decide +kernel
theorem r125_2 {E : Nat → Value} {d : Nat} {st : List Value} {h : gm_H} {r : gm_R × gm_H} {a0 a1 a2 a4 a5 : Value} {x : Int32} : gm_Go E d 125 2 [a0, a1, a2, .int x, a4, a5] st h r ↔ gm_Go E d 125 3 [a0, a1, a2, .int x, a4, a5] (.int x :: st) h r := gr_loc m125 f125_2 rfl rfl
theorem f125_3 : gm_ft 125 3 = some (.aload_n 0, 1) := by decide +kernel
theorem r125_3 {E : Nat → Value} {d : Nat} {st : List Value} {h : gm_H} {r : gm_R × gm_H} {a1 a2 a3 a4 a5 : Value} {x : Nat} : gm_Go E d 125 3 [.ref x, a1, a2, a3, a4, a5] st h r ↔ gm_Go E d 125 4 [.ref x, a1, a2, a3, a4, a5] (.ref x :: st) h r := gr_loc m125 f125_3 rfl rfl
theorem r125_3n {E : Nat → Value} {d : Nat} {st : List Value} {h : gm_H} {r : gm_R × gm_H} {a1 a2 a3 a4 a5 : Value}  : gm_Go E d 125 3 [.null, a1, a2, a3, a4, a5] st h r ↔ gm_Go E d 125 4 [.null, a1, a2, a3, a4, a5] (.null :: st) h r := gr_loc m125 f125_3 rfl rfl
theorem f125_4 : gm_ft 125 4 = some (.getfield 81, 3) := by decide +kernel
theorem r125_4 {E : Nat → Value} {d : Nat} {st : List Value} {h : gm_H} {r : gm_R × gm_H} {lv : List Value} {a : Nat} {vs : List Value} {v : Value} (hr : gm_rd h a = some (5, vs)) (hv : vs[35]? = some v) : gm_Go E d 125 4 lv (.ref a :: st) h r ↔ gm_Go E d 125 7 lv (v :: st) h r := gr_rd m125 f125_4 rfl rfl rfl rfl (gf_get k5_81 hr hv)
theorem f125_7 : gm_ft 125 7 = some (.iload_n 1, 1) := by decide +kernel
theorem r125_7 {E : Nat → Value} {d : Nat} {st : List Value} {h : gm_H} {r : gm_R × gm_H} {a0 a2 a3 a4 a5 : Value} {x : Int32} : gm_Go E d 125 7 [a0, .int x, a2, a3, a4, a5] st h r ↔ gm_Go E d 125 8 [a0, .int x, a2, a3, a4, a5] (.int x :: st) h r := gr_loc m125 f125_7 rfl rfl
theorem f125_8 : gm_ft 125 8 = some (.iaload, 1) := by decide +kernel
theorem r125_8 {E : Nat → Value} {d : Nat} {st : List Value} {h : gm_H} {r : gm_R × gm_H} {lv : List Value} {a k j : Nat} {vs : List Value} {v : Value} (hr : gm_rd h a = some (k, vs)) (hk : 100 ≤ k ∧ (fun t => t == 0) (k % 100) = true) (hj : j < 2 ^ 31) (hv : vs[j]? = some v) : gm_Go E d 125 8 lv (.int (nI j) :: .ref a :: st) h r ↔ gm_Go E d 125 9 lv (v :: st) h r := gr_rd m125 f125_8 rfl rfl rfl rfl (ga_ld (P := fun t => t == 0) hr hk hj hv)
theorem f125_9 : gm_ft 125 9 = some (.if_icmp .ge 102, 3) := by decide +kernel
theorem r125_9 {E : Nat → Value} {d : Nat} {st : List Value} {h : gm_H} {r : gm_R × gm_H} {lv : List Value} {x y : Int32} : gm_Go E d 125 9 lv (.int y :: .int x :: st) h r ↔ (if y ≤ x then gm_Go E d 125 111 lv st h r else gm_Go E d 125 12 lv st h r) := (gr_br m125 f125_9 rfl rfl rfl rfl).trans gr_if
theorem f125_12 : gm_ft 125 12 = some (.iconst 4, 1) := by decide +kernel
theorem r125_12 {E : Nat → Value} {d : Nat} {st : List Value} {h : gm_H} {r : gm_R × gm_H} {lv : List Value} : gm_Go E d 125 12 lv st h r ↔ gm_Go E d 125 13 lv (.int (4 : Int32) :: st) h r := gr_pure m125 f125_12 rfl
theorem f125_13 : gm_ft 125 13 = some (.iload_n 2, 1) := by decide +kernel
theorem r125_13 {E : Nat → Value} {d : Nat} {st : List Value} {h : gm_H} {r : gm_R × gm_H} {a0 a1 a3 a4 a5 : Value} {x : Int32} : gm_Go E d 125 13 [a0, a1, .int x, a3, a4, a5] st h r ↔ gm_Go E d 125 14 [a0, a1, .int x, a3, a4, a5] (.int x :: st) h r := gr_loc m125 f125_13 rfl rfl
theorem f125_14 : gm_ft 125 14 = some (.imul, 1) := by decide +kernel
theorem r125_14 {E : Nat → Value} {d : Nat} {st : List Value} {h : gm_H} {r : gm_R × gm_H} {lv : List Value} {x y : Int32} : gm_Go E d 125 14 lv (.int y :: .int x :: st) h r ↔ gm_Go E d 125 15 lv (.int (x * y) :: st) h r := gr_pure m125 f125_14 rfl
theorem f125_15 : gm_ft 125 15 = some (.istore 4, 2) := by decide +kernel
theorem r125_15 {E : Nat → Value} {d : Nat} {st : List Value} {h : gm_H} {r : gm_R × gm_H} {a0 a1 a2 a3 a4 a5 : Value} {x : Int32} : gm_Go E d 125 15 [a0, a1, a2, a3, a4, a5] (.int x :: st) h r ↔ gm_Go E d 125 17 [a0, a1, a2, gm_k a3, .int x, a5] st h r := gr_loc m125 f125_15 rfl rfl
theorem f125_17 : gm_ft 125 17 = some (.iload 4, 2) := by decide +kernel
theorem r125_17 {E : Nat → Value} {d : Nat} {st : List Value} {h : gm_H} {r : gm_R × gm_H} {a0 a1 a2 a3 a5 : Value} {x : Int32} : gm_Go E d 125 17 [a0, a1, a2, a3, .int x, a5] st h r ↔ gm_Go E d 125 19 [a0, a1, a2, a3, .int x, a5] (.int x :: st) h r := gr_loc m125 f125_17 rfl rfl
theorem f125_19 : gm_ft 125 19 = some (.iconst 4, 1) := by decide +kernel
theorem r125_19 {E : Nat → Value} {d : Nat} {st : List Value} {h : gm_H} {r : gm_R × gm_H} {lv : List Value} : gm_Go E d 125 19 lv st h r ↔ gm_Go E d 125 20 lv (.int (4 : Int32) :: st) h r := gr_pure m125 f125_19 rfl
theorem f125_20 : gm_ft 125 20 = some (.iload_n 2, 1) := by decide +kernel
theorem r125_20 {E : Nat → Value} {d : Nat} {st : List Value} {h : gm_H} {r : gm_R × gm_H} {a0 a1 a3 a4 a5 : Value} {x : Int32} : gm_Go E d 125 20 [a0, a1, .int x, a3, a4, a5] st h r ↔ gm_Go E d 125 21 [a0, a1, .int x, a3, a4, a5] (.int x :: st) h r := gr_loc m125 f125_20 rfl rfl
theorem f125_21 : gm_ft 125 21 = some (.imul, 1) := by decide +kernel
theorem r125_21 {E : Nat → Value} {d : Nat} {st : List Value} {h : gm_H} {r : gm_R × gm_H} {lv : List Value} {x y : Int32} : gm_Go E d 125 21 lv (.int y :: .int x :: st) h r ↔ gm_Go E d 125 22 lv (.int (x * y) :: st) h r := gr_pure m125 f125_21 rfl
theorem f125_22 : gm_ft 125 22 = some (.aload_n 0, 1) := by decide +kernel
theorem r125_22 {E : Nat → Value} {d : Nat} {st : List Value} {h : gm_H} {r : gm_R × gm_H} {a1 a2 a3 a4 a5 : Value} {x : Nat} : gm_Go E d 125 22 [.ref x, a1, a2, a3, a4, a5] st h r ↔ gm_Go E d 125 23 [.ref x, a1, a2, a3, a4, a5] (.ref x :: st) h r := gr_loc m125 f125_22 rfl rfl
theorem r125_22n {E : Nat → Value} {d : Nat} {st : List Value} {h : gm_H} {r : gm_R × gm_H} {a1 a2 a3 a4 a5 : Value}  : gm_Go E d 125 22 [.null, a1, a2, a3, a4, a5] st h r ↔ gm_Go E d 125 23 [.null, a1, a2, a3, a4, a5] (.null :: st) h r := gr_loc m125 f125_22 rfl rfl
theorem f125_23 : gm_ft 125 23 = some (.getfield 23, 3) := by decide +kernel
theorem r125_23 {E : Nat → Value} {d : Nat} {st : List Value} {h : gm_H} {r : gm_R × gm_H} {lv : List Value} {a : Nat} {vs : List Value} {v : Value} (hr : gm_rd h a = some (5, vs)) (hv : vs[13]? = some v) : gm_Go E d 125 23 lv (.ref a :: st) h r ↔ gm_Go E d 125 26 lv (v :: st) h r := gr_rd m125 f125_23 rfl rfl rfl rfl (gf_get k5_23 hr hv)
theorem f125_26 : gm_ft 125 26 = some (.iload_n 2, 1) := by decide +kernel
theorem r125_26 {E : Nat → Value} {d : Nat} {st : List Value} {h : gm_H} {r : gm_R × gm_H} {a0 a1 a3 a4 a5 : Value} {x : Int32} : gm_Go E d 125 26 [a0, a1, .int x, a3, a4, a5] st h r ↔ gm_Go E d 125 27 [a0, a1, .int x, a3, a4, a5] (.int x :: st) h r := gr_loc m125 f125_26 rfl rfl
theorem f125_27 : gm_ft 125 27 = some (.iaload, 1) := by decide +kernel
theorem r125_27 {E : Nat → Value} {d : Nat} {st : List Value} {h : gm_H} {r : gm_R × gm_H} {lv : List Value} {a k j : Nat} {vs : List Value} {v : Value} (hr : gm_rd h a = some (k, vs)) (hk : 100 ≤ k ∧ (fun t => t == 0) (k % 100) = true) (hj : j < 2 ^ 31) (hv : vs[j]? = some v) : gm_Go E d 125 27 lv (.int (nI j) :: .ref a :: st) h r ↔ gm_Go E d 125 28 lv (v :: st) h r := gr_rd m125 f125_27 rfl rfl rfl rfl (ga_ld (P := fun t => t == 0) hr hk hj hv)
theorem f125_28 : gm_ft 125 28 = some (.iadd, 1) := by decide +kernel
theorem r125_28 {E : Nat → Value} {d : Nat} {st : List Value} {h : gm_H} {r : gm_R × gm_H} {lv : List Value} {x y : Int32} : gm_Go E d 125 28 lv (.int y :: .int x :: st) h r ↔ gm_Go E d 125 29 lv (.int (x + y) :: st) h r := gr_pure m125 f125_28 rfl
theorem f125_29 : gm_ft 125 29 = some (.if_icmp .ge 76, 3) := by decide +kernel
theorem r125_29 {E : Nat → Value} {d : Nat} {st : List Value} {h : gm_H} {r : gm_R × gm_H} {lv : List Value} {x y : Int32} : gm_Go E d 125 29 lv (.int y :: .int x :: st) h r ↔ (if y ≤ x then gm_Go E d 125 105 lv st h r else gm_Go E d 125 32 lv st h r) := (gr_br m125 f125_29 rfl rfl rfl rfl).trans gr_if
theorem f125_32 : gm_ft 125 32 = some (.aload_n 0, 1) := by decide +kernel
theorem r125_32 {E : Nat → Value} {d : Nat} {st : List Value} {h : gm_H} {r : gm_R × gm_H} {a1 a2 a3 a4 a5 : Value} {x : Nat} : gm_Go E d 125 32 [.ref x, a1, a2, a3, a4, a5] st h r ↔ gm_Go E d 125 33 [.ref x, a1, a2, a3, a4, a5] (.ref x :: st) h r := gr_loc m125 f125_32 rfl rfl
theorem r125_32n {E : Nat → Value} {d : Nat} {st : List Value} {h : gm_H} {r : gm_R × gm_H} {a1 a2 a3 a4 a5 : Value}  : gm_Go E d 125 32 [.null, a1, a2, a3, a4, a5] st h r ↔ gm_Go E d 125 33 [.null, a1, a2, a3, a4, a5] (.null :: st) h r := gr_loc m125 f125_32 rfl rfl
theorem f125_33 : gm_ft 125 33 = some (.getfield 87, 3) := by decide +kernel
theorem r125_33 {E : Nat → Value} {d : Nat} {st : List Value} {h : gm_H} {r : gm_R × gm_H} {lv : List Value} {a : Nat} {vs : List Value} {v : Value} (hr : gm_rd h a = some (5, vs)) (hv : vs[37]? = some v) : gm_Go E d 125 33 lv (.ref a :: st) h r ↔ gm_Go E d 125 36 lv (v :: st) h r := gr_rd m125 f125_33 rfl rfl rfl rfl (gf_get k5_87 hr hv)
theorem f125_36 : gm_ft 125 36 = some (.bipush 8, 2) := by decide +kernel
theorem r125_36 {E : Nat → Value} {d : Nat} {st : List Value} {h : gm_H} {r : gm_R × gm_H} {lv : List Value} : gm_Go E d 125 36 lv st h r ↔ gm_Go E d 125 38 lv (.int (8 : Int32) :: st) h r := gr_pure m125 f125_36 rfl
theorem f125_38 : gm_ft 125 38 = some (.iload_n 1, 1) := by decide +kernel
theorem r125_38 {E : Nat → Value} {d : Nat} {st : List Value} {h : gm_H} {r : gm_R × gm_H} {a0 a2 a3 a4 a5 : Value} {x : Int32} : gm_Go E d 125 38 [a0, .int x, a2, a3, a4, a5] st h r ↔ gm_Go E d 125 39 [a0, .int x, a2, a3, a4, a5] (.int x :: st) h r := gr_loc m125 f125_38 rfl rfl
theorem f125_39 : gm_ft 125 39 = some (.imul, 1) := by decide +kernel
theorem r125_39 {E : Nat → Value} {d : Nat} {st : List Value} {h : gm_H} {r : gm_R × gm_H} {lv : List Value} {x y : Int32} : gm_Go E d 125 39 lv (.int y :: .int x :: st) h r ↔ gm_Go E d 125 40 lv (.int (x * y) :: st) h r := gr_pure m125 f125_39 rfl
theorem f125_40 : gm_ft 125 40 = some (.iload_n 3, 1) := by decide +kernel
theorem r125_40 {E : Nat → Value} {d : Nat} {st : List Value} {h : gm_H} {r : gm_R × gm_H} {a0 a1 a2 a4 a5 : Value} {x : Int32} : gm_Go E d 125 40 [a0, a1, a2, .int x, a4, a5] st h r ↔ gm_Go E d 125 41 [a0, a1, a2, .int x, a4, a5] (.int x :: st) h r := gr_loc m125 f125_40 rfl rfl
theorem f125_41 : gm_ft 125 41 = some (.iadd, 1) := by decide +kernel
theorem r125_41 {E : Nat → Value} {d : Nat} {st : List Value} {h : gm_H} {r : gm_R × gm_H} {lv : List Value} {x y : Int32} : gm_Go E d 125 41 lv (.int y :: .int x :: st) h r ↔ gm_Go E d 125 42 lv (.int (x + y) :: st) h r := gr_pure m125 f125_41 rfl
theorem f125_42 : gm_ft 125 42 = some (.iaload, 1) := by decide +kernel
theorem r125_42 {E : Nat → Value} {d : Nat} {st : List Value} {h : gm_H} {r : gm_R × gm_H} {lv : List Value} {a k j : Nat} {vs : List Value} {v : Value} (hr : gm_rd h a = some (k, vs)) (hk : 100 ≤ k ∧ (fun t => t == 0) (k % 100) = true) (hj : j < 2 ^ 31) (hv : vs[j]? = some v) : gm_Go E d 125 42 lv (.int (nI j) :: .ref a :: st) h r ↔ gm_Go E d 125 43 lv (v :: st) h r := gr_rd m125 f125_42 rfl rfl rfl rfl (ga_ld (P := fun t => t == 0) hr hk hj hv)
theorem f125_43 : gm_ft 125 43 = some (.istore 5, 2) := by decide +kernel
theorem r125_43 {E : Nat → Value} {d : Nat} {st : List Value} {h : gm_H} {r : gm_R × gm_H} {a0 a1 a2 a3 a4 a5 : Value} {x : Int32} : gm_Go E d 125 43 [a0, a1, a2, a3, a4, a5] (.int x :: st) h r ↔ gm_Go E d 125 45 [a0, a1, a2, a3, gm_k a4, .int x] st h r := gr_loc m125 f125_43 rfl rfl
theorem f125_45 : gm_ft 125 45 = some (.aload_n 0, 1) := by decide +kernel
theorem r125_45 {E : Nat → Value} {d : Nat} {st : List Value} {h : gm_H} {r : gm_R × gm_H} {a1 a2 a3 a4 a5 : Value} {x : Nat} : gm_Go E d 125 45 [.ref x, a1, a2, a3, a4, a5] st h r ↔ gm_Go E d 125 46 [.ref x, a1, a2, a3, a4, a5] (.ref x :: st) h r := gr_loc m125 f125_45 rfl rfl
theorem r125_45n {E : Nat → Value} {d : Nat} {st : List Value} {h : gm_H} {r : gm_R × gm_H} {a1 a2 a3 a4 a5 : Value}  : gm_Go E d 125 45 [.null, a1, a2, a3, a4, a5] st h r ↔ gm_Go E d 125 46 [.null, a1, a2, a3, a4, a5] (.null :: st) h r := gr_loc m125 f125_45 rfl rfl
theorem f125_46 : gm_ft 125 46 = some (.getfield 26, 3) := by decide +kernel
theorem r125_46 {E : Nat → Value} {d : Nat} {st : List Value} {h : gm_H} {r : gm_R × gm_H} {lv : List Value} {a : Nat} {vs : List Value} {v : Value} (hr : gm_rd h a = some (5, vs)) (hv : vs[14]? = some v) : gm_Go E d 125 46 lv (.ref a :: st) h r ↔ gm_Go E d 125 49 lv (v :: st) h r := gr_rd m125 f125_46 rfl rfl rfl rfl (gf_get k5_26 hr hv)
theorem f125_49 : gm_ft 125 49 = some (.iload 4, 2) := by decide +kernel
theorem r125_49 {E : Nat → Value} {d : Nat} {st : List Value} {h : gm_H} {r : gm_R × gm_H} {a0 a1 a2 a3 a5 : Value} {x : Int32} : gm_Go E d 125 49 [a0, a1, a2, a3, .int x, a5] st h r ↔ gm_Go E d 125 51 [a0, a1, a2, a3, .int x, a5] (.int x :: st) h r := gr_loc m125 f125_49 rfl rfl
theorem f125_51 : gm_ft 125 51 = some (.iaload, 1) := by decide +kernel
theorem r125_51 {E : Nat → Value} {d : Nat} {st : List Value} {h : gm_H} {r : gm_R × gm_H} {lv : List Value} {a k j : Nat} {vs : List Value} {v : Value} (hr : gm_rd h a = some (k, vs)) (hk : 100 ≤ k ∧ (fun t => t == 0) (k % 100) = true) (hj : j < 2 ^ 31) (hv : vs[j]? = some v) : gm_Go E d 125 51 lv (.int (nI j) :: .ref a :: st) h r ↔ gm_Go E d 125 52 lv (v :: st) h r := gr_rd m125 f125_51 rfl rfl rfl rfl (ga_ld (P := fun t => t == 0) hr hk hj hv)
theorem f125_52 : gm_ft 125 52 = some (.aload_n 0, 1) := by decide +kernel
theorem r125_52 {E : Nat → Value} {d : Nat} {st : List Value} {h : gm_H} {r : gm_R × gm_H} {a1 a2 a3 a4 a5 : Value} {x : Nat} : gm_Go E d 125 52 [.ref x, a1, a2, a3, a4, a5] st h r ↔ gm_Go E d 125 53 [.ref x, a1, a2, a3, a4, a5] (.ref x :: st) h r := gr_loc m125 f125_52 rfl rfl
theorem r125_52n {E : Nat → Value} {d : Nat} {st : List Value} {h : gm_H} {r : gm_R × gm_H} {a1 a2 a3 a4 a5 : Value}  : gm_Go E d 125 52 [.null, a1, a2, a3, a4, a5] st h r ↔ gm_Go E d 125 53 [.null, a1, a2, a3, a4, a5] (.null :: st) h r := gr_loc m125 f125_52 rfl rfl
theorem f125_53 : gm_ft 125 53 = some (.getfield 84, 3) := by decide +kernel
theorem r125_53 {E : Nat → Value} {d : Nat} {st : List Value} {h : gm_H} {r : gm_R × gm_H} {lv : List Value} {a : Nat} {vs : List Value} {v : Value} (hr : gm_rd h a = some (5, vs)) (hv : vs[36]? = some v) : gm_Go E d 125 53 lv (.ref a :: st) h r ↔ gm_Go E d 125 56 lv (v :: st) h r := gr_rd m125 f125_53 rfl rfl rfl rfl (gf_get k5_84 hr hv)
theorem f125_56 : gm_ft 125 56 = some (.bipush 8, 2) := by decide +kernel
theorem r125_56 {E : Nat → Value} {d : Nat} {st : List Value} {h : gm_H} {r : gm_R × gm_H} {lv : List Value} : gm_Go E d 125 56 lv st h r ↔ gm_Go E d 125 58 lv (.int (8 : Int32) :: st) h r := gr_pure m125 f125_56 rfl
theorem f125_58 : gm_ft 125 58 = some (.iload_n 1, 1) := by decide +kernel
theorem r125_58 {E : Nat → Value} {d : Nat} {st : List Value} {h : gm_H} {r : gm_R × gm_H} {a0 a2 a3 a4 a5 : Value} {x : Int32} : gm_Go E d 125 58 [a0, .int x, a2, a3, a4, a5] st h r ↔ gm_Go E d 125 59 [a0, .int x, a2, a3, a4, a5] (.int x :: st) h r := gr_loc m125 f125_58 rfl rfl
theorem f125_59 : gm_ft 125 59 = some (.imul, 1) := by decide +kernel
theorem r125_59 {E : Nat → Value} {d : Nat} {st : List Value} {h : gm_H} {r : gm_R × gm_H} {lv : List Value} {x y : Int32} : gm_Go E d 125 59 lv (.int y :: .int x :: st) h r ↔ gm_Go E d 125 60 lv (.int (x * y) :: st) h r := gr_pure m125 f125_59 rfl
theorem f125_60 : gm_ft 125 60 = some (.iload_n 3, 1) := by decide +kernel
theorem r125_60 {E : Nat → Value} {d : Nat} {st : List Value} {h : gm_H} {r : gm_R × gm_H} {a0 a1 a2 a4 a5 : Value} {x : Int32} : gm_Go E d 125 60 [a0, a1, a2, .int x, a4, a5] st h r ↔ gm_Go E d 125 61 [a0, a1, a2, .int x, a4, a5] (.int x :: st) h r := gr_loc m125 f125_60 rfl rfl
theorem f125_61 : gm_ft 125 61 = some (.iadd, 1) := by decide +kernel
theorem r125_61 {E : Nat → Value} {d : Nat} {st : List Value} {h : gm_H} {r : gm_R × gm_H} {lv : List Value} {x y : Int32} : gm_Go E d 125 61 lv (.int y :: .int x :: st) h r ↔ gm_Go E d 125 62 lv (.int (x + y) :: st) h r := gr_pure m125 f125_61 rfl
theorem f125_62 : gm_ft 125 62 = some (.iaload, 1) := by decide +kernel
theorem r125_62 {E : Nat → Value} {d : Nat} {st : List Value} {h : gm_H} {r : gm_R × gm_H} {lv : List Value} {a k j : Nat} {vs : List Value} {v : Value} (hr : gm_rd h a = some (k, vs)) (hk : 100 ≤ k ∧ (fun t => t == 0) (k % 100) = true) (hj : j < 2 ^ 31) (hv : vs[j]? = some v) : gm_Go E d 125 62 lv (.int (nI j) :: .ref a :: st) h r ↔ gm_Go E d 125 63 lv (v :: st) h r := gr_rd m125 f125_62 rfl rfl rfl rfl (ga_ld (P := fun t => t == 0) hr hk hj hv)
theorem f125_63 : gm_ft 125 63 = some (.if_icmp .ne 36, 3) := by decide +kernel
theorem r125_63 {E : Nat → Value} {d : Nat} {st : List Value} {h : gm_H} {r : gm_R × gm_H} {lv : List Value} {x y : Int32} : gm_Go E d 125 63 lv (.int y :: .int x :: st) h r ↔ (if x = y then gm_Go E d 125 66 lv st h r else gm_Go E d 125 99 lv st h r) := (gr_br m125 f125_63 rfl rfl rfl rfl).trans gr_ifn
theorem f125_66 : gm_ft 125 66 = some (.aload_n 0, 1) := by decide +kernel
theorem r125_66 {E : Nat → Value} {d : Nat} {st : List Value} {h : gm_H} {r : gm_R × gm_H} {a1 a2 a3 a4 a5 : Value} {x : Nat} : gm_Go E d 125 66 [.ref x, a1, a2, a3, a4, a5] st h r ↔ gm_Go E d 125 67 [.ref x, a1, a2, a3, a4, a5] (.ref x :: st) h r := gr_loc m125 f125_66 rfl rfl
theorem r125_66n {E : Nat → Value} {d : Nat} {st : List Value} {h : gm_H} {r : gm_R × gm_H} {a1 a2 a3 a4 a5 : Value}  : gm_Go E d 125 66 [.null, a1, a2, a3, a4, a5] st h r ↔ gm_Go E d 125 67 [.null, a1, a2, a3, a4, a5] (.null :: st) h r := gr_loc m125 f125_66 rfl rfl
theorem f125_67 : gm_ft 125 67 = some (.getfield 29, 3) := by decide +kernel
theorem r125_67 {E : Nat → Value} {d : Nat} {st : List Value} {h : gm_H} {r : gm_R × gm_H} {lv : List Value} {a : Nat} {vs : List Value} {v : Value} (hr : gm_rd h a = some (5, vs)) (hv : vs[15]? = some v) : gm_Go E d 125 67 lv (.ref a :: st) h r ↔ gm_Go E d 125 70 lv (v :: st) h r := gr_rd m125 f125_67 rfl rfl rfl rfl (gf_get k5_29 hr hv)
theorem f125_70 : gm_ft 125 70 = some (.iload 4, 2) := by decide +kernel
theorem r125_70 {E : Nat → Value} {d : Nat} {st : List Value} {h : gm_H} {r : gm_R × gm_H} {a0 a1 a2 a3 a5 : Value} {x : Int32} : gm_Go E d 125 70 [a0, a1, a2, a3, .int x, a5] st h r ↔ gm_Go E d 125 72 [a0, a1, a2, a3, .int x, a5] (.int x :: st) h r := gr_loc m125 f125_70 rfl rfl
theorem f125_72 : gm_ft 125 72 = some (.iaload, 1) := by decide +kernel
theorem r125_72 {E : Nat → Value} {d : Nat} {st : List Value} {h : gm_H} {r : gm_R × gm_H} {lv : List Value} {a k j : Nat} {vs : List Value} {v : Value} (hr : gm_rd h a = some (k, vs)) (hk : 100 ≤ k ∧ (fun t => t == 0) (k % 100) = true) (hj : j < 2 ^ 31) (hv : vs[j]? = some v) : gm_Go E d 125 72 lv (.int (nI j) :: .ref a :: st) h r ↔ gm_Go E d 125 73 lv (v :: st) h r := gr_rd m125 f125_72 rfl rfl rfl rfl (ga_ld (P := fun t => t == 0) hr hk hj hv)
theorem f125_73 : gm_ft 125 73 = some (.iload 5, 2) := by decide +kernel
theorem r125_73 {E : Nat → Value} {d : Nat} {st : List Value} {h : gm_H} {r : gm_R × gm_H} {a0 a1 a2 a3 a4 : Value} {x : Int32} : gm_Go E d 125 73 [a0, a1, a2, a3, a4, .int x] st h r ↔ gm_Go E d 125 75 [a0, a1, a2, a3, a4, .int x] (.int x :: st) h r := gr_loc m125 f125_73 rfl rfl
theorem f125_75 : gm_ft 125 75 = some (.if_icmp .eq 24, 3) := by decide +kernel
theorem r125_75 {E : Nat → Value} {d : Nat} {st : List Value} {h : gm_H} {r : gm_R × gm_H} {lv : List Value} {x y : Int32} : gm_Go E d 125 75 lv (.int y :: .int x :: st) h r ↔ (if x = y then gm_Go E d 125 99 lv st h r else gm_Go E d 125 78 lv st h r) := (gr_br m125 f125_75 rfl rfl rfl rfl).trans gr_if
theorem f125_78 : gm_ft 125 78 = some (.iload 5, 2) := by decide +kernel
theorem r125_78 {E : Nat → Value} {d : Nat} {st : List Value} {h : gm_H} {r : gm_R × gm_H} {a0 a1 a2 a3 a4 : Value} {x : Int32} : gm_Go E d 125 78 [a0, a1, a2, a3, a4, .int x] st h r ↔ gm_Go E d 125 80 [a0, a1, a2, a3, a4, .int x] (.int x :: st) h r := gr_loc m125 f125_78 rfl rfl
theorem f125_80 : gm_ft 125 80 = some (.bipush 6, 2) := by decide +kernel
theorem r125_80 {E : Nat → Value} {d : Nat} {st : List Value} {h : gm_H} {r : gm_R × gm_H} {lv : List Value} : gm_Go E d 125 80 lv st h r ↔ gm_Go E d 125 82 lv (.int (6 : Int32) :: st) h r := gr_pure m125 f125_80 rfl
theorem f125_82 : gm_ft 125 82 = some (.if_icmp .lt 15, 3) := by decide +kernel
theorem r125_82 {E : Nat → Value} {d : Nat} {st : List Value} {h : gm_H} {r : gm_R × gm_H} {lv : List Value} {x y : Int32} : gm_Go E d 125 82 lv (.int y :: .int x :: st) h r ↔ (if x < y then gm_Go E d 125 97 lv st h r else gm_Go E d 125 85 lv st h r) := (gr_br m125 f125_82 rfl rfl rfl rfl).trans gr_if
theorem f125_85 : gm_ft 125 85 = some (.aload_n 0, 1) := by decide +kernel
theorem r125_85 {E : Nat → Value} {d : Nat} {st : List Value} {h : gm_H} {r : gm_R × gm_H} {a1 a2 a3 a4 a5 : Value} {x : Nat} : gm_Go E d 125 85 [.ref x, a1, a2, a3, a4, a5] st h r ↔ gm_Go E d 125 86 [.ref x, a1, a2, a3, a4, a5] (.ref x :: st) h r := gr_loc m125 f125_85 rfl rfl
theorem r125_85n {E : Nat → Value} {d : Nat} {st : List Value} {h : gm_H} {r : gm_R × gm_H} {a1 a2 a3 a4 a5 : Value}  : gm_Go E d 125 85 [.null, a1, a2, a3, a4, a5] st h r ↔ gm_Go E d 125 86 [.null, a1, a2, a3, a4, a5] (.null :: st) h r := gr_loc m125 f125_85 rfl rfl
theorem f125_86 : gm_ft 125 86 = some (.getfield 29, 3) := by decide +kernel
theorem r125_86 {E : Nat → Value} {d : Nat} {st : List Value} {h : gm_H} {r : gm_R × gm_H} {lv : List Value} {a : Nat} {vs : List Value} {v : Value} (hr : gm_rd h a = some (5, vs)) (hv : vs[15]? = some v) : gm_Go E d 125 86 lv (.ref a :: st) h r ↔ gm_Go E d 125 89 lv (v :: st) h r := gr_rd m125 f125_86 rfl rfl rfl rfl (gf_get k5_29 hr hv)
theorem f125_89 : gm_ft 125 89 = some (.iload 4, 2) := by decide +kernel
theorem r125_89 {E : Nat → Value} {d : Nat} {st : List Value} {h : gm_H} {r : gm_R × gm_H} {a0 a1 a2 a3 a5 : Value} {x : Int32} : gm_Go E d 125 89 [a0, a1, a2, a3, .int x, a5] st h r ↔ gm_Go E d 125 91 [a0, a1, a2, a3, .int x, a5] (.int x :: st) h r := gr_loc m125 f125_89 rfl rfl
theorem f125_91 : gm_ft 125 91 = some (.iaload, 1) := by decide +kernel
theorem r125_91 {E : Nat → Value} {d : Nat} {st : List Value} {h : gm_H} {r : gm_R × gm_H} {lv : List Value} {a k j : Nat} {vs : List Value} {v : Value} (hr : gm_rd h a = some (k, vs)) (hk : 100 ≤ k ∧ (fun t => t == 0) (k % 100) = true) (hj : j < 2 ^ 31) (hv : vs[j]? = some v) : gm_Go E d 125 91 lv (.int (nI j) :: .ref a :: st) h r ↔ gm_Go E d 125 92 lv (v :: st) h r := gr_rd m125 f125_91 rfl rfl rfl rfl (ga_ld (P := fun t => t == 0) hr hk hj hv)
theorem f125_92 : gm_ft 125 92 = some (.bipush 6, 2) := by decide +kernel
theorem r125_92 {E : Nat → Value} {d : Nat} {st : List Value} {h : gm_H} {r : gm_R × gm_H} {lv : List Value} : gm_Go E d 125 92 lv st h r ↔ gm_Go E d 125 94 lv (.int (6 : Int32) :: st) h r := gr_pure m125 f125_92 rfl
theorem f125_94 : gm_ft 125 94 = some (.if_icmp .ge 5, 3) := by decide +kernel
theorem r125_94 {E : Nat → Value} {d : Nat} {st : List Value} {h : gm_H} {r : gm_R × gm_H} {lv : List Value} {x y : Int32} : gm_Go E d 125 94 lv (.int y :: .int x :: st) h r ↔ (if y ≤ x then gm_Go E d 125 99 lv st h r else gm_Go E d 125 97 lv st h r) := (gr_br m125 f125_94 rfl rfl rfl rfl).trans gr_if
theorem f125_97 : gm_ft 125 97 = some (.iconst 1, 1) := by decide +kernel
theorem r125_97 {E : Nat → Value} {d : Nat} {st : List Value} {h : gm_H} {r : gm_R × gm_H} {lv : List Value} : gm_Go E d 125 97 lv st h r ↔ gm_Go E d 125 98 lv (.int (1 : Int32) :: st) h r := gr_pure m125 f125_97 rfl
theorem f125_98 : gm_ft 125 98 = some (.ireturn, 1) := by decide +kernel
theorem r125_98_0 {E : Nat → Value} {d : Nat} {h : gm_H} {r : gm_R × gm_H} {lv : List Value} : gm_Go E d 125 98 lv [.int (0 : Int32)] h r ↔ r = (.inl (some (.int (0 : Int32))), h) := gr_ret m125 f125_98 rfl rfl rfl rfl rfl rfl rfl rfl (by unfold gm_rt; dsimp only; rw [if_pos ⟨rfl, rfl⟩])
theorem r125_98_1 {E : Nat → Value} {d : Nat} {h : gm_H} {r : gm_R × gm_H} {lv : List Value} : gm_Go E d 125 98 lv [.int (1 : Int32)] h r ↔ r = (.inl (some (.int (1 : Int32))), h) := gr_ret m125 f125_98 rfl rfl rfl rfl rfl rfl rfl rfl (by unfold gm_rt; dsimp only; rw [if_pos ⟨rfl, rfl⟩])
theorem f125_99 : gm_ft 125 99 = some (.iinc 4 1, 3) := by decide +kernel
theorem r125_99 {E : Nat → Value} {d : Nat} {st : List Value} {h : gm_H} {r : gm_R × gm_H} {a0 a1 a2 a3 a5 : Value} {x : Int32} : gm_Go E d 125 99 [a0, a1, a2, a3, .int x, a5] st h r ↔ gm_Go E d 125 102 [a0, a1, a2, gm_k a3, .int (x + (1 : Int32)), a5] st h r := gr_loc m125 f125_99 rfl rfl
theorem f125_102 : gm_ft 125 102 = some (.goto (-85), 3) := by decide +kernel
theorem r125_102 {E : Nat → Value} {d : Nat} {st : List Value} {h : gm_H} {r : gm_R × gm_H} {lv : List Value} : gm_Go E d 125 102 lv st h r ↔ gm_Go E d 125 17 lv st h r := gr_brT m125 f125_102 rfl rfl rfl rfl
theorem f125_105 : gm_ft 125 105 = some (.iinc 3 1, 3) := by decide +kernel
theorem r125_105 {E : Nat → Value} {d : Nat} {st : List Value} {h : gm_H} {r : gm_R × gm_H} {a0 a1 a2 a4 a5 : Value} {x : Int32} : gm_Go E d 125 105 [a0, a1, a2, .int x, a4, a5] st h r ↔ gm_Go E d 125 108 [a0, a1, gm_k a2, .int (x + (1 : Int32)), a4, a5] st h r := gr_loc m125 f125_105 rfl rfl
theorem f125_108 : gm_ft 125 108 = some (.goto (-106), 3) := by decide +kernel
theorem r125_108 {E : Nat → Value} {d : Nat} {st : List Value} {h : gm_H} {r : gm_R × gm_H} {lv : List Value} : gm_Go E d 125 108 lv st h r ↔ gm_Go E d 125 2 lv st h r := gr_brT m125 f125_108 rfl rfl rfl rfl
theorem f125_111 : gm_ft 125 111 = some (.iconst 0, 1) := by decide +kernel
theorem r125_111 {E : Nat → Value} {d : Nat} {st : List Value} {h : gm_H} {r : gm_R × gm_H} {lv : List Value} : gm_Go E d 125 111 lv st h r ↔ gm_Go E d 125 112 lv (.int (0 : Int32) :: st) h r := gr_pure m125 f125_111 rfl
theorem f125_112 : gm_ft 125 112 = some (.ireturn, 1) := by decide +kernel
theorem r125_112_0 {E : Nat → Value} {d : Nat} {h : gm_H} {r : gm_R × gm_H} {lv : List Value} : gm_Go E d 125 112 lv [.int (0 : Int32)] h r ↔ r = (.inl (some (.int (0 : Int32))), h) := gr_ret m125 f125_112 rfl rfl rfl rfl rfl rfl rfl rfl (by unfold gm_rt; dsimp only; rw [if_pos ⟨rfl, rfl⟩])
theorem r125_112_1 {E : Nat → Value} {d : Nat} {h : gm_H} {r : gm_R × gm_H} {lv : List Value} : gm_Go E d 125 112 lv [.int (1 : Int32)] h r ↔ r = (.inl (some (.int (1 : Int32))), h) := gr_ret m125 f125_112 rfl rfl rfl rfl rfl rfl rfl rfl (by unfold gm_rt; dsimp only; rw [if_pos ⟨rfl, rfl⟩])
/-! GraphReaderModel.stepData(I)V -/
theorem m126 : gm_mt[126]? = some (⟨"GraphReaderModel", "stepData", "(I)V"⟩, prog_7_method_40_code, 7, none, [], 5, 2) := rfl
theorem f126_0 : gm_ft 126 0 = some (.aload_n 0, 1) := by decide +kernel
theorem r126_0 {E : Nat → Value} {d : Nat} {st : List Value} {h : gm_H} {r : gm_R × gm_H} {a1 a2 a3 a4 a5 a6 : Value} {x : Nat} : gm_Go E d 126 0 [.ref x, a1, a2, a3, a4, a5, a6] st h r ↔ gm_Go E d 126 1 [.ref x, a1, a2, a3, a4, a5, a6] (.ref x :: st) h r := gr_loc m126 f126_0 rfl rfl
theorem r126_0n {E : Nat → Value} {d : Nat} {st : List Value} {h : gm_H} {r : gm_R × gm_H} {a1 a2 a3 a4 a5 a6 : Value}  : gm_Go E d 126 0 [.null, a1, a2, a3, a4, a5, a6] st h r ↔ gm_Go E d 126 1 [.null, a1, a2, a3, a4, a5, a6] (.null :: st) h r := gr_loc m126 f126_0 rfl rfl
theorem f126_1 : gm_ft 126 1 = some (.getfield 102, 3) := by decide +kernel
theorem r126_1 {E : Nat → Value} {d : Nat} {st : List Value} {h : gm_H} {r : gm_R × gm_H} {lv : List Value} {a : Nat} {vs : List Value} {v : Value} (hr : gm_rd h a = some (5, vs)) (hv : vs[43]? = some v) : gm_Go E d 126 1 lv (.ref a :: st) h r ↔ gm_Go E d 126 4 lv (v :: st) h r := gr_rd m126 f126_1 rfl rfl rfl rfl (gf_get k5_102 hr hv)
theorem f126_4 : gm_ft 126 4 = some (.iload_n 1, 1) := by decide +kernel
theorem r126_4 {E : Nat → Value} {d : Nat} {st : List Value} {h : gm_H} {r : gm_R × gm_H} {a0 a2 a3 a4 a5 a6 : Value} {x : Int32} : gm_Go E d 126 4 [a0, .int x, a2, a3, a4, a5, a6] st h r ↔ gm_Go E d 126 5 [a0, .int x, a2, a3, a4, a5, a6] (.int x :: st) h r := gr_loc m126 f126_4 rfl rfl
theorem f126_5 : gm_ft 126 5 = some (.iaload, 1) := by decide +kernel
theorem r126_5 {E : Nat → Value} {d : Nat} {st : List Value} {h : gm_H} {r : gm_R × gm_H} {lv : List Value} {a k j : Nat} {vs : List Value} {v : Value} (hr : gm_rd h a = some (k, vs)) (hk : 100 ≤ k ∧ (fun t => t == 0) (k % 100) = true) (hj : j < 2 ^ 31) (hv : vs[j]? = some v) : gm_Go E d 126 5 lv (.int (nI j) :: .ref a :: st) h r ↔ gm_Go E d 126 6 lv (v :: st) h r := gr_rd m126 f126_5 rfl rfl rfl rfl (ga_ld (P := fun t => t == 0) hr hk hj hv)
theorem f126_6 : gm_ft 126 6 = some (.istore_n 2, 1) := by decide +kernel
theorem r126_6 {E : Nat → Value} {d : Nat} {st : List Value} {h : gm_H} {r : gm_R × gm_H} {a0 a1 a2 a3 a4 a5 a6 : Value} {x : Int32} : gm_Go E d 126 6 [a0, a1, a2, a3, a4, a5, a6] (.int x :: st) h r ↔ gm_Go E d 126 7 [a0, gm_k a1, .int x, a3, a4, a5, a6] st h r := gr_loc m126 f126_6 rfl rfl
theorem f126_7 : gm_ft 126 7 = some (.aload_n 0, 1) := by decide +kernel
theorem r126_7 {E : Nat → Value} {d : Nat} {st : List Value} {h : gm_H} {r : gm_R × gm_H} {a1 a2 a3 a4 a5 a6 : Value} {x : Nat} : gm_Go E d 126 7 [.ref x, a1, a2, a3, a4, a5, a6] st h r ↔ gm_Go E d 126 8 [.ref x, a1, a2, a3, a4, a5, a6] (.ref x :: st) h r := gr_loc m126 f126_7 rfl rfl
theorem r126_7n {E : Nat → Value} {d : Nat} {st : List Value} {h : gm_H} {r : gm_R × gm_H} {a1 a2 a3 a4 a5 a6 : Value}  : gm_Go E d 126 7 [.null, a1, a2, a3, a4, a5, a6] st h r ↔ gm_Go E d 126 8 [.null, a1, a2, a3, a4, a5, a6] (.null :: st) h r := gr_loc m126 f126_7 rfl rfl
theorem f126_8 : gm_ft 126 8 = some (.aload_n 0, 1) := by decide +kernel
theorem r126_8 {E : Nat → Value} {d : Nat} {st : List Value} {h : gm_H} {r : gm_R × gm_H} {a1 a2 a3 a4 a5 a6 : Value} {x : Nat} : gm_Go E d 126 8 [.ref x, a1, a2, a3, a4, a5, a6] st h r ↔ gm_Go E d 126 9 [.ref x, a1, a2, a3, a4, a5, a6] (.ref x :: st) h r := gr_loc m126 f126_8 rfl rfl
theorem r126_8n {E : Nat → Value} {d : Nat} {st : List Value} {h : gm_H} {r : gm_R × gm_H} {a1 a2 a3 a4 a5 a6 : Value}  : gm_Go E d 126 8 [.null, a1, a2, a3, a4, a5, a6] st h r ↔ gm_Go E d 126 9 [.null, a1, a2, a3, a4, a5, a6] (.null :: st) h r := gr_loc m126 f126_8 rfl rfl
theorem f126_9 : gm_ft 126 9 = some (.getfield 105, 3) := by decide +kernel
theorem r126_9 {E : Nat → Value} {d : Nat} {st : List Value} {h : gm_H} {r : gm_R × gm_H} {lv : List Value} {a : Nat} {vs : List Value} {v : Value} (hr : gm_rd h a = some (5, vs)) (hv : vs[44]? = some v) : gm_Go E d 126 9 lv (.ref a :: st) h r ↔ gm_Go E d 126 12 lv (v :: st) h r := gr_rd m126 f126_9 rfl rfl rfl rfl (gf_get k5_105 hr hv)
theorem f126_12 : gm_ft 126 12 = some (.iload_n 1, 1) := by decide +kernel
theorem r126_12 {E : Nat → Value} {d : Nat} {st : List Value} {h : gm_H} {r : gm_R × gm_H} {a0 a2 a3 a4 a5 a6 : Value} {x : Int32} : gm_Go E d 126 12 [a0, .int x, a2, a3, a4, a5, a6] st h r ↔ gm_Go E d 126 13 [a0, .int x, a2, a3, a4, a5, a6] (.int x :: st) h r := gr_loc m126 f126_12 rfl rfl
theorem f126_13 : gm_ft 126 13 = some (.iaload, 1) := by decide +kernel
theorem r126_13 {E : Nat → Value} {d : Nat} {st : List Value} {h : gm_H} {r : gm_R × gm_H} {lv : List Value} {a k j : Nat} {vs : List Value} {v : Value} (hr : gm_rd h a = some (k, vs)) (hk : 100 ≤ k ∧ (fun t => t == 0) (k % 100) = true) (hj : j < 2 ^ 31) (hv : vs[j]? = some v) : gm_Go E d 126 13 lv (.int (nI j) :: .ref a :: st) h r ↔ gm_Go E d 126 14 lv (v :: st) h r := gr_rd m126 f126_13 rfl rfl rfl rfl (ga_ld (P := fun t => t == 0) hr hk hj hv)
theorem f126_14 : gm_ft 126 14 = some (.aload_n 0, 1) := by decide +kernel
theorem r126_14 {E : Nat → Value} {d : Nat} {st : List Value} {h : gm_H} {r : gm_R × gm_H} {a1 a2 a3 a4 a5 a6 : Value} {x : Nat} : gm_Go E d 126 14 [.ref x, a1, a2, a3, a4, a5, a6] st h r ↔ gm_Go E d 126 15 [.ref x, a1, a2, a3, a4, a5, a6] (.ref x :: st) h r := gr_loc m126 f126_14 rfl rfl
theorem r126_14n {E : Nat → Value} {d : Nat} {st : List Value} {h : gm_H} {r : gm_R × gm_H} {a1 a2 a3 a4 a5 a6 : Value}  : gm_Go E d 126 14 [.null, a1, a2, a3, a4, a5, a6] st h r ↔ gm_Go E d 126 15 [.null, a1, a2, a3, a4, a5, a6] (.null :: st) h r := gr_loc m126 f126_14 rfl rfl
theorem f126_15 : gm_ft 126 15 = some (.getfield 108, 3) := by decide +kernel
theorem r126_15 {E : Nat → Value} {d : Nat} {st : List Value} {h : gm_H} {r : gm_R × gm_H} {lv : List Value} {a : Nat} {vs : List Value} {v : Value} (hr : gm_rd h a = some (5, vs)) (hv : vs[45]? = some v) : gm_Go E d 126 15 lv (.ref a :: st) h r ↔ gm_Go E d 126 18 lv (v :: st) h r := gr_rd m126 f126_15 rfl rfl rfl rfl (gf_get k5_108 hr hv)
theorem f126_18 : gm_ft 126 18 = some (.iload_n 1, 1) := by decide +kernel
theorem r126_18 {E : Nat → Value} {d : Nat} {st : List Value} {h : gm_H} {r : gm_R × gm_H} {a0 a2 a3 a4 a5 a6 : Value} {x : Int32} : gm_Go E d 126 18 [a0, .int x, a2, a3, a4, a5, a6] st h r ↔ gm_Go E d 126 19 [a0, .int x, a2, a3, a4, a5, a6] (.int x :: st) h r := gr_loc m126 f126_18 rfl rfl
theorem f126_19 : gm_ft 126 19 = some (.iaload, 1) := by decide +kernel
theorem r126_19 {E : Nat → Value} {d : Nat} {st : List Value} {h : gm_H} {r : gm_R × gm_H} {lv : List Value} {a k j : Nat} {vs : List Value} {v : Value} (hr : gm_rd h a = some (k, vs)) (hk : 100 ≤ k ∧ (fun t => t == 0) (k % 100) = true) (hj : j < 2 ^ 31) (hv : vs[j]? = some v) : gm_Go E d 126 19 lv (.int (nI j) :: .ref a :: st) h r ↔ gm_Go E d 126 20 lv (v :: st) h r := gr_rd m126 f126_19 rfl rfl rfl rfl (ga_ld (P := fun t => t == 0) hr hk hj hv)
theorem f126_20 : gm_ft 126 20 = some (.invokevirtual 263, 3) := by decide +kernel
theorem n126_20 {st : List Value} {h : gm_H} {E : Nat → Value} {lv : List Value} {b0 b1 : Value} {a : Nat} (hs : (st.map fun v => v.category).sum ≤ 8) (he : (gm_en1 [.ref a, b0, b1]).length ≤ 6) {vs : List Value} (hr : gm_rd h a = some (5, vs)) : gm_next E 126 20 lv (b1 :: b0 :: .ref a :: st) h = some (.inr (.inl (0, 127, [.ref a, b0, b1], st))) := gn_call m126 f126_20 rfl rfl rfl rfl rfl rfl rfl (gc_virt (bs := [b1, b0]) (w := 965) rfl rfl rfl rfl hs he hr) (by decide)
theorem f126_23 : gm_ft 126 23 = some (.istore_n 3, 1) := by decide +kernel
theorem r126_23 {E : Nat → Value} {d : Nat} {st : List Value} {h : gm_H} {r : gm_R × gm_H} {a0 a1 a2 a3 a4 a5 a6 : Value} {x : Int32} : gm_Go E d 126 23 [a0, a1, a2, a3, a4, a5, a6] (.int x :: st) h r ↔ gm_Go E d 126 24 [a0, a1, gm_k a2, .int x, a4, a5, a6] st h r := gr_loc m126 f126_23 rfl rfl
theorem f126_24 : gm_ft 126 24 = some (.aload_n 0, 1) := by decide +kernel
theorem r126_24 {E : Nat → Value} {d : Nat} {st : List Value} {h : gm_H} {r : gm_R × gm_H} {a1 a2 a3 a4 a5 a6 : Value} {x : Nat} : gm_Go E d 126 24 [.ref x, a1, a2, a3, a4, a5, a6] st h r ↔ gm_Go E d 126 25 [.ref x, a1, a2, a3, a4, a5, a6] (.ref x :: st) h r := gr_loc m126 f126_24 rfl rfl
theorem r126_24n {E : Nat → Value} {d : Nat} {st : List Value} {h : gm_H} {r : gm_R × gm_H} {a1 a2 a3 a4 a5 a6 : Value}  : gm_Go E d 126 24 [.null, a1, a2, a3, a4, a5, a6] st h r ↔ gm_Go E d 126 25 [.null, a1, a2, a3, a4, a5, a6] (.null :: st) h r := gr_loc m126 f126_24 rfl rfl
theorem f126_25 : gm_ft 126 25 = some (.getfield 96, 3) := by decide +kernel
theorem r126_25 {E : Nat → Value} {d : Nat} {st : List Value} {h : gm_H} {r : gm_R × gm_H} {lv : List Value} {a : Nat} {vs : List Value} {v : Value} (hr : gm_rd h a = some (5, vs)) (hv : vs[41]? = some v) : gm_Go E d 126 25 lv (.ref a :: st) h r ↔ gm_Go E d 126 28 lv (v :: st) h r := gr_rd m126 f126_25 rfl rfl rfl rfl (gf_get k5_96 hr hv)
theorem f126_28 : gm_ft 126 28 = some (.iload_n 1, 1) := by decide +kernel
theorem r126_28 {E : Nat → Value} {d : Nat} {st : List Value} {h : gm_H} {r : gm_R × gm_H} {a0 a2 a3 a4 a5 a6 : Value} {x : Int32} : gm_Go E d 126 28 [a0, .int x, a2, a3, a4, a5, a6] st h r ↔ gm_Go E d 126 29 [a0, .int x, a2, a3, a4, a5, a6] (.int x :: st) h r := gr_loc m126 f126_28 rfl rfl
theorem f126_29 : gm_ft 126 29 = some (.iaload, 1) := by decide +kernel
theorem r126_29 {E : Nat → Value} {d : Nat} {st : List Value} {h : gm_H} {r : gm_R × gm_H} {lv : List Value} {a k j : Nat} {vs : List Value} {v : Value} (hr : gm_rd h a = some (k, vs)) (hk : 100 ≤ k ∧ (fun t => t == 0) (k % 100) = true) (hj : j < 2 ^ 31) (hv : vs[j]? = some v) : gm_Go E d 126 29 lv (.int (nI j) :: .ref a :: st) h r ↔ gm_Go E d 126 30 lv (v :: st) h r := gr_rd m126 f126_29 rfl rfl rfl rfl (ga_ld (P := fun t => t == 0) hr hk hj hv)
theorem f126_30 : gm_ft 126 30 = some (.iconst 1, 1) := by decide +kernel
theorem r126_30 {E : Nat → Value} {d : Nat} {st : List Value} {h : gm_H} {r : gm_R × gm_H} {lv : List Value} : gm_Go E d 126 30 lv st h r ↔ gm_Go E d 126 31 lv (.int (1 : Int32) :: st) h r := gr_pure m126 f126_30 rfl
theorem f126_31 : gm_ft 126 31 = some (.if_icmp .ne 40, 3) := by decide +kernel
theorem r126_31 {E : Nat → Value} {d : Nat} {st : List Value} {h : gm_H} {r : gm_R × gm_H} {lv : List Value} {x y : Int32} : gm_Go E d 126 31 lv (.int y :: .int x :: st) h r ↔ (if x = y then gm_Go E d 126 34 lv st h r else gm_Go E d 126 71 lv st h r) := (gr_br m126 f126_31 rfl rfl rfl rfl).trans gr_ifn
theorem f126_34 : gm_ft 126 34 = some (.aload_n 0, 1) := by decide +kernel
theorem r126_34 {E : Nat → Value} {d : Nat} {st : List Value} {h : gm_H} {r : gm_R × gm_H} {a1 a2 a3 a4 a5 a6 : Value} {x : Nat} : gm_Go E d 126 34 [.ref x, a1, a2, a3, a4, a5, a6] st h r ↔ gm_Go E d 126 35 [.ref x, a1, a2, a3, a4, a5, a6] (.ref x :: st) h r := gr_loc m126 f126_34 rfl rfl
theorem r126_34n {E : Nat → Value} {d : Nat} {st : List Value} {h : gm_H} {r : gm_R × gm_H} {a1 a2 a3 a4 a5 a6 : Value}  : gm_Go E d 126 34 [.null, a1, a2, a3, a4, a5, a6] st h r ↔ gm_Go E d 126 35 [.null, a1, a2, a3, a4, a5, a6] (.null :: st) h r := gr_loc m126 f126_34 rfl rfl
theorem f126_35 : gm_ft 126 35 = some (.iload_n 2, 1) := by decide +kernel
theorem r126_35 {E : Nat → Value} {d : Nat} {st : List Value} {h : gm_H} {r : gm_R × gm_H} {a0 a1 a3 a4 a5 a6 : Value} {x : Int32} : gm_Go E d 126 35 [a0, a1, .int x, a3, a4, a5, a6] st h r ↔ gm_Go E d 126 36 [a0, a1, .int x, a3, a4, a5, a6] (.int x :: st) h r := gr_loc m126 f126_35 rfl rfl
theorem f126_36 : gm_ft 126 36 = some (.iload_n 3, 1) := by decide +kernel
theorem r126_36 {E : Nat → Value} {d : Nat} {st : List Value} {h : gm_H} {r : gm_R × gm_H} {a0 a1 a2 a4 a5 a6 : Value} {x : Int32} : gm_Go E d 126 36 [a0, a1, a2, .int x, a4, a5, a6] st h r ↔ gm_Go E d 126 37 [a0, a1, a2, .int x, a4, a5, a6] (.int x :: st) h r := gr_loc m126 f126_36 rfl rfl
theorem f126_37 : gm_ft 126 37 = some (.aload_n 0, 1) := by decide +kernel
theorem r126_37 {E : Nat → Value} {d : Nat} {st : List Value} {h : gm_H} {r : gm_R × gm_H} {a1 a2 a3 a4 a5 a6 : Value} {x : Nat} : gm_Go E d 126 37 [.ref x, a1, a2, a3, a4, a5, a6] st h r ↔ gm_Go E d 126 38 [.ref x, a1, a2, a3, a4, a5, a6] (.ref x :: st) h r := gr_loc m126 f126_37 rfl rfl
theorem r126_37n {E : Nat → Value} {d : Nat} {st : List Value} {h : gm_H} {r : gm_R × gm_H} {a1 a2 a3 a4 a5 a6 : Value}  : gm_Go E d 126 37 [.null, a1, a2, a3, a4, a5, a6] st h r ↔ gm_Go E d 126 38 [.null, a1, a2, a3, a4, a5, a6] (.null :: st) h r := gr_loc m126 f126_37 rfl rfl
theorem f126_38 : gm_ft 126 38 = some (.getfield 111, 3) := by decide +kernel
theorem r126_38 {E : Nat → Value} {d : Nat} {st : List Value} {h : gm_H} {r : gm_R × gm_H} {lv : List Value} {a : Nat} {vs : List Value} {v : Value} (hr : gm_rd h a = some (5, vs)) (hv : vs[46]? = some v) : gm_Go E d 126 38 lv (.ref a :: st) h r ↔ gm_Go E d 126 41 lv (v :: st) h r := gr_rd m126 f126_38 rfl rfl rfl rfl (gf_get k5_111 hr hv)
theorem f126_41 : gm_ft 126 41 = some (.iload_n 1, 1) := by decide +kernel
theorem r126_41 {E : Nat → Value} {d : Nat} {st : List Value} {h : gm_H} {r : gm_R × gm_H} {a0 a2 a3 a4 a5 a6 : Value} {x : Int32} : gm_Go E d 126 41 [a0, .int x, a2, a3, a4, a5, a6] st h r ↔ gm_Go E d 126 42 [a0, .int x, a2, a3, a4, a5, a6] (.int x :: st) h r := gr_loc m126 f126_41 rfl rfl
theorem f126_42 : gm_ft 126 42 = some (.iaload, 1) := by decide +kernel
theorem r126_42 {E : Nat → Value} {d : Nat} {st : List Value} {h : gm_H} {r : gm_R × gm_H} {lv : List Value} {a k j : Nat} {vs : List Value} {v : Value} (hr : gm_rd h a = some (k, vs)) (hk : 100 ≤ k ∧ (fun t => t == 0) (k % 100) = true) (hj : j < 2 ^ 31) (hv : vs[j]? = some v) : gm_Go E d 126 42 lv (.int (nI j) :: .ref a :: st) h r ↔ gm_Go E d 126 43 lv (v :: st) h r := gr_rd m126 f126_42 rfl rfl rfl rfl (ga_ld (P := fun t => t == 0) hr hk hj hv)
theorem f126_43 : gm_ft 126 43 = some (.aload_n 0, 1) := by decide +kernel
theorem r126_43 {E : Nat → Value} {d : Nat} {st : List Value} {h : gm_H} {r : gm_R × gm_H} {a1 a2 a3 a4 a5 a6 : Value} {x : Nat} : gm_Go E d 126 43 [.ref x, a1, a2, a3, a4, a5, a6] st h r ↔ gm_Go E d 126 44 [.ref x, a1, a2, a3, a4, a5, a6] (.ref x :: st) h r := gr_loc m126 f126_43 rfl rfl
theorem r126_43n {E : Nat → Value} {d : Nat} {st : List Value} {h : gm_H} {r : gm_R × gm_H} {a1 a2 a3 a4 a5 a6 : Value}  : gm_Go E d 126 43 [.null, a1, a2, a3, a4, a5, a6] st h r ↔ gm_Go E d 126 44 [.null, a1, a2, a3, a4, a5, a6] (.null :: st) h r := gr_loc m126 f126_43 rfl rfl
theorem f126_44 : gm_ft 126 44 = some (.getfield 178, 3) := by decide +kernel
theorem r126_44 {E : Nat → Value} {d : Nat} {st : List Value} {h : gm_H} {r : gm_R × gm_H} {lv : List Value} {a : Nat} {vs : List Value} {v : Value} (hr : gm_rd h a = some (5, vs)) (hv : vs[9]? = some v) : gm_Go E d 126 44 lv (.ref a :: st) h r ↔ gm_Go E d 126 47 lv (v :: st) h r := gr_rd m126 f126_44 rfl rfl rfl rfl (gf_get k5_178 hr hv)
theorem f126_47 : gm_ft 126 47 = some (.i2l, 1) := by decide +kernel
theorem r126_47 {E : Nat → Value} {d : Nat} {st : List Value} {h : gm_H} {r : gm_R × gm_H} {lv : List Value} {x : Int32} : gm_Go E d 126 47 lv (.int x :: st) h r ↔ gm_Go E d 126 48 lv (.long (x.toInt64) :: st) h r := gr_pure m126 f126_47 rfl
theorem f126_48 : gm_ft 126 48 = some (.invokevirtual 266, 3) := by decide +kernel
theorem n126_48 {st : List Value} {h : gm_H} {E : Nat → Value} {lv : List Value} {b0 b1 b2 b3 : Value} {a : Nat} (hs : (st.map fun v => v.category).sum ≤ 8) (he : (gm_en1 [.ref a, b0, b1, b2, b3]).length ≤ 8) {vs : List Value} (hr : gm_rd h a = some (5, vs)) : gm_next E 126 48 lv (b3 :: b2 :: b1 :: b0 :: .ref a :: st) h = some (.inr (.inl (0, 128, [.ref a, b0, b1, b2, b3], st))) := gn_call m126 f126_48 rfl rfl rfl rfl rfl rfl rfl (gc_virt (bs := [b3, b2, b1, b0]) (w := 969) rfl rfl rfl rfl hs he hr) (by decide)
theorem f126_51 : gm_ft 126 51 = some (.aload_n 0, 1) := by decide +kernel
theorem r126_51 {E : Nat → Value} {d : Nat} {st : List Value} {h : gm_H} {r : gm_R × gm_H} {a1 a2 a3 a4 a5 a6 : Value} {x : Nat} : gm_Go E d 126 51 [.ref x, a1, a2, a3, a4, a5, a6] st h r ↔ gm_Go E d 126 52 [.ref x, a1, a2, a3, a4, a5, a6] (.ref x :: st) h r := gr_loc m126 f126_51 rfl rfl
theorem r126_51n {E : Nat → Value} {d : Nat} {st : List Value} {h : gm_H} {r : gm_R × gm_H} {a1 a2 a3 a4 a5 a6 : Value}  : gm_Go E d 126 51 [.null, a1, a2, a3, a4, a5, a6] st h r ↔ gm_Go E d 126 52 [.null, a1, a2, a3, a4, a5, a6] (.null :: st) h r := gr_loc m126 f126_51 rfl rfl
theorem f126_52 : gm_ft 126 52 = some (.getfield 111, 3) := by decide +kernel
theorem r126_52 {E : Nat → Value} {d : Nat} {st : List Value} {h : gm_H} {r : gm_R × gm_H} {lv : List Value} {a : Nat} {vs : List Value} {v : Value} (hr : gm_rd h a = some (5, vs)) (hv : vs[46]? = some v) : gm_Go E d 126 52 lv (.ref a :: st) h r ↔ gm_Go E d 126 55 lv (v :: st) h r := gr_rd m126 f126_52 rfl rfl rfl rfl (gf_get k5_111 hr hv)
theorem f126_55 : gm_ft 126 55 = some (.iload_n 1, 1) := by decide +kernel
theorem r126_55 {E : Nat → Value} {d : Nat} {st : List Value} {h : gm_H} {r : gm_R × gm_H} {a0 a2 a3 a4 a5 a6 : Value} {x : Int32} : gm_Go E d 126 55 [a0, .int x, a2, a3, a4, a5, a6] st h r ↔ gm_Go E d 126 56 [a0, .int x, a2, a3, a4, a5, a6] (.int x :: st) h r := gr_loc m126 f126_55 rfl rfl
theorem f126_56 : gm_ft 126 56 = some (.dup2, 1) := by decide +kernel
theorem r126_56 {E : Nat → Value} {d : Nat} {st : List Value} {h : gm_H} {r : gm_R × gm_H} {lv : List Value} {x : Int32} {a : Nat} : gm_Go E d 126 56 lv (.int x :: .ref a :: st) h r ↔ gm_Go E d 126 57 lv (.int x :: .ref a :: .int x :: .ref a :: st) h r := gr_pure m126 f126_56 rfl
theorem f126_57 : gm_ft 126 57 = some (.iaload, 1) := by decide +kernel
theorem r126_57 {E : Nat → Value} {d : Nat} {st : List Value} {h : gm_H} {r : gm_R × gm_H} {lv : List Value} {a k j : Nat} {vs : List Value} {v : Value} (hr : gm_rd h a = some (k, vs)) (hk : 100 ≤ k ∧ (fun t => t == 0) (k % 100) = true) (hj : j < 2 ^ 31) (hv : vs[j]? = some v) : gm_Go E d 126 57 lv (.int (nI j) :: .ref a :: st) h r ↔ gm_Go E d 126 58 lv (v :: st) h r := gr_rd m126 f126_57 rfl rfl rfl rfl (ga_ld (P := fun t => t == 0) hr hk hj hv)
theorem f126_58 : gm_ft 126 58 = some (.iconst 1, 1) := by decide +kernel
theorem r126_58 {E : Nat → Value} {d : Nat} {st : List Value} {h : gm_H} {r : gm_R × gm_H} {lv : List Value} : gm_Go E d 126 58 lv st h r ↔ gm_Go E d 126 59 lv (.int (1 : Int32) :: st) h r := gr_pure m126 f126_58 rfl
theorem f126_59 : gm_ft 126 59 = some (.iadd, 1) := by decide +kernel
theorem r126_59 {E : Nat → Value} {d : Nat} {st : List Value} {h : gm_H} {r : gm_R × gm_H} {lv : List Value} {x y : Int32} : gm_Go E d 126 59 lv (.int y :: .int x :: st) h r ↔ gm_Go E d 126 60 lv (.int (x + y) :: st) h r := gr_pure m126 f126_59 rfl
theorem f126_60 : gm_ft 126 60 = some (.iastore, 1) := by decide +kernel
theorem r126_60 {E : Nat → Value} {d : Nat} {st : List Value} {h : gm_H} {r : gm_R × gm_H} {lv : List Value} {a k j : Nat} {vs : List Value} {x : Int32} (hr : gm_rd h a = some (k, vs)) (hk : 100 ≤ k ∧ k % 100 = 0 ∧ gm_ko k = 2 ∧ 2 < 3) (hj : j < 2 ^ 31) (hl : j < vs.length) : gm_Go E d 126 60 lv (.int x :: .int (nI j) :: .ref a :: st) h r ↔ gm_Go E d 126 61 lv st (gm_wr h a (k, vs.set j (.int x))) r := gr_wr m126 f126_60 rfl rfl rfl rfl rfl (ga_st hr hk hj hl)
theorem f126_61 : gm_ft 126 61 = some (.aload_n 0, 1) := by decide +kernel
theorem r126_61 {E : Nat → Value} {d : Nat} {st : List Value} {h : gm_H} {r : gm_R × gm_H} {a1 a2 a3 a4 a5 a6 : Value} {x : Nat} : gm_Go E d 126 61 [.ref x, a1, a2, a3, a4, a5, a6] st h r ↔ gm_Go E d 126 62 [.ref x, a1, a2, a3, a4, a5, a6] (.ref x :: st) h r := gr_loc m126 f126_61 rfl rfl
theorem r126_61n {E : Nat → Value} {d : Nat} {st : List Value} {h : gm_H} {r : gm_R × gm_H} {a1 a2 a3 a4 a5 a6 : Value}  : gm_Go E d 126 61 [.null, a1, a2, a3, a4, a5, a6] st h r ↔ gm_Go E d 126 62 [.null, a1, a2, a3, a4, a5, a6] (.null :: st) h r := gr_loc m126 f126_61 rfl rfl
theorem f126_62 : gm_ft 126 62 = some (.getfield 96, 3) := by decide +kernel
theorem r126_62 {E : Nat → Value} {d : Nat} {st : List Value} {h : gm_H} {r : gm_R × gm_H} {lv : List Value} {a : Nat} {vs : List Value} {v : Value} (hr : gm_rd h a = some (5, vs)) (hv : vs[41]? = some v) : gm_Go E d 126 62 lv (.ref a :: st) h r ↔ gm_Go E d 126 65 lv (v :: st) h r := gr_rd m126 f126_62 rfl rfl rfl rfl (gf_get k5_96 hr hv)
theorem f126_65 : gm_ft 126 65 = some (.iload_n 1, 1) := by decide +kernel
theorem r126_65 {E : Nat → Value} {d : Nat} {st : List Value} {h : gm_H} {r : gm_R × gm_H} {a0 a2 a3 a4 a5 a6 : Value} {x : Int32} : gm_Go E d 126 65 [a0, .int x, a2, a3, a4, a5, a6] st h r ↔ gm_Go E d 126 66 [a0, .int x, a2, a3, a4, a5, a6] (.int x :: st) h r := gr_loc m126 f126_65 rfl rfl
theorem f126_66 : gm_ft 126 66 = some (.iconst 0, 1) := by decide +kernel
theorem r126_66 {E : Nat → Value} {d : Nat} {st : List Value} {h : gm_H} {r : gm_R × gm_H} {lv : List Value} : gm_Go E d 126 66 lv st h r ↔ gm_Go E d 126 67 lv (.int (0 : Int32) :: st) h r := gr_pure m126 f126_66 rfl
theorem f126_67 : gm_ft 126 67 = some (.iastore, 1) := by decide +kernel
theorem r126_67 {E : Nat → Value} {d : Nat} {st : List Value} {h : gm_H} {r : gm_R × gm_H} {lv : List Value} {a k j : Nat} {vs : List Value} {x : Int32} (hr : gm_rd h a = some (k, vs)) (hk : 100 ≤ k ∧ k % 100 = 0 ∧ gm_ko k = 2 ∧ 2 < 3) (hj : j < 2 ^ 31) (hl : j < vs.length) : gm_Go E d 126 67 lv (.int x :: .int (nI j) :: .ref a :: st) h r ↔ gm_Go E d 126 68 lv st (gm_wr h a (k, vs.set j (.int x))) r := gr_wr m126 f126_67 rfl rfl rfl rfl rfl (ga_st hr hk hj hl)
theorem f126_68 : gm_ft 126 68 = some (.goto 195, 3) := by decide +kernel
theorem r126_68 {E : Nat → Value} {d : Nat} {st : List Value} {h : gm_H} {r : gm_R × gm_H} {lv : List Value} : gm_Go E d 126 68 lv st h r ↔ gm_Go E d 126 263 lv st h r := gr_brT m126 f126_68 rfl rfl rfl rfl
theorem f126_71 : gm_ft 126 71 = some (.aload_n 0, 1) := by decide +kernel
theorem r126_71 {E : Nat → Value} {d : Nat} {st : List Value} {h : gm_H} {r : gm_R × gm_H} {a1 a2 a3 a4 a5 a6 : Value} {x : Nat} : gm_Go E d 126 71 [.ref x, a1, a2, a3, a4, a5, a6] st h r ↔ gm_Go E d 126 72 [.ref x, a1, a2, a3, a4, a5, a6] (.ref x :: st) h r := gr_loc m126 f126_71 rfl rfl
theorem r126_71n {E : Nat → Value} {d : Nat} {st : List Value} {h : gm_H} {r : gm_R × gm_H} {a1 a2 a3 a4 a5 a6 : Value}  : gm_Go E d 126 71 [.null, a1, a2, a3, a4, a5, a6] st h r ↔ gm_Go E d 126 72 [.null, a1, a2, a3, a4, a5, a6] (.null :: st) h r := gr_loc m126 f126_71 rfl rfl
theorem f126_72 : gm_ft 126 72 = some (.getfield 96, 3) := by decide +kernel
theorem r126_72 {E : Nat → Value} {d : Nat} {st : List Value} {h : gm_H} {r : gm_R × gm_H} {lv : List Value} {a : Nat} {vs : List Value} {v : Value} (hr : gm_rd h a = some (5, vs)) (hv : vs[41]? = some v) : gm_Go E d 126 72 lv (.ref a :: st) h r ↔ gm_Go E d 126 75 lv (v :: st) h r := gr_rd m126 f126_72 rfl rfl rfl rfl (gf_get k5_96 hr hv)
theorem f126_75 : gm_ft 126 75 = some (.iload_n 1, 1) := by decide +kernel
theorem r126_75 {E : Nat → Value} {d : Nat} {st : List Value} {h : gm_H} {r : gm_R × gm_H} {a0 a2 a3 a4 a5 a6 : Value} {x : Int32} : gm_Go E d 126 75 [a0, .int x, a2, a3, a4, a5, a6] st h r ↔ gm_Go E d 126 76 [a0, .int x, a2, a3, a4, a5, a6] (.int x :: st) h r := gr_loc m126 f126_75 rfl rfl
theorem f126_76 : gm_ft 126 76 = some (.iaload, 1) := by decide +kernel
theorem r126_76 {E : Nat → Value} {d : Nat} {st : List Value} {h : gm_H} {r : gm_R × gm_H} {lv : List Value} {a k j : Nat} {vs : List Value} {v : Value} (hr : gm_rd h a = some (k, vs)) (hk : 100 ≤ k ∧ (fun t => t == 0) (k % 100) = true) (hj : j < 2 ^ 31) (hv : vs[j]? = some v) : gm_Go E d 126 76 lv (.int (nI j) :: .ref a :: st) h r ↔ gm_Go E d 126 77 lv (v :: st) h r := gr_rd m126 f126_76 rfl rfl rfl rfl (ga_ld (P := fun t => t == 0) hr hk hj hv)
theorem f126_77 : gm_ft 126 77 = some (.iconst 2, 1) := by decide +kernel
theorem r126_77 {E : Nat → Value} {d : Nat} {st : List Value} {h : gm_H} {r : gm_R × gm_H} {lv : List Value} : gm_Go E d 126 77 lv st h r ↔ gm_Go E d 126 78 lv (.int (2 : Int32) :: st) h r := gr_pure m126 f126_77 rfl
theorem f126_78 : gm_ft 126 78 = some (.if_icmp .ne 30, 3) := by decide +kernel
theorem r126_78 {E : Nat → Value} {d : Nat} {st : List Value} {h : gm_H} {r : gm_R × gm_H} {lv : List Value} {x y : Int32} : gm_Go E d 126 78 lv (.int y :: .int x :: st) h r ↔ (if x = y then gm_Go E d 126 81 lv st h r else gm_Go E d 126 108 lv st h r) := (gr_br m126 f126_78 rfl rfl rfl rfl).trans gr_ifn
theorem f126_81 : gm_ft 126 81 = some (.aload_n 0, 1) := by decide +kernel
theorem r126_81 {E : Nat → Value} {d : Nat} {st : List Value} {h : gm_H} {r : gm_R × gm_H} {a1 a2 a3 a4 a5 a6 : Value} {x : Nat} : gm_Go E d 126 81 [.ref x, a1, a2, a3, a4, a5, a6] st h r ↔ gm_Go E d 126 82 [.ref x, a1, a2, a3, a4, a5, a6] (.ref x :: st) h r := gr_loc m126 f126_81 rfl rfl
theorem r126_81n {E : Nat → Value} {d : Nat} {st : List Value} {h : gm_H} {r : gm_R × gm_H} {a1 a2 a3 a4 a5 a6 : Value}  : gm_Go E d 126 81 [.null, a1, a2, a3, a4, a5, a6] st h r ↔ gm_Go E d 126 82 [.null, a1, a2, a3, a4, a5, a6] (.null :: st) h r := gr_loc m126 f126_81 rfl rfl
theorem f126_82 : gm_ft 126 82 = some (.getfield 108, 3) := by decide +kernel
theorem r126_82 {E : Nat → Value} {d : Nat} {st : List Value} {h : gm_H} {r : gm_R × gm_H} {lv : List Value} {a : Nat} {vs : List Value} {v : Value} (hr : gm_rd h a = some (5, vs)) (hv : vs[45]? = some v) : gm_Go E d 126 82 lv (.ref a :: st) h r ↔ gm_Go E d 126 85 lv (v :: st) h r := gr_rd m126 f126_82 rfl rfl rfl rfl (gf_get k5_108 hr hv)
theorem f126_85 : gm_ft 126 85 = some (.iload_n 1, 1) := by decide +kernel
theorem r126_85 {E : Nat → Value} {d : Nat} {st : List Value} {h : gm_H} {r : gm_R × gm_H} {a0 a2 a3 a4 a5 a6 : Value} {x : Int32} : gm_Go E d 126 85 [a0, .int x, a2, a3, a4, a5, a6] st h r ↔ gm_Go E d 126 86 [a0, .int x, a2, a3, a4, a5, a6] (.int x :: st) h r := gr_loc m126 f126_85 rfl rfl
theorem f126_86 : gm_ft 126 86 = some (.dup2, 1) := by decide +kernel
theorem r126_86 {E : Nat → Value} {d : Nat} {st : List Value} {h : gm_H} {r : gm_R × gm_H} {lv : List Value} {x : Int32} {a : Nat} : gm_Go E d 126 86 lv (.int x :: .ref a :: st) h r ↔ gm_Go E d 126 87 lv (.int x :: .ref a :: .int x :: .ref a :: st) h r := gr_pure m126 f126_86 rfl
theorem f126_87 : gm_ft 126 87 = some (.iaload, 1) := by decide +kernel
theorem r126_87 {E : Nat → Value} {d : Nat} {st : List Value} {h : gm_H} {r : gm_R × gm_H} {lv : List Value} {a k j : Nat} {vs : List Value} {v : Value} (hr : gm_rd h a = some (k, vs)) (hk : 100 ≤ k ∧ (fun t => t == 0) (k % 100) = true) (hj : j < 2 ^ 31) (hv : vs[j]? = some v) : gm_Go E d 126 87 lv (.int (nI j) :: .ref a :: st) h r ↔ gm_Go E d 126 88 lv (v :: st) h r := gr_rd m126 f126_87 rfl rfl rfl rfl (ga_ld (P := fun t => t == 0) hr hk hj hv)
theorem f126_88 : gm_ft 126 88 = some (.iconst 1, 1) := by decide +kernel
theorem r126_88 {E : Nat → Value} {d : Nat} {st : List Value} {h : gm_H} {r : gm_R × gm_H} {lv : List Value} : gm_Go E d 126 88 lv st h r ↔ gm_Go E d 126 89 lv (.int (1 : Int32) :: st) h r := gr_pure m126 f126_88 rfl
theorem f126_89 : gm_ft 126 89 = some (.iadd, 1) := by decide +kernel
theorem r126_89 {E : Nat → Value} {d : Nat} {st : List Value} {h : gm_H} {r : gm_R × gm_H} {lv : List Value} {x y : Int32} : gm_Go E d 126 89 lv (.int y :: .int x :: st) h r ↔ gm_Go E d 126 90 lv (.int (x + y) :: st) h r := gr_pure m126 f126_89 rfl
theorem f126_90 : gm_ft 126 90 = some (.iastore, 1) := by decide +kernel
theorem r126_90 {E : Nat → Value} {d : Nat} {st : List Value} {h : gm_H} {r : gm_R × gm_H} {lv : List Value} {a k j : Nat} {vs : List Value} {x : Int32} (hr : gm_rd h a = some (k, vs)) (hk : 100 ≤ k ∧ k % 100 = 0 ∧ gm_ko k = 2 ∧ 2 < 3) (hj : j < 2 ^ 31) (hl : j < vs.length) : gm_Go E d 126 90 lv (.int x :: .int (nI j) :: .ref a :: st) h r ↔ gm_Go E d 126 91 lv st (gm_wr h a (k, vs.set j (.int x))) r := gr_wr m126 f126_90 rfl rfl rfl rfl rfl (ga_st hr hk hj hl)
theorem f126_91 : gm_ft 126 91 = some (.aload_n 0, 1) := by decide +kernel
theorem r126_91 {E : Nat → Value} {d : Nat} {st : List Value} {h : gm_H} {r : gm_R × gm_H} {a1 a2 a3 a4 a5 a6 : Value} {x : Nat} : gm_Go E d 126 91 [.ref x, a1, a2, a3, a4, a5, a6] st h r ↔ gm_Go E d 126 92 [.ref x, a1, a2, a3, a4, a5, a6] (.ref x :: st) h r := gr_loc m126 f126_91 rfl rfl
theorem r126_91n {E : Nat → Value} {d : Nat} {st : List Value} {h : gm_H} {r : gm_R × gm_H} {a1 a2 a3 a4 a5 a6 : Value}  : gm_Go E d 126 91 [.null, a1, a2, a3, a4, a5, a6] st h r ↔ gm_Go E d 126 92 [.null, a1, a2, a3, a4, a5, a6] (.null :: st) h r := gr_loc m126 f126_91 rfl rfl
theorem f126_92 : gm_ft 126 92 = some (.getfield 111, 3) := by decide +kernel
theorem r126_92 {E : Nat → Value} {d : Nat} {st : List Value} {h : gm_H} {r : gm_R × gm_H} {lv : List Value} {a : Nat} {vs : List Value} {v : Value} (hr : gm_rd h a = some (5, vs)) (hv : vs[46]? = some v) : gm_Go E d 126 92 lv (.ref a :: st) h r ↔ gm_Go E d 126 95 lv (v :: st) h r := gr_rd m126 f126_92 rfl rfl rfl rfl (gf_get k5_111 hr hv)
theorem f126_95 : gm_ft 126 95 = some (.iload_n 1, 1) := by decide +kernel
theorem r126_95 {E : Nat → Value} {d : Nat} {st : List Value} {h : gm_H} {r : gm_R × gm_H} {a0 a2 a3 a4 a5 a6 : Value} {x : Int32} : gm_Go E d 126 95 [a0, .int x, a2, a3, a4, a5, a6] st h r ↔ gm_Go E d 126 96 [a0, .int x, a2, a3, a4, a5, a6] (.int x :: st) h r := gr_loc m126 f126_95 rfl rfl
theorem f126_96 : gm_ft 126 96 = some (.iconst 0, 1) := by decide +kernel
theorem r126_96 {E : Nat → Value} {d : Nat} {st : List Value} {h : gm_H} {r : gm_R × gm_H} {lv : List Value} : gm_Go E d 126 96 lv st h r ↔ gm_Go E d 126 97 lv (.int (0 : Int32) :: st) h r := gr_pure m126 f126_96 rfl
theorem f126_97 : gm_ft 126 97 = some (.iastore, 1) := by decide +kernel
theorem r126_97 {E : Nat → Value} {d : Nat} {st : List Value} {h : gm_H} {r : gm_R × gm_H} {lv : List Value} {a k j : Nat} {vs : List Value} {x : Int32} (hr : gm_rd h a = some (k, vs)) (hk : 100 ≤ k ∧ k % 100 = 0 ∧ gm_ko k = 2 ∧ 2 < 3) (hj : j < 2 ^ 31) (hl : j < vs.length) : gm_Go E d 126 97 lv (.int x :: .int (nI j) :: .ref a :: st) h r ↔ gm_Go E d 126 98 lv st (gm_wr h a (k, vs.set j (.int x))) r := gr_wr m126 f126_97 rfl rfl rfl rfl rfl (ga_st hr hk hj hl)
theorem f126_98 : gm_ft 126 98 = some (.aload_n 0, 1) := by decide +kernel
theorem r126_98 {E : Nat → Value} {d : Nat} {st : List Value} {h : gm_H} {r : gm_R × gm_H} {a1 a2 a3 a4 a5 a6 : Value} {x : Nat} : gm_Go E d 126 98 [.ref x, a1, a2, a3, a4, a5, a6] st h r ↔ gm_Go E d 126 99 [.ref x, a1, a2, a3, a4, a5, a6] (.ref x :: st) h r := gr_loc m126 f126_98 rfl rfl
theorem r126_98n {E : Nat → Value} {d : Nat} {st : List Value} {h : gm_H} {r : gm_R × gm_H} {a1 a2 a3 a4 a5 a6 : Value}  : gm_Go E d 126 98 [.null, a1, a2, a3, a4, a5, a6] st h r ↔ gm_Go E d 126 99 [.null, a1, a2, a3, a4, a5, a6] (.null :: st) h r := gr_loc m126 f126_98 rfl rfl
theorem f126_99 : gm_ft 126 99 = some (.getfield 96, 3) := by decide +kernel
theorem r126_99 {E : Nat → Value} {d : Nat} {st : List Value} {h : gm_H} {r : gm_R × gm_H} {lv : List Value} {a : Nat} {vs : List Value} {v : Value} (hr : gm_rd h a = some (5, vs)) (hv : vs[41]? = some v) : gm_Go E d 126 99 lv (.ref a :: st) h r ↔ gm_Go E d 126 102 lv (v :: st) h r := gr_rd m126 f126_99 rfl rfl rfl rfl (gf_get k5_96 hr hv)
theorem f126_102 : gm_ft 126 102 = some (.iload_n 1, 1) := by decide +kernel
theorem r126_102 {E : Nat → Value} {d : Nat} {st : List Value} {h : gm_H} {r : gm_R × gm_H} {a0 a2 a3 a4 a5 a6 : Value} {x : Int32} : gm_Go E d 126 102 [a0, .int x, a2, a3, a4, a5, a6] st h r ↔ gm_Go E d 126 103 [a0, .int x, a2, a3, a4, a5, a6] (.int x :: st) h r := gr_loc m126 f126_102 rfl rfl
theorem f126_103 : gm_ft 126 103 = some (.iconst 0, 1) := by decide +kernel
theorem r126_103 {E : Nat → Value} {d : Nat} {st : List Value} {h : gm_H} {r : gm_R × gm_H} {lv : List Value} : gm_Go E d 126 103 lv st h r ↔ gm_Go E d 126 104 lv (.int (0 : Int32) :: st) h r := gr_pure m126 f126_103 rfl
theorem f126_104 : gm_ft 126 104 = some (.iastore, 1) := by decide +kernel
theorem r126_104 {E : Nat → Value} {d : Nat} {st : List Value} {h : gm_H} {r : gm_R × gm_H} {lv : List Value} {a k j : Nat} {vs : List Value} {x : Int32} (hr : gm_rd h a = some (k, vs)) (hk : 100 ≤ k ∧ k % 100 = 0 ∧ gm_ko k = 2 ∧ 2 < 3) (hj : j < 2 ^ 31) (hl : j < vs.length) : gm_Go E d 126 104 lv (.int x :: .int (nI j) :: .ref a :: st) h r ↔ gm_Go E d 126 105 lv st (gm_wr h a (k, vs.set j (.int x))) r := gr_wr m126 f126_104 rfl rfl rfl rfl rfl (ga_st hr hk hj hl)
theorem f126_105 : gm_ft 126 105 = some (.goto 158, 3) := by decide +kernel
theorem r126_105 {E : Nat → Value} {d : Nat} {st : List Value} {h : gm_H} {r : gm_R × gm_H} {lv : List Value} : gm_Go E d 126 105 lv st h r ↔ gm_Go E d 126 263 lv st h r := gr_brT m126 f126_105 rfl rfl rfl rfl
theorem f126_108 : gm_ft 126 108 = some (.iload_n 3, 1) := by decide +kernel
theorem r126_108 {E : Nat → Value} {d : Nat} {st : List Value} {h : gm_H} {r : gm_R × gm_H} {a0 a1 a2 a4 a5 a6 : Value} {x : Int32} : gm_Go E d 126 108 [a0, a1, a2, .int x, a4, a5, a6] st h r ↔ gm_Go E d 126 109 [a0, a1, a2, .int x, a4, a5, a6] (.int x :: st) h r := gr_loc m126 f126_108 rfl rfl
theorem f126_109 : gm_ft 126 109 = some (.ifCond .ge 11, 3) := by decide +kernel
theorem r126_109 {E : Nat → Value} {d : Nat} {st : List Value} {h : gm_H} {r : gm_R × gm_H} {lv : List Value} {x : Int32} : gm_Go E d 126 109 lv (.int x :: st) h r ↔ (if 0 ≤ x then gm_Go E d 126 120 lv st h r else gm_Go E d 126 112 lv st h r) := (gr_br m126 f126_109 rfl rfl rfl rfl).trans gr_if
theorem f126_112 : gm_ft 126 112 = some (.aload_n 0, 1) := by decide +kernel
theorem r126_112 {E : Nat → Value} {d : Nat} {st : List Value} {h : gm_H} {r : gm_R × gm_H} {a1 a2 a3 a4 a5 a6 : Value} {x : Nat} : gm_Go E d 126 112 [.ref x, a1, a2, a3, a4, a5, a6] st h r ↔ gm_Go E d 126 113 [.ref x, a1, a2, a3, a4, a5, a6] (.ref x :: st) h r := gr_loc m126 f126_112 rfl rfl
theorem r126_112n {E : Nat → Value} {d : Nat} {st : List Value} {h : gm_H} {r : gm_R × gm_H} {a1 a2 a3 a4 a5 a6 : Value}  : gm_Go E d 126 112 [.null, a1, a2, a3, a4, a5, a6] st h r ↔ gm_Go E d 126 113 [.null, a1, a2, a3, a4, a5, a6] (.null :: st) h r := gr_loc m126 f126_112 rfl rfl
theorem f126_113 : gm_ft 126 113 = some (.iload_n 2, 1) := by decide +kernel
theorem r126_113 {E : Nat → Value} {d : Nat} {st : List Value} {h : gm_H} {r : gm_R × gm_H} {a0 a1 a3 a4 a5 a6 : Value} {x : Int32} : gm_Go E d 126 113 [a0, a1, .int x, a3, a4, a5, a6] st h r ↔ gm_Go E d 126 114 [a0, a1, .int x, a3, a4, a5, a6] (.int x :: st) h r := gr_loc m126 f126_113 rfl rfl
theorem f126_114 : gm_ft 126 114 = some (.invokevirtual 182, 3) := by decide +kernel
theorem n126_114 {st : List Value} {h : gm_H} {E : Nat → Value} {lv : List Value} {b0 : Value} {a : Nat} (hs : (st.map fun v => v.category).sum ≤ 8) (he : (gm_en1 [.ref a, b0]).length ≤ 2) {vs : List Value} (hr : gm_rd h a = some (5, vs)) : gm_next E 126 114 lv (b0 :: .ref a :: st) h = some (.inr (.inl (0, 105, [.ref a, b0], st))) := gn_call m126 f126_114 rfl rfl rfl rfl rfl rfl rfl (gc_virt (bs := [b0]) (w := 872) rfl rfl rfl rfl hs he hr) (by decide)
theorem f126_117 : gm_ft 126 117 = some (.goto 146, 3) := by decide +kernel
theorem r126_117 {E : Nat → Value} {d : Nat} {st : List Value} {h : gm_H} {r : gm_R × gm_H} {lv : List Value} : gm_Go E d 126 117 lv st h r ↔ gm_Go E d 126 263 lv st h r := gr_brT m126 f126_117 rfl rfl rfl rfl
theorem f126_120 : gm_ft 126 120 = some (.aload_n 0, 1) := by decide +kernel
theorem r126_120 {E : Nat → Value} {d : Nat} {st : List Value} {h : gm_H} {r : gm_R × gm_H} {a1 a2 a3 a4 a5 a6 : Value} {x : Nat} : gm_Go E d 126 120 [.ref x, a1, a2, a3, a4, a5, a6] st h r ↔ gm_Go E d 126 121 [.ref x, a1, a2, a3, a4, a5, a6] (.ref x :: st) h r := gr_loc m126 f126_120 rfl rfl
theorem r126_120n {E : Nat → Value} {d : Nat} {st : List Value} {h : gm_H} {r : gm_R × gm_H} {a1 a2 a3 a4 a5 a6 : Value}  : gm_Go E d 126 120 [.null, a1, a2, a3, a4, a5, a6] st h r ↔ gm_Go E d 126 121 [.null, a1, a2, a3, a4, a5, a6] (.null :: st) h r := gr_loc m126 f126_120 rfl rfl
theorem f126_121 : gm_ft 126 121 = some (.getfield 111, 3) := by decide +kernel
theorem r126_121 {E : Nat → Value} {d : Nat} {st : List Value} {h : gm_H} {r : gm_R × gm_H} {lv : List Value} {a : Nat} {vs : List Value} {v : Value} (hr : gm_rd h a = some (5, vs)) (hv : vs[46]? = some v) : gm_Go E d 126 121 lv (.ref a :: st) h r ↔ gm_Go E d 126 124 lv (v :: st) h r := gr_rd m126 f126_121 rfl rfl rfl rfl (gf_get k5_111 hr hv)
theorem f126_124 : gm_ft 126 124 = some (.iload_n 1, 1) := by decide +kernel
theorem r126_124 {E : Nat → Value} {d : Nat} {st : List Value} {h : gm_H} {r : gm_R × gm_H} {a0 a2 a3 a4 a5 a6 : Value} {x : Int32} : gm_Go E d 126 124 [a0, .int x, a2, a3, a4, a5, a6] st h r ↔ gm_Go E d 126 125 [a0, .int x, a2, a3, a4, a5, a6] (.int x :: st) h r := gr_loc m126 f126_124 rfl rfl
theorem f126_125 : gm_ft 126 125 = some (.iaload, 1) := by decide +kernel
theorem r126_125 {E : Nat → Value} {d : Nat} {st : List Value} {h : gm_H} {r : gm_R × gm_H} {lv : List Value} {a k j : Nat} {vs : List Value} {v : Value} (hr : gm_rd h a = some (k, vs)) (hk : 100 ≤ k ∧ (fun t => t == 0) (k % 100) = true) (hj : j < 2 ^ 31) (hv : vs[j]? = some v) : gm_Go E d 126 125 lv (.int (nI j) :: .ref a :: st) h r ↔ gm_Go E d 126 126 lv (v :: st) h r := gr_rd m126 f126_125 rfl rfl rfl rfl (ga_ld (P := fun t => t == 0) hr hk hj hv)
theorem f126_126 : gm_ft 126 126 = some (.aload_n 0, 1) := by decide +kernel
theorem r126_126 {E : Nat → Value} {d : Nat} {st : List Value} {h : gm_H} {r : gm_R × gm_H} {a1 a2 a3 a4 a5 a6 : Value} {x : Nat} : gm_Go E d 126 126 [.ref x, a1, a2, a3, a4, a5, a6] st h r ↔ gm_Go E d 126 127 [.ref x, a1, a2, a3, a4, a5, a6] (.ref x :: st) h r := gr_loc m126 f126_126 rfl rfl
theorem r126_126n {E : Nat → Value} {d : Nat} {st : List Value} {h : gm_H} {r : gm_R × gm_H} {a1 a2 a3 a4 a5 a6 : Value}  : gm_Go E d 126 126 [.null, a1, a2, a3, a4, a5, a6] st h r ↔ gm_Go E d 126 127 [.null, a1, a2, a3, a4, a5, a6] (.null :: st) h r := gr_loc m126 f126_126 rfl rfl
theorem f126_127 : gm_ft 126 127 = some (.getfield 81, 3) := by decide +kernel
theorem r126_127 {E : Nat → Value} {d : Nat} {st : List Value} {h : gm_H} {r : gm_R × gm_H} {lv : List Value} {a : Nat} {vs : List Value} {v : Value} (hr : gm_rd h a = some (5, vs)) (hv : vs[35]? = some v) : gm_Go E d 126 127 lv (.ref a :: st) h r ↔ gm_Go E d 126 130 lv (v :: st) h r := gr_rd m126 f126_127 rfl rfl rfl rfl (gf_get k5_81 hr hv)
theorem f126_130 : gm_ft 126 130 = some (.iload_n 3, 1) := by decide +kernel
theorem r126_130 {E : Nat → Value} {d : Nat} {st : List Value} {h : gm_H} {r : gm_R × gm_H} {a0 a1 a2 a4 a5 a6 : Value} {x : Int32} : gm_Go E d 126 130 [a0, a1, a2, .int x, a4, a5, a6] st h r ↔ gm_Go E d 126 131 [a0, a1, a2, .int x, a4, a5, a6] (.int x :: st) h r := gr_loc m126 f126_130 rfl rfl
theorem f126_131 : gm_ft 126 131 = some (.iaload, 1) := by decide +kernel
theorem r126_131 {E : Nat → Value} {d : Nat} {st : List Value} {h : gm_H} {r : gm_R × gm_H} {lv : List Value} {a k j : Nat} {vs : List Value} {v : Value} (hr : gm_rd h a = some (k, vs)) (hk : 100 ≤ k ∧ (fun t => t == 0) (k % 100) = true) (hj : j < 2 ^ 31) (hv : vs[j]? = some v) : gm_Go E d 126 131 lv (.int (nI j) :: .ref a :: st) h r ↔ gm_Go E d 126 132 lv (v :: st) h r := gr_rd m126 f126_131 rfl rfl rfl rfl (ga_ld (P := fun t => t == 0) hr hk hj hv)
theorem f126_132 : gm_ft 126 132 = some (.if_icmp .ge 94, 3) := by decide +kernel
theorem r126_132 {E : Nat → Value} {d : Nat} {st : List Value} {h : gm_H} {r : gm_R × gm_H} {lv : List Value} {x y : Int32} : gm_Go E d 126 132 lv (.int y :: .int x :: st) h r ↔ (if y ≤ x then gm_Go E d 126 226 lv st h r else gm_Go E d 126 135 lv st h r) := (gr_br m126 f126_132 rfl rfl rfl rfl).trans gr_if
theorem f126_135 : gm_ft 126 135 = some (.aload_n 0, 1) := by decide +kernel
theorem r126_135 {E : Nat → Value} {d : Nat} {st : List Value} {h : gm_H} {r : gm_R × gm_H} {a1 a2 a3 a4 a5 a6 : Value} {x : Nat} : gm_Go E d 126 135 [.ref x, a1, a2, a3, a4, a5, a6] st h r ↔ gm_Go E d 126 136 [.ref x, a1, a2, a3, a4, a5, a6] (.ref x :: st) h r := gr_loc m126 f126_135 rfl rfl
theorem r126_135n {E : Nat → Value} {d : Nat} {st : List Value} {h : gm_H} {r : gm_R × gm_H} {a1 a2 a3 a4 a5 a6 : Value}  : gm_Go E d 126 135 [.null, a1, a2, a3, a4, a5, a6] st h r ↔ gm_Go E d 126 136 [.null, a1, a2, a3, a4, a5, a6] (.null :: st) h r := gr_loc m126 f126_135 rfl rfl
theorem f126_136 : gm_ft 126 136 = some (.getfield 87, 3) := by decide +kernel
theorem r126_136 {E : Nat → Value} {d : Nat} {st : List Value} {h : gm_H} {r : gm_R × gm_H} {lv : List Value} {a : Nat} {vs : List Value} {v : Value} (hr : gm_rd h a = some (5, vs)) (hv : vs[37]? = some v) : gm_Go E d 126 136 lv (.ref a :: st) h r ↔ gm_Go E d 126 139 lv (v :: st) h r := gr_rd m126 f126_136 rfl rfl rfl rfl (gf_get k5_87 hr hv)
theorem f126_139 : gm_ft 126 139 = some (.bipush 8, 2) := by decide +kernel
theorem r126_139 {E : Nat → Value} {d : Nat} {st : List Value} {h : gm_H} {r : gm_R × gm_H} {lv : List Value} : gm_Go E d 126 139 lv st h r ↔ gm_Go E d 126 141 lv (.int (8 : Int32) :: st) h r := gr_pure m126 f126_139 rfl
theorem f126_141 : gm_ft 126 141 = some (.iload_n 3, 1) := by decide +kernel
theorem r126_141 {E : Nat → Value} {d : Nat} {st : List Value} {h : gm_H} {r : gm_R × gm_H} {a0 a1 a2 a4 a5 a6 : Value} {x : Int32} : gm_Go E d 126 141 [a0, a1, a2, .int x, a4, a5, a6] st h r ↔ gm_Go E d 126 142 [a0, a1, a2, .int x, a4, a5, a6] (.int x :: st) h r := gr_loc m126 f126_141 rfl rfl
theorem f126_142 : gm_ft 126 142 = some (.imul, 1) := by decide +kernel
theorem r126_142 {E : Nat → Value} {d : Nat} {st : List Value} {h : gm_H} {r : gm_R × gm_H} {lv : List Value} {x y : Int32} : gm_Go E d 126 142 lv (.int y :: .int x :: st) h r ↔ gm_Go E d 126 143 lv (.int (x * y) :: st) h r := gr_pure m126 f126_142 rfl
theorem f126_143 : gm_ft 126 143 = some (.aload_n 0, 1) := by decide +kernel
theorem r126_143 {E : Nat → Value} {d : Nat} {st : List Value} {h : gm_H} {r : gm_R × gm_H} {a1 a2 a3 a4 a5 a6 : Value} {x : Nat} : gm_Go E d 126 143 [.ref x, a1, a2, a3, a4, a5, a6] st h r ↔ gm_Go E d 126 144 [.ref x, a1, a2, a3, a4, a5, a6] (.ref x :: st) h r := gr_loc m126 f126_143 rfl rfl
theorem r126_143n {E : Nat → Value} {d : Nat} {st : List Value} {h : gm_H} {r : gm_R × gm_H} {a1 a2 a3 a4 a5 a6 : Value}  : gm_Go E d 126 143 [.null, a1, a2, a3, a4, a5, a6] st h r ↔ gm_Go E d 126 144 [.null, a1, a2, a3, a4, a5, a6] (.null :: st) h r := gr_loc m126 f126_143 rfl rfl
theorem f126_144 : gm_ft 126 144 = some (.getfield 111, 3) := by decide +kernel
theorem r126_144 {E : Nat → Value} {d : Nat} {st : List Value} {h : gm_H} {r : gm_R × gm_H} {lv : List Value} {a : Nat} {vs : List Value} {v : Value} (hr : gm_rd h a = some (5, vs)) (hv : vs[46]? = some v) : gm_Go E d 126 144 lv (.ref a :: st) h r ↔ gm_Go E d 126 147 lv (v :: st) h r := gr_rd m126 f126_144 rfl rfl rfl rfl (gf_get k5_111 hr hv)
theorem f126_147 : gm_ft 126 147 = some (.iload_n 1, 1) := by decide +kernel
theorem r126_147 {E : Nat → Value} {d : Nat} {st : List Value} {h : gm_H} {r : gm_R × gm_H} {a0 a2 a3 a4 a5 a6 : Value} {x : Int32} : gm_Go E d 126 147 [a0, .int x, a2, a3, a4, a5, a6] st h r ↔ gm_Go E d 126 148 [a0, .int x, a2, a3, a4, a5, a6] (.int x :: st) h r := gr_loc m126 f126_147 rfl rfl
theorem f126_148 : gm_ft 126 148 = some (.iaload, 1) := by decide +kernel
theorem r126_148 {E : Nat → Value} {d : Nat} {st : List Value} {h : gm_H} {r : gm_R × gm_H} {lv : List Value} {a k j : Nat} {vs : List Value} {v : Value} (hr : gm_rd h a = some (k, vs)) (hk : 100 ≤ k ∧ (fun t => t == 0) (k % 100) = true) (hj : j < 2 ^ 31) (hv : vs[j]? = some v) : gm_Go E d 126 148 lv (.int (nI j) :: .ref a :: st) h r ↔ gm_Go E d 126 149 lv (v :: st) h r := gr_rd m126 f126_148 rfl rfl rfl rfl (ga_ld (P := fun t => t == 0) hr hk hj hv)
theorem f126_149 : gm_ft 126 149 = some (.iadd, 1) := by decide +kernel
theorem r126_149 {E : Nat → Value} {d : Nat} {st : List Value} {h : gm_H} {r : gm_R × gm_H} {lv : List Value} {x y : Int32} : gm_Go E d 126 149 lv (.int y :: .int x :: st) h r ↔ gm_Go E d 126 150 lv (.int (x + y) :: st) h r := gr_pure m126 f126_149 rfl
theorem f126_150 : gm_ft 126 150 = some (.iaload, 1) := by decide +kernel
theorem r126_150 {E : Nat → Value} {d : Nat} {st : List Value} {h : gm_H} {r : gm_R × gm_H} {lv : List Value} {a k j : Nat} {vs : List Value} {v : Value} (hr : gm_rd h a = some (k, vs)) (hk : 100 ≤ k ∧ (fun t => t == 0) (k % 100) = true) (hj : j < 2 ^ 31) (hv : vs[j]? = some v) : gm_Go E d 126 150 lv (.int (nI j) :: .ref a :: st) h r ↔ gm_Go E d 126 151 lv (v :: st) h r := gr_rd m126 f126_150 rfl rfl rfl rfl (ga_ld (P := fun t => t == 0) hr hk hj hv)
theorem f126_151 : gm_ft 126 151 = some (.istore 4, 2) := by decide +kernel
theorem r126_151 {E : Nat → Value} {d : Nat} {st : List Value} {h : gm_H} {r : gm_R × gm_H} {a0 a1 a2 a3 a4 a5 a6 : Value} {x : Int32} : gm_Go E d 126 151 [a0, a1, a2, a3, a4, a5, a6] (.int x :: st) h r ↔ gm_Go E d 126 153 [a0, a1, a2, gm_k a3, .int x, a5, a6] st h r := gr_loc m126 f126_151 rfl rfl
theorem f126_153 : gm_ft 126 153 = some (.iload 4, 2) := by decide +kernel
theorem r126_153 {E : Nat → Value} {d : Nat} {st : List Value} {h : gm_H} {r : gm_R × gm_H} {a0 a1 a2 a3 a5 a6 : Value} {x : Int32} : gm_Go E d 126 153 [a0, a1, a2, a3, .int x, a5, a6] st h r ↔ gm_Go E d 126 155 [a0, a1, a2, a3, .int x, a5, a6] (.int x :: st) h r := gr_loc m126 f126_153 rfl rfl
theorem f126_155 : gm_ft 126 155 = some (.iconst 5, 1) := by decide +kernel
theorem r126_155 {E : Nat → Value} {d : Nat} {st : List Value} {h : gm_H} {r : gm_R × gm_H} {lv : List Value} : gm_Go E d 126 155 lv st h r ↔ gm_Go E d 126 156 lv (.int (5 : Int32) :: st) h r := gr_pure m126 f126_155 rfl
theorem f126_156 : gm_ft 126 156 = some (.if_icmp .le 28, 3) := by decide +kernel
theorem r126_156 {E : Nat → Value} {d : Nat} {st : List Value} {h : gm_H} {r : gm_R × gm_H} {lv : List Value} {x y : Int32} : gm_Go E d 126 156 lv (.int y :: .int x :: st) h r ↔ (if x ≤ y then gm_Go E d 126 184 lv st h r else gm_Go E d 126 159 lv st h r) := (gr_br m126 f126_156 rfl rfl rfl rfl).trans gr_if
theorem f126_159 : gm_ft 126 159 = some (.aload_n 0, 1) := by decide +kernel
theorem r126_159 {E : Nat → Value} {d : Nat} {st : List Value} {h : gm_H} {r : gm_R × gm_H} {a1 a2 a3 a4 a5 a6 : Value} {x : Nat} : gm_Go E d 126 159 [.ref x, a1, a2, a3, a4, a5, a6] st h r ↔ gm_Go E d 126 160 [.ref x, a1, a2, a3, a4, a5, a6] (.ref x :: st) h r := gr_loc m126 f126_159 rfl rfl
theorem r126_159n {E : Nat → Value} {d : Nat} {st : List Value} {h : gm_H} {r : gm_R × gm_H} {a1 a2 a3 a4 a5 a6 : Value}  : gm_Go E d 126 159 [.null, a1, a2, a3, a4, a5, a6] st h r ↔ gm_Go E d 126 160 [.null, a1, a2, a3, a4, a5, a6] (.null :: st) h r := gr_loc m126 f126_159 rfl rfl
theorem f126_160 : gm_ft 126 160 = some (.getfield 96, 3) := by decide +kernel
theorem r126_160 {E : Nat → Value} {d : Nat} {st : List Value} {h : gm_H} {r : gm_R × gm_H} {lv : List Value} {a : Nat} {vs : List Value} {v : Value} (hr : gm_rd h a = some (5, vs)) (hv : vs[41]? = some v) : gm_Go E d 126 160 lv (.ref a :: st) h r ↔ gm_Go E d 126 163 lv (v :: st) h r := gr_rd m126 f126_160 rfl rfl rfl rfl (gf_get k5_96 hr hv)
theorem f126_163 : gm_ft 126 163 = some (.iload_n 1, 1) := by decide +kernel
theorem r126_163 {E : Nat → Value} {d : Nat} {st : List Value} {h : gm_H} {r : gm_R × gm_H} {a0 a2 a3 a4 a5 a6 : Value} {x : Int32} : gm_Go E d 126 163 [a0, .int x, a2, a3, a4, a5, a6] st h r ↔ gm_Go E d 126 164 [a0, .int x, a2, a3, a4, a5, a6] (.int x :: st) h r := gr_loc m126 f126_163 rfl rfl
theorem f126_164 : gm_ft 126 164 = some (.iconst 1, 1) := by decide +kernel
theorem r126_164 {E : Nat → Value} {d : Nat} {st : List Value} {h : gm_H} {r : gm_R × gm_H} {lv : List Value} : gm_Go E d 126 164 lv st h r ↔ gm_Go E d 126 165 lv (.int (1 : Int32) :: st) h r := gr_pure m126 f126_164 rfl
theorem f126_165 : gm_ft 126 165 = some (.iastore, 1) := by decide +kernel
theorem r126_165 {E : Nat → Value} {d : Nat} {st : List Value} {h : gm_H} {r : gm_R × gm_H} {lv : List Value} {a k j : Nat} {vs : List Value} {x : Int32} (hr : gm_rd h a = some (k, vs)) (hk : 100 ≤ k ∧ k % 100 = 0 ∧ gm_ko k = 2 ∧ 2 < 3) (hj : j < 2 ^ 31) (hl : j < vs.length) : gm_Go E d 126 165 lv (.int x :: .int (nI j) :: .ref a :: st) h r ↔ gm_Go E d 126 166 lv st (gm_wr h a (k, vs.set j (.int x))) r := gr_wr m126 f126_165 rfl rfl rfl rfl rfl (ga_st hr hk hj hl)
theorem f126_166 : gm_ft 126 166 = some (.aload_n 0, 1) := by decide +kernel
theorem r126_166 {E : Nat → Value} {d : Nat} {st : List Value} {h : gm_H} {r : gm_R × gm_H} {a1 a2 a3 a4 a5 a6 : Value} {x : Nat} : gm_Go E d 126 166 [.ref x, a1, a2, a3, a4, a5, a6] st h r ↔ gm_Go E d 126 167 [.ref x, a1, a2, a3, a4, a5, a6] (.ref x :: st) h r := gr_loc m126 f126_166 rfl rfl
theorem r126_166n {E : Nat → Value} {d : Nat} {st : List Value} {h : gm_H} {r : gm_R × gm_H} {a1 a2 a3 a4 a5 a6 : Value}  : gm_Go E d 126 166 [.null, a1, a2, a3, a4, a5, a6] st h r ↔ gm_Go E d 126 167 [.null, a1, a2, a3, a4, a5, a6] (.null :: st) h r := gr_loc m126 f126_166 rfl rfl
theorem f126_167 : gm_ft 126 167 = some (.iconst 1, 1) := by decide +kernel
theorem r126_167 {E : Nat → Value} {d : Nat} {st : List Value} {h : gm_H} {r : gm_R × gm_H} {lv : List Value} : gm_Go E d 126 167 lv st h r ↔ gm_Go E d 126 168 lv (.int (1 : Int32) :: st) h r := gr_pure m126 f126_167 rfl
theorem f126_168 : gm_ft 126 168 = some (.aload_n 0, 1) := by decide +kernel
theorem r126_168 {E : Nat → Value} {d : Nat} {st : List Value} {h : gm_H} {r : gm_R × gm_H} {a1 a2 a3 a4 a5 a6 : Value} {x : Nat} : gm_Go E d 126 168 [.ref x, a1, a2, a3, a4, a5, a6] st h r ↔ gm_Go E d 126 169 [.ref x, a1, a2, a3, a4, a5, a6] (.ref x :: st) h r := gr_loc m126 f126_168 rfl rfl
theorem r126_168n {E : Nat → Value} {d : Nat} {st : List Value} {h : gm_H} {r : gm_R × gm_H} {a1 a2 a3 a4 a5 a6 : Value}  : gm_Go E d 126 168 [.null, a1, a2, a3, a4, a5, a6] st h r ↔ gm_Go E d 126 169 [.null, a1, a2, a3, a4, a5, a6] (.null :: st) h r := gr_loc m126 f126_168 rfl rfl
theorem f126_169 : gm_ft 126 169 = some (.getfield 99, 3) := by decide +kernel
theorem r126_169 {E : Nat → Value} {d : Nat} {st : List Value} {h : gm_H} {r : gm_R × gm_H} {lv : List Value} {a : Nat} {vs : List Value} {v : Value} (hr : gm_rd h a = some (5, vs)) (hv : vs[42]? = some v) : gm_Go E d 126 169 lv (.ref a :: st) h r ↔ gm_Go E d 126 172 lv (v :: st) h r := gr_rd m126 f126_169 rfl rfl rfl rfl (gf_get k5_99 hr hv)
theorem f126_172 : gm_ft 126 172 = some (.iload_n 1, 1) := by decide +kernel
theorem r126_172 {E : Nat → Value} {d : Nat} {st : List Value} {h : gm_H} {r : gm_R × gm_H} {a0 a2 a3 a4 a5 a6 : Value} {x : Int32} : gm_Go E d 126 172 [a0, .int x, a2, a3, a4, a5, a6] st h r ↔ gm_Go E d 126 173 [a0, .int x, a2, a3, a4, a5, a6] (.int x :: st) h r := gr_loc m126 f126_172 rfl rfl
theorem f126_173 : gm_ft 126 173 = some (.iaload, 1) := by decide +kernel
theorem r126_173 {E : Nat → Value} {d : Nat} {st : List Value} {h : gm_H} {r : gm_R × gm_H} {lv : List Value} {a k j : Nat} {vs : List Value} {v : Value} (hr : gm_rd h a = some (k, vs)) (hk : 100 ≤ k ∧ (fun t => t == 0) (k % 100) = true) (hj : j < 2 ^ 31) (hv : vs[j]? = some v) : gm_Go E d 126 173 lv (.int (nI j) :: .ref a :: st) h r ↔ gm_Go E d 126 174 lv (v :: st) h r := gr_rd m126 f126_173 rfl rfl rfl rfl (ga_ld (P := fun t => t == 0) hr hk hj hv)
theorem f126_174 : gm_ft 126 174 = some (.iconst 1, 1) := by decide +kernel
theorem r126_174 {E : Nat → Value} {d : Nat} {st : List Value} {h : gm_H} {r : gm_R × gm_H} {lv : List Value} : gm_Go E d 126 174 lv st h r ↔ gm_Go E d 126 175 lv (.int (1 : Int32) :: st) h r := gr_pure m126 f126_174 rfl
theorem f126_175 : gm_ft 126 175 = some (.iadd, 1) := by decide +kernel
theorem r126_175 {E : Nat → Value} {d : Nat} {st : List Value} {h : gm_H} {r : gm_R × gm_H} {lv : List Value} {x y : Int32} : gm_Go E d 126 175 lv (.int y :: .int x :: st) h r ↔ gm_Go E d 126 176 lv (.int (x + y) :: st) h r := gr_pure m126 f126_175 rfl
theorem f126_176 : gm_ft 126 176 = some (.iconst 0, 1) := by decide +kernel
theorem r126_176 {E : Nat → Value} {d : Nat} {st : List Value} {h : gm_H} {r : gm_R × gm_H} {lv : List Value} : gm_Go E d 126 176 lv st h r ↔ gm_Go E d 126 177 lv (.int (0 : Int32) :: st) h r := gr_pure m126 f126_176 rfl
theorem f126_177 : gm_ft 126 177 = some (.iconst 0, 1) := by decide +kernel
theorem r126_177 {E : Nat → Value} {d : Nat} {st : List Value} {h : gm_H} {r : gm_R × gm_H} {lv : List Value} : gm_Go E d 126 177 lv st h r ↔ gm_Go E d 126 178 lv (.int (0 : Int32) :: st) h r := gr_pure m126 f126_177 rfl
theorem f126_178 : gm_ft 126 178 = some (.invokevirtual 200, 3) := by decide +kernel
theorem n126_178 {st : List Value} {h : gm_H} {E : Nat → Value} {lv : List Value} {b0 b1 b2 b3 : Value} {a : Nat} (hs : (st.map fun v => v.category).sum ≤ 8) (he : (gm_en1 [.ref a, b0, b1, b2, b3]).length ≤ 5) {vs : List Value} (hr : gm_rd h a = some (5, vs)) : gm_next E 126 178 lv (b3 :: b2 :: b1 :: b0 :: .ref a :: st) h = some (.inr (.inl (0, 101, [.ref a, b0, b1, b2, b3], st))) := gn_call m126 f126_178 rfl rfl rfl rfl rfl rfl rfl (gc_virt (bs := [b3, b2, b1, b0]) (w := 856) rfl rfl rfl rfl hs he hr) (by decide)
theorem f126_181 : gm_ft 126 181 = some (.goto 42, 3) := by decide +kernel
theorem r126_181 {E : Nat → Value} {d : Nat} {st : List Value} {h : gm_H} {r : gm_R × gm_H} {lv : List Value} : gm_Go E d 126 181 lv st h r ↔ gm_Go E d 126 223 lv st h r := gr_brT m126 f126_181 rfl rfl rfl rfl
theorem f126_184 : gm_ft 126 184 = some (.aload_n 0, 1) := by decide +kernel
theorem r126_184 {E : Nat → Value} {d : Nat} {st : List Value} {h : gm_H} {r : gm_R × gm_H} {a1 a2 a3 a4 a5 a6 : Value} {x : Nat} : gm_Go E d 126 184 [.ref x, a1, a2, a3, a4, a5, a6] st h r ↔ gm_Go E d 126 185 [.ref x, a1, a2, a3, a4, a5, a6] (.ref x :: st) h r := gr_loc m126 f126_184 rfl rfl
theorem r126_184n {E : Nat → Value} {d : Nat} {st : List Value} {h : gm_H} {r : gm_R × gm_H} {a1 a2 a3 a4 a5 a6 : Value}  : gm_Go E d 126 184 [.null, a1, a2, a3, a4, a5, a6] st h r ↔ gm_Go E d 126 185 [.null, a1, a2, a3, a4, a5, a6] (.null :: st) h r := gr_loc m126 f126_184 rfl rfl
theorem f126_185 : gm_ft 126 185 = some (.iload 4, 2) := by decide +kernel
theorem r126_185 {E : Nat → Value} {d : Nat} {st : List Value} {h : gm_H} {r : gm_R × gm_H} {a0 a1 a2 a3 a5 a6 : Value} {x : Int32} : gm_Go E d 126 185 [a0, a1, a2, a3, .int x, a5, a6] st h r ↔ gm_Go E d 126 187 [a0, a1, a2, a3, .int x, a5, a6] (.int x :: st) h r := gr_loc m126 f126_185 rfl rfl
theorem f126_187 : gm_ft 126 187 = some (.invokevirtual 270, 3) := by decide +kernel
theorem n126_187 {st : List Value} {h : gm_H} {E : Nat → Value} {lv : List Value} {b0 : Value} {a : Nat} (hs : (st.map fun v => v.category).sum ≤ 8) (he : (gm_en1 [.ref a, b0]).length ≤ 2) {vs : List Value} (hr : gm_rd h a = some (5, vs)) : gm_next E 126 187 lv (b0 :: .ref a :: st) h = some (.inr (.inl (0, 130, [.ref a, b0], st))) := gn_call m126 f126_187 rfl rfl rfl rfl rfl rfl rfl (gc_virt (bs := [b0]) (w := 977) rfl rfl rfl rfl hs he hr) (by decide)
theorem f126_190 : gm_ft 126 190 = some (.lstore 5, 2) := by decide +kernel
theorem r126_190 {E : Nat → Value} {d : Nat} {st : List Value} {h : gm_H} {r : gm_R × gm_H} {a0 a1 a2 a3 a4 a5 a6 : Value} {x : Int64} : gm_Go E d 126 190 [a0, a1, a2, a3, a4, a5, a6] (.long x :: st) h r ↔ gm_Go E d 126 192 [a0, a1, a2, a3, gm_k a4, .long x, gm_u] st h r := gr_loc m126 f126_190 rfl rfl
theorem f126_192 : gm_ft 126 192 = some (.aload_n 0, 1) := by decide +kernel
theorem r126_192 {E : Nat → Value} {d : Nat} {st : List Value} {h : gm_H} {r : gm_R × gm_H} {a1 a2 a3 a4 a5 a6 : Value} {x : Nat} : gm_Go E d 126 192 [.ref x, a1, a2, a3, a4, a5, a6] st h r ↔ gm_Go E d 126 193 [.ref x, a1, a2, a3, a4, a5, a6] (.ref x :: st) h r := gr_loc m126 f126_192 rfl rfl
theorem r126_192n {E : Nat → Value} {d : Nat} {st : List Value} {h : gm_H} {r : gm_R × gm_H} {a1 a2 a3 a4 a5 a6 : Value}  : gm_Go E d 126 192 [.null, a1, a2, a3, a4, a5, a6] st h r ↔ gm_Go E d 126 193 [.null, a1, a2, a3, a4, a5, a6] (.null :: st) h r := gr_loc m126 f126_192 rfl rfl
theorem f126_193 : gm_ft 126 193 = some (.getfield 145, 3) := by decide +kernel
theorem r126_193 {E : Nat → Value} {d : Nat} {st : List Value} {h : gm_H} {r : gm_R × gm_H} {lv : List Value} {a : Nat} {vs : List Value} {v : Value} (hr : gm_rd h a = some (5, vs)) (hv : vs[8]? = some v) : gm_Go E d 126 193 lv (.ref a :: st) h r ↔ gm_Go E d 126 196 lv (v :: st) h r := gr_rd m126 f126_193 rfl rfl rfl rfl (gf_get k5_145 hr hv)
theorem f126_196 : gm_ft 126 196 = some (.ifCond .ne 17, 3) := by decide +kernel
theorem r126_196 {E : Nat → Value} {d : Nat} {st : List Value} {h : gm_H} {r : gm_R × gm_H} {lv : List Value} {x : Int32} : gm_Go E d 126 196 lv (.int x :: st) h r ↔ (if x = 0 then gm_Go E d 126 199 lv st h r else gm_Go E d 126 213 lv st h r) := (gr_br m126 f126_196 rfl rfl rfl rfl).trans gr_ifn
theorem f126_199 : gm_ft 126 199 = some (.aload_n 0, 1) := by decide +kernel
theorem r126_199 {E : Nat → Value} {d : Nat} {st : List Value} {h : gm_H} {r : gm_R × gm_H} {a1 a2 a3 a4 a5 a6 : Value} {x : Nat} : gm_Go E d 126 199 [.ref x, a1, a2, a3, a4, a5, a6] st h r ↔ gm_Go E d 126 200 [.ref x, a1, a2, a3, a4, a5, a6] (.ref x :: st) h r := gr_loc m126 f126_199 rfl rfl
theorem r126_199n {E : Nat → Value} {d : Nat} {st : List Value} {h : gm_H} {r : gm_R × gm_H} {a1 a2 a3 a4 a5 a6 : Value}  : gm_Go E d 126 199 [.null, a1, a2, a3, a4, a5, a6] st h r ↔ gm_Go E d 126 200 [.null, a1, a2, a3, a4, a5, a6] (.null :: st) h r := gr_loc m126 f126_199 rfl rfl
theorem f126_200 : gm_ft 126 200 = some (.iload_n 2, 1) := by decide +kernel
theorem r126_200 {E : Nat → Value} {d : Nat} {st : List Value} {h : gm_H} {r : gm_R × gm_H} {a0 a1 a3 a4 a5 a6 : Value} {x : Int32} : gm_Go E d 126 200 [a0, a1, .int x, a3, a4, a5, a6] st h r ↔ gm_Go E d 126 201 [a0, a1, .int x, a3, a4, a5, a6] (.int x :: st) h r := gr_loc m126 f126_200 rfl rfl
theorem f126_201 : gm_ft 126 201 = some (.iload_n 3, 1) := by decide +kernel
theorem r126_201 {E : Nat → Value} {d : Nat} {st : List Value} {h : gm_H} {r : gm_R × gm_H} {a0 a1 a2 a4 a5 a6 : Value} {x : Int32} : gm_Go E d 126 201 [a0, a1, a2, .int x, a4, a5, a6] st h r ↔ gm_Go E d 126 202 [a0, a1, a2, .int x, a4, a5, a6] (.int x :: st) h r := gr_loc m126 f126_201 rfl rfl
theorem f126_202 : gm_ft 126 202 = some (.aload_n 0, 1) := by decide +kernel
theorem r126_202 {E : Nat → Value} {d : Nat} {st : List Value} {h : gm_H} {r : gm_R × gm_H} {a1 a2 a3 a4 a5 a6 : Value} {x : Nat} : gm_Go E d 126 202 [.ref x, a1, a2, a3, a4, a5, a6] st h r ↔ gm_Go E d 126 203 [.ref x, a1, a2, a3, a4, a5, a6] (.ref x :: st) h r := gr_loc m126 f126_202 rfl rfl
theorem r126_202n {E : Nat → Value} {d : Nat} {st : List Value} {h : gm_H} {r : gm_R × gm_H} {a1 a2 a3 a4 a5 a6 : Value}  : gm_Go E d 126 202 [.null, a1, a2, a3, a4, a5, a6] st h r ↔ gm_Go E d 126 203 [.null, a1, a2, a3, a4, a5, a6] (.null :: st) h r := gr_loc m126 f126_202 rfl rfl
theorem f126_203 : gm_ft 126 203 = some (.getfield 111, 3) := by decide +kernel
theorem r126_203 {E : Nat → Value} {d : Nat} {st : List Value} {h : gm_H} {r : gm_R × gm_H} {lv : List Value} {a : Nat} {vs : List Value} {v : Value} (hr : gm_rd h a = some (5, vs)) (hv : vs[46]? = some v) : gm_Go E d 126 203 lv (.ref a :: st) h r ↔ gm_Go E d 126 206 lv (v :: st) h r := gr_rd m126 f126_203 rfl rfl rfl rfl (gf_get k5_111 hr hv)
theorem f126_206 : gm_ft 126 206 = some (.iload_n 1, 1) := by decide +kernel
theorem r126_206 {E : Nat → Value} {d : Nat} {st : List Value} {h : gm_H} {r : gm_R × gm_H} {a0 a2 a3 a4 a5 a6 : Value} {x : Int32} : gm_Go E d 126 206 [a0, .int x, a2, a3, a4, a5, a6] st h r ↔ gm_Go E d 126 207 [a0, .int x, a2, a3, a4, a5, a6] (.int x :: st) h r := gr_loc m126 f126_206 rfl rfl
theorem f126_207 : gm_ft 126 207 = some (.iaload, 1) := by decide +kernel
theorem r126_207 {E : Nat → Value} {d : Nat} {st : List Value} {h : gm_H} {r : gm_R × gm_H} {lv : List Value} {a k j : Nat} {vs : List Value} {v : Value} (hr : gm_rd h a = some (k, vs)) (hk : 100 ≤ k ∧ (fun t => t == 0) (k % 100) = true) (hj : j < 2 ^ 31) (hv : vs[j]? = some v) : gm_Go E d 126 207 lv (.int (nI j) :: .ref a :: st) h r ↔ gm_Go E d 126 208 lv (v :: st) h r := gr_rd m126 f126_207 rfl rfl rfl rfl (ga_ld (P := fun t => t == 0) hr hk hj hv)
theorem f126_208 : gm_ft 126 208 = some (.lload 5, 2) := by decide +kernel
theorem r126_208 {E : Nat → Value} {d : Nat} {st : List Value} {h : gm_H} {r : gm_R × gm_H} {a0 a1 a2 a3 a4 a6 : Value} {x : Int64} : gm_Go E d 126 208 [a0, a1, a2, a3, a4, .long x, a6] st h r ↔ gm_Go E d 126 210 [a0, a1, a2, a3, a4, .long x, a6] (.long x :: st) h r := gr_loc m126 f126_208 rfl rfl
theorem f126_210 : gm_ft 126 210 = some (.invokevirtual 266, 3) := by decide +kernel
theorem n126_210 {st : List Value} {h : gm_H} {E : Nat → Value} {lv : List Value} {b0 b1 b2 b3 : Value} {a : Nat} (hs : (st.map fun v => v.category).sum ≤ 8) (he : (gm_en1 [.ref a, b0, b1, b2, b3]).length ≤ 8) {vs : List Value} (hr : gm_rd h a = some (5, vs)) : gm_next E 126 210 lv (b3 :: b2 :: b1 :: b0 :: .ref a :: st) h = some (.inr (.inl (0, 128, [.ref a, b0, b1, b2, b3], st))) := gn_call m126 f126_210 rfl rfl rfl rfl rfl rfl rfl (gc_virt (bs := [b3, b2, b1, b0]) (w := 969) rfl rfl rfl rfl hs he hr) (by decide)
theorem f126_213 : gm_ft 126 213 = some (.aload_n 0, 1) := by decide +kernel
theorem r126_213 {E : Nat → Value} {d : Nat} {st : List Value} {h : gm_H} {r : gm_R × gm_H} {a1 a2 a3 a4 a5 a6 : Value} {x : Nat} : gm_Go E d 126 213 [.ref x, a1, a2, a3, a4, a5, a6] st h r ↔ gm_Go E d 126 214 [.ref x, a1, a2, a3, a4, a5, a6] (.ref x :: st) h r := gr_loc m126 f126_213 rfl rfl
theorem r126_213n {E : Nat → Value} {d : Nat} {st : List Value} {h : gm_H} {r : gm_R × gm_H} {a1 a2 a3 a4 a5 a6 : Value}  : gm_Go E d 126 213 [.null, a1, a2, a3, a4, a5, a6] st h r ↔ gm_Go E d 126 214 [.null, a1, a2, a3, a4, a5, a6] (.null :: st) h r := gr_loc m126 f126_213 rfl rfl
theorem f126_214 : gm_ft 126 214 = some (.getfield 111, 3) := by decide +kernel
theorem r126_214 {E : Nat → Value} {d : Nat} {st : List Value} {h : gm_H} {r : gm_R × gm_H} {lv : List Value} {a : Nat} {vs : List Value} {v : Value} (hr : gm_rd h a = some (5, vs)) (hv : vs[46]? = some v) : gm_Go E d 126 214 lv (.ref a :: st) h r ↔ gm_Go E d 126 217 lv (v :: st) h r := gr_rd m126 f126_214 rfl rfl rfl rfl (gf_get k5_111 hr hv)
theorem f126_217 : gm_ft 126 217 = some (.iload_n 1, 1) := by decide +kernel
theorem r126_217 {E : Nat → Value} {d : Nat} {st : List Value} {h : gm_H} {r : gm_R × gm_H} {a0 a2 a3 a4 a5 a6 : Value} {x : Int32} : gm_Go E d 126 217 [a0, .int x, a2, a3, a4, a5, a6] st h r ↔ gm_Go E d 126 218 [a0, .int x, a2, a3, a4, a5, a6] (.int x :: st) h r := gr_loc m126 f126_217 rfl rfl
theorem f126_218 : gm_ft 126 218 = some (.dup2, 1) := by decide +kernel
theorem r126_218 {E : Nat → Value} {d : Nat} {st : List Value} {h : gm_H} {r : gm_R × gm_H} {lv : List Value} {x : Int32} {a : Nat} : gm_Go E d 126 218 lv (.int x :: .ref a :: st) h r ↔ gm_Go E d 126 219 lv (.int x :: .ref a :: .int x :: .ref a :: st) h r := gr_pure m126 f126_218 rfl
theorem f126_219 : gm_ft 126 219 = some (.iaload, 1) := by decide +kernel
theorem r126_219 {E : Nat → Value} {d : Nat} {st : List Value} {h : gm_H} {r : gm_R × gm_H} {lv : List Value} {a k j : Nat} {vs : List Value} {v : Value} (hr : gm_rd h a = some (k, vs)) (hk : 100 ≤ k ∧ (fun t => t == 0) (k % 100) = true) (hj : j < 2 ^ 31) (hv : vs[j]? = some v) : gm_Go E d 126 219 lv (.int (nI j) :: .ref a :: st) h r ↔ gm_Go E d 126 220 lv (v :: st) h r := gr_rd m126 f126_219 rfl rfl rfl rfl (ga_ld (P := fun t => t == 0) hr hk hj hv)
theorem f126_220 : gm_ft 126 220 = some (.iconst 1, 1) := by decide +kernel
theorem r126_220 {E : Nat → Value} {d : Nat} {st : List Value} {h : gm_H} {r : gm_R × gm_H} {lv : List Value} : gm_Go E d 126 220 lv st h r ↔ gm_Go E d 126 221 lv (.int (1 : Int32) :: st) h r := gr_pure m126 f126_220 rfl
theorem f126_221 : gm_ft 126 221 = some (.iadd, 1) := by decide +kernel
theorem r126_221 {E : Nat → Value} {d : Nat} {st : List Value} {h : gm_H} {r : gm_R × gm_H} {lv : List Value} {x y : Int32} : gm_Go E d 126 221 lv (.int y :: .int x :: st) h r ↔ gm_Go E d 126 222 lv (.int (x + y) :: st) h r := gr_pure m126 f126_221 rfl
theorem f126_222 : gm_ft 126 222 = some (.iastore, 1) := by decide +kernel
theorem r126_222 {E : Nat → Value} {d : Nat} {st : List Value} {h : gm_H} {r : gm_R × gm_H} {lv : List Value} {a k j : Nat} {vs : List Value} {x : Int32} (hr : gm_rd h a = some (k, vs)) (hk : 100 ≤ k ∧ k % 100 = 0 ∧ gm_ko k = 2 ∧ 2 < 3) (hj : j < 2 ^ 31) (hl : j < vs.length) : gm_Go E d 126 222 lv (.int x :: .int (nI j) :: .ref a :: st) h r ↔ gm_Go E d 126 223 lv st (gm_wr h a (k, vs.set j (.int x))) r := gr_wr m126 f126_222 rfl rfl rfl rfl rfl (ga_st hr hk hj hl)
theorem f126_223 : gm_ft 126 223 = some (.goto 40, 3) := by decide +kernel
theorem r126_223 {E : Nat → Value} {d : Nat} {st : List Value} {h : gm_H} {r : gm_R × gm_H} {lv : List Value} : gm_Go E d 126 223 lv st h r ↔ gm_Go E d 126 263 lv st h r := gr_brT m126 f126_223 rfl rfl rfl rfl
theorem f126_226 : gm_ft 126 226 = some (.aload_n 0, 1) := by decide +kernel
theorem r126_226 {E : Nat → Value} {d : Nat} {st : List Value} {h : gm_H} {r : gm_R × gm_H} {a1 a2 a3 a4 a5 a6 : Value} {x : Nat} : gm_Go E d 126 226 [.ref x, a1, a2, a3, a4, a5, a6] st h r ↔ gm_Go E d 126 227 [.ref x, a1, a2, a3, a4, a5, a6] (.ref x :: st) h r := gr_loc m126 f126_226 rfl rfl
theorem r126_226n {E : Nat → Value} {d : Nat} {st : List Value} {h : gm_H} {r : gm_R × gm_H} {a1 a2 a3 a4 a5 a6 : Value}  : gm_Go E d 126 226 [.null, a1, a2, a3, a4, a5, a6] st h r ↔ gm_Go E d 126 227 [.null, a1, a2, a3, a4, a5, a6] (.null :: st) h r := gr_loc m126 f126_226 rfl rfl
theorem f126_227 : gm_ft 126 227 = some (.getfield 96, 3) := by decide +kernel
theorem r126_227 {E : Nat → Value} {d : Nat} {st : List Value} {h : gm_H} {r : gm_R × gm_H} {lv : List Value} {a : Nat} {vs : List Value} {v : Value} (hr : gm_rd h a = some (5, vs)) (hv : vs[41]? = some v) : gm_Go E d 126 227 lv (.ref a :: st) h r ↔ gm_Go E d 126 230 lv (v :: st) h r := gr_rd m126 f126_227 rfl rfl rfl rfl (gf_get k5_96 hr hv)
theorem f126_230 : gm_ft 126 230 = some (.iload_n 1, 1) := by decide +kernel
theorem r126_230 {E : Nat → Value} {d : Nat} {st : List Value} {h : gm_H} {r : gm_R × gm_H} {a0 a2 a3 a4 a5 a6 : Value} {x : Int32} : gm_Go E d 126 230 [a0, .int x, a2, a3, a4, a5, a6] st h r ↔ gm_Go E d 126 231 [a0, .int x, a2, a3, a4, a5, a6] (.int x :: st) h r := gr_loc m126 f126_230 rfl rfl
theorem f126_231 : gm_ft 126 231 = some (.iconst 2, 1) := by decide +kernel
theorem r126_231 {E : Nat → Value} {d : Nat} {st : List Value} {h : gm_H} {r : gm_R × gm_H} {lv : List Value} : gm_Go E d 126 231 lv st h r ↔ gm_Go E d 126 232 lv (.int (2 : Int32) :: st) h r := gr_pure m126 f126_231 rfl
theorem f126_232 : gm_ft 126 232 = some (.iastore, 1) := by decide +kernel
theorem r126_232 {E : Nat → Value} {d : Nat} {st : List Value} {h : gm_H} {r : gm_R × gm_H} {lv : List Value} {a k j : Nat} {vs : List Value} {x : Int32} (hr : gm_rd h a = some (k, vs)) (hk : 100 ≤ k ∧ k % 100 = 0 ∧ gm_ko k = 2 ∧ 2 < 3) (hj : j < 2 ^ 31) (hl : j < vs.length) : gm_Go E d 126 232 lv (.int x :: .int (nI j) :: .ref a :: st) h r ↔ gm_Go E d 126 233 lv st (gm_wr h a (k, vs.set j (.int x))) r := gr_wr m126 f126_232 rfl rfl rfl rfl rfl (ga_st hr hk hj hl)
theorem f126_233 : gm_ft 126 233 = some (.aload_n 0, 1) := by decide +kernel
theorem r126_233 {E : Nat → Value} {d : Nat} {st : List Value} {h : gm_H} {r : gm_R × gm_H} {a1 a2 a3 a4 a5 a6 : Value} {x : Nat} : gm_Go E d 126 233 [.ref x, a1, a2, a3, a4, a5, a6] st h r ↔ gm_Go E d 126 234 [.ref x, a1, a2, a3, a4, a5, a6] (.ref x :: st) h r := gr_loc m126 f126_233 rfl rfl
theorem r126_233n {E : Nat → Value} {d : Nat} {st : List Value} {h : gm_H} {r : gm_R × gm_H} {a1 a2 a3 a4 a5 a6 : Value}  : gm_Go E d 126 233 [.null, a1, a2, a3, a4, a5, a6] st h r ↔ gm_Go E d 126 234 [.null, a1, a2, a3, a4, a5, a6] (.null :: st) h r := gr_loc m126 f126_233 rfl rfl
theorem f126_234 : gm_ft 126 234 = some (.getfield 75, 3) := by decide +kernel
theorem r126_234 {E : Nat → Value} {d : Nat} {st : List Value} {h : gm_H} {r : gm_R × gm_H} {lv : List Value} {a : Nat} {vs : List Value} {v : Value} (hr : gm_rd h a = some (5, vs)) (hv : vs[33]? = some v) : gm_Go E d 126 234 lv (.ref a :: st) h r ↔ gm_Go E d 126 237 lv (v :: st) h r := gr_rd m126 f126_234 rfl rfl rfl rfl (gf_get k5_75 hr hv)
theorem f126_237 : gm_ft 126 237 = some (.iload_n 3, 1) := by decide +kernel
theorem r126_237 {E : Nat → Value} {d : Nat} {st : List Value} {h : gm_H} {r : gm_R × gm_H} {a0 a1 a2 a4 a5 a6 : Value} {x : Int32} : gm_Go E d 126 237 [a0, a1, a2, .int x, a4, a5, a6] st h r ↔ gm_Go E d 126 238 [a0, a1, a2, .int x, a4, a5, a6] (.int x :: st) h r := gr_loc m126 f126_237 rfl rfl
theorem f126_238 : gm_ft 126 238 = some (.iaload, 1) := by decide +kernel
theorem r126_238 {E : Nat → Value} {d : Nat} {st : List Value} {h : gm_H} {r : gm_R × gm_H} {lv : List Value} {a k j : Nat} {vs : List Value} {v : Value} (hr : gm_rd h a = some (k, vs)) (hk : 100 ≤ k ∧ (fun t => t == 0) (k % 100) = true) (hj : j < 2 ^ 31) (hv : vs[j]? = some v) : gm_Go E d 126 238 lv (.int (nI j) :: .ref a :: st) h r ↔ gm_Go E d 126 239 lv (v :: st) h r := gr_rd m126 f126_238 rfl rfl rfl rfl (ga_ld (P := fun t => t == 0) hr hk hj hv)
theorem f126_239 : gm_ft 126 239 = some (.iconst 1, 1) := by decide +kernel
theorem r126_239 {E : Nat → Value} {d : Nat} {st : List Value} {h : gm_H} {r : gm_R × gm_H} {lv : List Value} : gm_Go E d 126 239 lv st h r ↔ gm_Go E d 126 240 lv (.int (1 : Int32) :: st) h r := gr_pure m126 f126_239 rfl
theorem f126_240 : gm_ft 126 240 = some (.iand, 1) := by decide +kernel
theorem r126_240 {E : Nat → Value} {d : Nat} {st : List Value} {h : gm_H} {r : gm_R × gm_H} {lv : List Value} {x y : Int32} : gm_Go E d 126 240 lv (.int y :: .int x :: st) h r ↔ gm_Go E d 126 241 lv (.int (x &&& y) :: st) h r := gr_pure m126 f126_240 rfl
theorem f126_241 : gm_ft 126 241 = some (.ifCond .eq 22, 3) := by decide +kernel
theorem r126_241 {E : Nat → Value} {d : Nat} {st : List Value} {h : gm_H} {r : gm_R × gm_H} {lv : List Value} {x : Int32} : gm_Go E d 126 241 lv (.int x :: st) h r ↔ (if x = 0 then gm_Go E d 126 263 lv st h r else gm_Go E d 126 244 lv st h r) := (gr_br m126 f126_241 rfl rfl rfl rfl).trans gr_if
theorem f126_244 : gm_ft 126 244 = some (.aload_n 0, 1) := by decide +kernel
theorem r126_244 {E : Nat → Value} {d : Nat} {st : List Value} {h : gm_H} {r : gm_R × gm_H} {a1 a2 a3 a4 a5 a6 : Value} {x : Nat} : gm_Go E d 126 244 [.ref x, a1, a2, a3, a4, a5, a6] st h r ↔ gm_Go E d 126 245 [.ref x, a1, a2, a3, a4, a5, a6] (.ref x :: st) h r := gr_loc m126 f126_244 rfl rfl
theorem r126_244n {E : Nat → Value} {d : Nat} {st : List Value} {h : gm_H} {r : gm_R × gm_H} {a1 a2 a3 a4 a5 a6 : Value}  : gm_Go E d 126 244 [.null, a1, a2, a3, a4, a5, a6] st h r ↔ gm_Go E d 126 245 [.null, a1, a2, a3, a4, a5, a6] (.null :: st) h r := gr_loc m126 f126_244 rfl rfl
theorem f126_245 : gm_ft 126 245 = some (.iload_n 2, 1) := by decide +kernel
theorem r126_245 {E : Nat → Value} {d : Nat} {st : List Value} {h : gm_H} {r : gm_R × gm_H} {a0 a1 a3 a4 a5 a6 : Value} {x : Int32} : gm_Go E d 126 245 [a0, a1, .int x, a3, a4, a5, a6] st h r ↔ gm_Go E d 126 246 [a0, a1, .int x, a3, a4, a5, a6] (.int x :: st) h r := gr_loc m126 f126_245 rfl rfl
theorem f126_246 : gm_ft 126 246 = some (.iload_n 3, 1) := by decide +kernel
theorem r126_246 {E : Nat → Value} {d : Nat} {st : List Value} {h : gm_H} {r : gm_R × gm_H} {a0 a1 a2 a4 a5 a6 : Value} {x : Int32} : gm_Go E d 126 246 [a0, a1, a2, .int x, a4, a5, a6] st h r ↔ gm_Go E d 126 247 [a0, a1, a2, .int x, a4, a5, a6] (.int x :: st) h r := gr_loc m126 f126_246 rfl rfl
theorem f126_247 : gm_ft 126 247 = some (.invokevirtual 273, 3) := by decide +kernel
theorem n126_247 {st : List Value} {h : gm_H} {E : Nat → Value} {lv : List Value} {b0 b1 : Value} {a : Nat} (hs : (st.map fun v => v.category).sum ≤ 8) (he : (gm_en1 [.ref a, b0, b1]).length ≤ 6) {vs : List Value} (hr : gm_rd h a = some (5, vs)) : gm_next E 126 247 lv (b1 :: b0 :: .ref a :: st) h = some (.inr (.inl (0, 131, [.ref a, b0, b1], st))) := gn_call m126 f126_247 rfl rfl rfl rfl rfl rfl rfl (gc_virt (bs := [b1, b0]) (w := 981) rfl rfl rfl rfl hs he hr) (by decide)
theorem f126_250 : gm_ft 126 250 = some (.aload_n 0, 1) := by decide +kernel
theorem r126_250 {E : Nat → Value} {d : Nat} {st : List Value} {h : gm_H} {r : gm_R × gm_H} {a1 a2 a3 a4 a5 a6 : Value} {x : Nat} : gm_Go E d 126 250 [.ref x, a1, a2, a3, a4, a5, a6] st h r ↔ gm_Go E d 126 251 [.ref x, a1, a2, a3, a4, a5, a6] (.ref x :: st) h r := gr_loc m126 f126_250 rfl rfl
theorem r126_250n {E : Nat → Value} {d : Nat} {st : List Value} {h : gm_H} {r : gm_R × gm_H} {a1 a2 a3 a4 a5 a6 : Value}  : gm_Go E d 126 250 [.null, a1, a2, a3, a4, a5, a6] st h r ↔ gm_Go E d 126 251 [.null, a1, a2, a3, a4, a5, a6] (.null :: st) h r := gr_loc m126 f126_250 rfl rfl
theorem f126_251 : gm_ft 126 251 = some (.iconst 4, 1) := by decide +kernel
theorem r126_251 {E : Nat → Value} {d : Nat} {st : List Value} {h : gm_H} {r : gm_R × gm_H} {lv : List Value} : gm_Go E d 126 251 lv st h r ↔ gm_Go E d 126 252 lv (.int (4 : Int32) :: st) h r := gr_pure m126 f126_251 rfl
theorem f126_252 : gm_ft 126 252 = some (.aload_n 0, 1) := by decide +kernel
theorem r126_252 {E : Nat → Value} {d : Nat} {st : List Value} {h : gm_H} {r : gm_R × gm_H} {a1 a2 a3 a4 a5 a6 : Value} {x : Nat} : gm_Go E d 126 252 [.ref x, a1, a2, a3, a4, a5, a6] st h r ↔ gm_Go E d 126 253 [.ref x, a1, a2, a3, a4, a5, a6] (.ref x :: st) h r := gr_loc m126 f126_252 rfl rfl
theorem r126_252n {E : Nat → Value} {d : Nat} {st : List Value} {h : gm_H} {r : gm_R × gm_H} {a1 a2 a3 a4 a5 a6 : Value}  : gm_Go E d 126 252 [.null, a1, a2, a3, a4, a5, a6] st h r ↔ gm_Go E d 126 253 [.null, a1, a2, a3, a4, a5, a6] (.null :: st) h r := gr_loc m126 f126_252 rfl rfl
theorem f126_253 : gm_ft 126 253 = some (.getfield 99, 3) := by decide +kernel
theorem r126_253 {E : Nat → Value} {d : Nat} {st : List Value} {h : gm_H} {r : gm_R × gm_H} {lv : List Value} {a : Nat} {vs : List Value} {v : Value} (hr : gm_rd h a = some (5, vs)) (hv : vs[42]? = some v) : gm_Go E d 126 253 lv (.ref a :: st) h r ↔ gm_Go E d 126 256 lv (v :: st) h r := gr_rd m126 f126_253 rfl rfl rfl rfl (gf_get k5_99 hr hv)
theorem f126_256 : gm_ft 126 256 = some (.iload_n 1, 1) := by decide +kernel
theorem r126_256 {E : Nat → Value} {d : Nat} {st : List Value} {h : gm_H} {r : gm_R × gm_H} {a0 a2 a3 a4 a5 a6 : Value} {x : Int32} : gm_Go E d 126 256 [a0, .int x, a2, a3, a4, a5, a6] st h r ↔ gm_Go E d 126 257 [a0, .int x, a2, a3, a4, a5, a6] (.int x :: st) h r := gr_loc m126 f126_256 rfl rfl
theorem f126_257 : gm_ft 126 257 = some (.iaload, 1) := by decide +kernel
theorem r126_257 {E : Nat → Value} {d : Nat} {st : List Value} {h : gm_H} {r : gm_R × gm_H} {lv : List Value} {a k j : Nat} {vs : List Value} {v : Value} (hr : gm_rd h a = some (k, vs)) (hk : 100 ≤ k ∧ (fun t => t == 0) (k % 100) = true) (hj : j < 2 ^ 31) (hv : vs[j]? = some v) : gm_Go E d 126 257 lv (.int (nI j) :: .ref a :: st) h r ↔ gm_Go E d 126 258 lv (v :: st) h r := gr_rd m126 f126_257 rfl rfl rfl rfl (ga_ld (P := fun t => t == 0) hr hk hj hv)
theorem f126_258 : gm_ft 126 258 = some (.iconst 0, 1) := by decide +kernel
theorem r126_258 {E : Nat → Value} {d : Nat} {st : List Value} {h : gm_H} {r : gm_R × gm_H} {lv : List Value} : gm_Go E d 126 258 lv st h r ↔ gm_Go E d 126 259 lv (.int (0 : Int32) :: st) h r := gr_pure m126 f126_258 rfl
theorem f126_259 : gm_ft 126 259 = some (.iconst 0, 1) := by decide +kernel
theorem r126_259 {E : Nat → Value} {d : Nat} {st : List Value} {h : gm_H} {r : gm_R × gm_H} {lv : List Value} : gm_Go E d 126 259 lv st h r ↔ gm_Go E d 126 260 lv (.int (0 : Int32) :: st) h r := gr_pure m126 f126_259 rfl
theorem f126_260 : gm_ft 126 260 = some (.invokevirtual 200, 3) := by decide +kernel
theorem n126_260 {st : List Value} {h : gm_H} {E : Nat → Value} {lv : List Value} {b0 b1 b2 b3 : Value} {a : Nat} (hs : (st.map fun v => v.category).sum ≤ 8) (he : (gm_en1 [.ref a, b0, b1, b2, b3]).length ≤ 5) {vs : List Value} (hr : gm_rd h a = some (5, vs)) : gm_next E 126 260 lv (b3 :: b2 :: b1 :: b0 :: .ref a :: st) h = some (.inr (.inl (0, 101, [.ref a, b0, b1, b2, b3], st))) := gn_call m126 f126_260 rfl rfl rfl rfl rfl rfl rfl (gc_virt (bs := [b3, b2, b1, b0]) (w := 856) rfl rfl rfl rfl hs he hr) (by decide)
theorem f126_263 : gm_ft 126 263 = some (.return_, 1) := by decide +kernel
theorem r126_263 {E : Nat → Value} {d : Nat} {h : gm_H} {r : gm_R × gm_H} {lv : List Value} : gm_Go E d 126 263 lv [] h r ↔ r = (.inl none, h) := gr_ret m126 f126_263 rfl rfl rfl rfl rfl rfl rfl rfl rfl
/-! GraphReaderModel.level(II)I -/
theorem m127 : gm_mt[127]? = some (⟨"GraphReaderModel", "level", "(II)I"⟩, prog_7_method_37_code, 6, (some .int), [], 5, 2) := rfl
theorem f127_0 : gm_ft 127 0 = some (.iconst 0, 1) := by decide +kernel
theorem r127_0 {E : Nat → Value} {d : Nat} {st : List Value} {h : gm_H} {r : gm_R × gm_H} {lv : List Value} : gm_Go E d 127 0 lv st h r ↔ gm_Go E d 127 1 lv (.int (0 : Int32) :: st) h r := gr_pure m127 f127_0 rfl
theorem f127_1 : gm_ft 127 1 = some (.istore_n 3, 1) := by decide +kernel
theorem r127_1 {E : Nat → Value} {d : Nat} {st : List Value} {h : gm_H} {r : gm_R × gm_H} {a0 a1 a2 a3 a4 a5 : Value} {x : Int32} : gm_Go E d 127 1 [a0, a1, a2, a3, a4, a5] (.int x :: st) h r ↔ gm_Go E d 127 2 [a0, a1, gm_k a2, .int x, a4, a5] st h r := gr_loc m127 f127_1 rfl rfl
theorem f127_2 : gm_ft 127 2 = some (.iload_n 1, 1) := by decide +kernel
theorem r127_2 {E : Nat → Value} {d : Nat} {st : List Value} {h : gm_H} {r : gm_R × gm_H} {a0 a2 a3 a4 a5 : Value} {x : Int32} : gm_Go E d 127 2 [a0, .int x, a2, a3, a4, a5] st h r ↔ gm_Go E d 127 3 [a0, .int x, a2, a3, a4, a5] (.int x :: st) h r := gr_loc m127 f127_2 rfl rfl
theorem f127_3 : gm_ft 127 3 = some (.istore 4, 2) := by decide +kernel
theorem r127_3 {E : Nat → Value} {d : Nat} {st : List Value} {h : gm_H} {r : gm_R × gm_H} {a0 a1 a2 a3 a4 a5 : Value} {x : Int32} : gm_Go E d 127 3 [a0, a1, a2, a3, a4, a5] (.int x :: st) h r ↔ gm_Go E d 127 5 [a0, a1, a2, gm_k a3, .int x, a5] st h r := gr_loc m127 f127_3 rfl rfl
theorem f127_5 : gm_ft 127 5 = some (.iload 4, 2) := by decide +kernel
theorem r127_5 {E : Nat → Value} {d : Nat} {st : List Value} {h : gm_H} {r : gm_R × gm_H} {a0 a1 a2 a3 a5 : Value} {x : Int32} : gm_Go E d 127 5 [a0, a1, a2, a3, .int x, a5] st h r ↔ gm_Go E d 127 7 [a0, a1, a2, a3, .int x, a5] (.int x :: st) h r := gr_loc m127 f127_5 rfl rfl
theorem f127_7 : gm_ft 127 7 = some (.ifCond .lt 18, 3) := by decide +kernel
theorem r127_7 {E : Nat → Value} {d : Nat} {st : List Value} {h : gm_H} {r : gm_R × gm_H} {lv : List Value} {x : Int32} : gm_Go E d 127 7 lv (.int x :: st) h r ↔ (if x < 0 then gm_Go E d 127 25 lv st h r else gm_Go E d 127 10 lv st h r) := (gr_br m127 f127_7 rfl rfl rfl rfl).trans gr_if
theorem f127_10 : gm_ft 127 10 = some (.iinc 3 1, 3) := by decide +kernel
theorem r127_10 {E : Nat → Value} {d : Nat} {st : List Value} {h : gm_H} {r : gm_R × gm_H} {a0 a1 a2 a4 a5 : Value} {x : Int32} : gm_Go E d 127 10 [a0, a1, a2, .int x, a4, a5] st h r ↔ gm_Go E d 127 13 [a0, a1, gm_k a2, .int (x + (1 : Int32)), a4, a5] st h r := gr_loc m127 f127_10 rfl rfl
theorem f127_13 : gm_ft 127 13 = some (.aload_n 0, 1) := by decide +kernel
theorem r127_13 {E : Nat → Value} {d : Nat} {st : List Value} {h : gm_H} {r : gm_R × gm_H} {a1 a2 a3 a4 a5 : Value} {x : Nat} : gm_Go E d 127 13 [.ref x, a1, a2, a3, a4, a5] st h r ↔ gm_Go E d 127 14 [.ref x, a1, a2, a3, a4, a5] (.ref x :: st) h r := gr_loc m127 f127_13 rfl rfl
theorem r127_13n {E : Nat → Value} {d : Nat} {st : List Value} {h : gm_H} {r : gm_R × gm_H} {a1 a2 a3 a4 a5 : Value}  : gm_Go E d 127 13 [.null, a1, a2, a3, a4, a5] st h r ↔ gm_Go E d 127 14 [.null, a1, a2, a3, a4, a5] (.null :: st) h r := gr_loc m127 f127_13 rfl rfl
theorem f127_14 : gm_ft 127 14 = some (.getfield 90, 3) := by decide +kernel
theorem r127_14 {E : Nat → Value} {d : Nat} {st : List Value} {h : gm_H} {r : gm_R × gm_H} {lv : List Value} {a : Nat} {vs : List Value} {v : Value} (hr : gm_rd h a = some (5, vs)) (hv : vs[38]? = some v) : gm_Go E d 127 14 lv (.ref a :: st) h r ↔ gm_Go E d 127 17 lv (v :: st) h r := gr_rd m127 f127_14 rfl rfl rfl rfl (gf_get k5_90 hr hv)
theorem f127_17 : gm_ft 127 17 = some (.iload 4, 2) := by decide +kernel
theorem r127_17 {E : Nat → Value} {d : Nat} {st : List Value} {h : gm_H} {r : gm_R × gm_H} {a0 a1 a2 a3 a5 : Value} {x : Int32} : gm_Go E d 127 17 [a0, a1, a2, a3, .int x, a5] st h r ↔ gm_Go E d 127 19 [a0, a1, a2, a3, .int x, a5] (.int x :: st) h r := gr_loc m127 f127_17 rfl rfl
theorem f127_19 : gm_ft 127 19 = some (.iaload, 1) := by decide +kernel
theorem r127_19 {E : Nat → Value} {d : Nat} {st : List Value} {h : gm_H} {r : gm_R × gm_H} {lv : List Value} {a k j : Nat} {vs : List Value} {v : Value} (hr : gm_rd h a = some (k, vs)) (hk : 100 ≤ k ∧ (fun t => t == 0) (k % 100) = true) (hj : j < 2 ^ 31) (hv : vs[j]? = some v) : gm_Go E d 127 19 lv (.int (nI j) :: .ref a :: st) h r ↔ gm_Go E d 127 20 lv (v :: st) h r := gr_rd m127 f127_19 rfl rfl rfl rfl (ga_ld (P := fun t => t == 0) hr hk hj hv)
theorem f127_20 : gm_ft 127 20 = some (.istore 4, 2) := by decide +kernel
theorem r127_20 {E : Nat → Value} {d : Nat} {st : List Value} {h : gm_H} {r : gm_R × gm_H} {a0 a1 a2 a3 a4 a5 : Value} {x : Int32} : gm_Go E d 127 20 [a0, a1, a2, a3, a4, a5] (.int x :: st) h r ↔ gm_Go E d 127 22 [a0, a1, a2, gm_k a3, .int x, a5] st h r := gr_loc m127 f127_20 rfl rfl
theorem f127_22 : gm_ft 127 22 = some (.goto (-17), 3) := by decide +kernel
theorem r127_22 {E : Nat → Value} {d : Nat} {st : List Value} {h : gm_H} {r : gm_R × gm_H} {lv : List Value} : gm_Go E d 127 22 lv st h r ↔ gm_Go E d 127 5 lv st h r := gr_brT m127 f127_22 rfl rfl rfl rfl
theorem f127_25 : gm_ft 127 25 = some (.iload_n 2, 1) := by decide +kernel
theorem r127_25 {E : Nat → Value} {d : Nat} {st : List Value} {h : gm_H} {r : gm_R × gm_H} {a0 a1 a3 a4 a5 : Value} {x : Int32} : gm_Go E d 127 25 [a0, a1, .int x, a3, a4, a5] st h r ↔ gm_Go E d 127 26 [a0, a1, .int x, a3, a4, a5] (.int x :: st) h r := gr_loc m127 f127_25 rfl rfl
theorem f127_26 : gm_ft 127 26 = some (.iload_n 3, 1) := by decide +kernel
theorem r127_26 {E : Nat → Value} {d : Nat} {st : List Value} {h : gm_H} {r : gm_R × gm_H} {a0 a1 a2 a4 a5 : Value} {x : Int32} : gm_Go E d 127 26 [a0, a1, a2, .int x, a4, a5] st h r ↔ gm_Go E d 127 27 [a0, a1, a2, .int x, a4, a5] (.int x :: st) h r := gr_loc m127 f127_26 rfl rfl
theorem f127_27 : gm_ft 127 27 = some (.if_icmp .lt 7, 3) := by decide +kernel
theorem r127_27 {E : Nat → Value} {d : Nat} {st : List Value} {h : gm_H} {r : gm_R × gm_H} {lv : List Value} {x y : Int32} : gm_Go E d 127 27 lv (.int y :: .int x :: st) h r ↔ (if x < y then gm_Go E d 127 34 lv st h r else gm_Go E d 127 30 lv st h r) := (gr_br m127 f127_27 rfl rfl rfl rfl).trans gr_if
theorem f127_30 : gm_ft 127 30 = some (.iconst (-1), 1) := by decide +kernel
theorem r127_30 {E : Nat → Value} {d : Nat} {st : List Value} {h : gm_H} {r : gm_R × gm_H} {lv : List Value} : gm_Go E d 127 30 lv st h r ↔ gm_Go E d 127 31 lv (.int (-1 : Int32) :: st) h r := gr_pure m127 f127_30 rfl
theorem f127_31 : gm_ft 127 31 = some (.goto 4, 3) := by decide +kernel
theorem r127_31 {E : Nat → Value} {d : Nat} {st : List Value} {h : gm_H} {r : gm_R × gm_H} {lv : List Value} : gm_Go E d 127 31 lv st h r ↔ gm_Go E d 127 35 lv st h r := gr_brT m127 f127_31 rfl rfl rfl rfl
theorem f127_34 : gm_ft 127 34 = some (.iload_n 1, 1) := by decide +kernel
theorem r127_34 {E : Nat → Value} {d : Nat} {st : List Value} {h : gm_H} {r : gm_R × gm_H} {a0 a2 a3 a4 a5 : Value} {x : Int32} : gm_Go E d 127 34 [a0, .int x, a2, a3, a4, a5] st h r ↔ gm_Go E d 127 35 [a0, .int x, a2, a3, a4, a5] (.int x :: st) h r := gr_loc m127 f127_34 rfl rfl
theorem f127_35 : gm_ft 127 35 = some (.istore 4, 2) := by decide +kernel
theorem r127_35 {E : Nat → Value} {d : Nat} {st : List Value} {h : gm_H} {r : gm_R × gm_H} {a0 a1 a2 a3 a4 a5 : Value} {x : Int32} : gm_Go E d 127 35 [a0, a1, a2, a3, a4, a5] (.int x :: st) h r ↔ gm_Go E d 127 37 [a0, a1, a2, gm_k a3, .int x, a5] st h r := gr_loc m127 f127_35 rfl rfl
theorem f127_37 : gm_ft 127 37 = some (.iload_n 3, 1) := by decide +kernel
theorem r127_37 {E : Nat → Value} {d : Nat} {st : List Value} {h : gm_H} {r : gm_R × gm_H} {a0 a1 a2 a4 a5 : Value} {x : Int32} : gm_Go E d 127 37 [a0, a1, a2, .int x, a4, a5] st h r ↔ gm_Go E d 127 38 [a0, a1, a2, .int x, a4, a5] (.int x :: st) h r := gr_loc m127 f127_37 rfl rfl
theorem f127_38 : gm_ft 127 38 = some (.iconst 1, 1) := by decide +kernel
theorem r127_38 {E : Nat → Value} {d : Nat} {st : List Value} {h : gm_H} {r : gm_R × gm_H} {lv : List Value} : gm_Go E d 127 38 lv st h r ↔ gm_Go E d 127 39 lv (.int (1 : Int32) :: st) h r := gr_pure m127 f127_38 rfl
theorem f127_39 : gm_ft 127 39 = some (.isub, 1) := by decide +kernel
theorem r127_39 {E : Nat → Value} {d : Nat} {st : List Value} {h : gm_H} {r : gm_R × gm_H} {lv : List Value} {x y : Int32} : gm_Go E d 127 39 lv (.int y :: .int x :: st) h r ↔ gm_Go E d 127 40 lv (.int (x - y) :: st) h r := gr_pure m127 f127_39 rfl
theorem f127_40 : gm_ft 127 40 = some (.istore 5, 2) := by decide +kernel
theorem r127_40 {E : Nat → Value} {d : Nat} {st : List Value} {h : gm_H} {r : gm_R × gm_H} {a0 a1 a2 a3 a4 a5 : Value} {x : Int32} : gm_Go E d 127 40 [a0, a1, a2, a3, a4, a5] (.int x :: st) h r ↔ gm_Go E d 127 42 [a0, a1, a2, a3, gm_k a4, .int x] st h r := gr_loc m127 f127_40 rfl rfl
theorem f127_42 : gm_ft 127 42 = some (.iload 5, 2) := by decide +kernel
theorem r127_42 {E : Nat → Value} {d : Nat} {st : List Value} {h : gm_H} {r : gm_R × gm_H} {a0 a1 a2 a3 a4 : Value} {x : Int32} : gm_Go E d 127 42 [a0, a1, a2, a3, a4, .int x] st h r ↔ gm_Go E d 127 44 [a0, a1, a2, a3, a4, .int x] (.int x :: st) h r := gr_loc m127 f127_42 rfl rfl
theorem f127_44 : gm_ft 127 44 = some (.iload_n 2, 1) := by decide +kernel
theorem r127_44 {E : Nat → Value} {d : Nat} {st : List Value} {h : gm_H} {r : gm_R × gm_H} {a0 a1 a3 a4 a5 : Value} {x : Int32} : gm_Go E d 127 44 [a0, a1, .int x, a3, a4, a5] st h r ↔ gm_Go E d 127 45 [a0, a1, .int x, a3, a4, a5] (.int x :: st) h r := gr_loc m127 f127_44 rfl rfl
theorem f127_45 : gm_ft 127 45 = some (.if_icmp .le 18, 3) := by decide +kernel
theorem r127_45 {E : Nat → Value} {d : Nat} {st : List Value} {h : gm_H} {r : gm_R × gm_H} {lv : List Value} {x y : Int32} : gm_Go E d 127 45 lv (.int y :: .int x :: st) h r ↔ (if x ≤ y then gm_Go E d 127 63 lv st h r else gm_Go E d 127 48 lv st h r) := (gr_br m127 f127_45 rfl rfl rfl rfl).trans gr_if
theorem f127_48 : gm_ft 127 48 = some (.aload_n 0, 1) := by decide +kernel
theorem r127_48 {E : Nat → Value} {d : Nat} {st : List Value} {h : gm_H} {r : gm_R × gm_H} {a1 a2 a3 a4 a5 : Value} {x : Nat} : gm_Go E d 127 48 [.ref x, a1, a2, a3, a4, a5] st h r ↔ gm_Go E d 127 49 [.ref x, a1, a2, a3, a4, a5] (.ref x :: st) h r := gr_loc m127 f127_48 rfl rfl
theorem r127_48n {E : Nat → Value} {d : Nat} {st : List Value} {h : gm_H} {r : gm_R × gm_H} {a1 a2 a3 a4 a5 : Value}  : gm_Go E d 127 48 [.null, a1, a2, a3, a4, a5] st h r ↔ gm_Go E d 127 49 [.null, a1, a2, a3, a4, a5] (.null :: st) h r := gr_loc m127 f127_48 rfl rfl
theorem f127_49 : gm_ft 127 49 = some (.getfield 90, 3) := by decide +kernel
theorem r127_49 {E : Nat → Value} {d : Nat} {st : List Value} {h : gm_H} {r : gm_R × gm_H} {lv : List Value} {a : Nat} {vs : List Value} {v : Value} (hr : gm_rd h a = some (5, vs)) (hv : vs[38]? = some v) : gm_Go E d 127 49 lv (.ref a :: st) h r ↔ gm_Go E d 127 52 lv (v :: st) h r := gr_rd m127 f127_49 rfl rfl rfl rfl (gf_get k5_90 hr hv)
theorem f127_52 : gm_ft 127 52 = some (.iload 4, 2) := by decide +kernel
theorem r127_52 {E : Nat → Value} {d : Nat} {st : List Value} {h : gm_H} {r : gm_R × gm_H} {a0 a1 a2 a3 a5 : Value} {x : Int32} : gm_Go E d 127 52 [a0, a1, a2, a3, .int x, a5] st h r ↔ gm_Go E d 127 54 [a0, a1, a2, a3, .int x, a5] (.int x :: st) h r := gr_loc m127 f127_52 rfl rfl
theorem f127_54 : gm_ft 127 54 = some (.iaload, 1) := by decide +kernel
theorem r127_54 {E : Nat → Value} {d : Nat} {st : List Value} {h : gm_H} {r : gm_R × gm_H} {lv : List Value} {a k j : Nat} {vs : List Value} {v : Value} (hr : gm_rd h a = some (k, vs)) (hk : 100 ≤ k ∧ (fun t => t == 0) (k % 100) = true) (hj : j < 2 ^ 31) (hv : vs[j]? = some v) : gm_Go E d 127 54 lv (.int (nI j) :: .ref a :: st) h r ↔ gm_Go E d 127 55 lv (v :: st) h r := gr_rd m127 f127_54 rfl rfl rfl rfl (ga_ld (P := fun t => t == 0) hr hk hj hv)
theorem f127_55 : gm_ft 127 55 = some (.istore 4, 2) := by decide +kernel
theorem r127_55 {E : Nat → Value} {d : Nat} {st : List Value} {h : gm_H} {r : gm_R × gm_H} {a0 a1 a2 a3 a4 a5 : Value} {x : Int32} : gm_Go E d 127 55 [a0, a1, a2, a3, a4, a5] (.int x :: st) h r ↔ gm_Go E d 127 57 [a0, a1, a2, gm_k a3, .int x, a5] st h r := gr_loc m127 f127_55 rfl rfl
theorem f127_57 : gm_ft 127 57 = some (.iinc 5 (-1), 3) := by decide +kernel
theorem r127_57 {E : Nat → Value} {d : Nat} {st : List Value} {h : gm_H} {r : gm_R × gm_H} {a0 a1 a2 a3 a4 : Value} {x : Int32} : gm_Go E d 127 57 [a0, a1, a2, a3, a4, .int x] st h r ↔ gm_Go E d 127 60 [a0, a1, a2, a3, gm_k a4, .int (x + (-1 : Int32))] st h r := gr_loc m127 f127_57 rfl rfl
theorem f127_60 : gm_ft 127 60 = some (.goto (-18), 3) := by decide +kernel
theorem r127_60 {E : Nat → Value} {d : Nat} {st : List Value} {h : gm_H} {r : gm_R × gm_H} {lv : List Value} : gm_Go E d 127 60 lv st h r ↔ gm_Go E d 127 42 lv st h r := gr_brT m127 f127_60 rfl rfl rfl rfl
theorem f127_63 : gm_ft 127 63 = some (.iload 4, 2) := by decide +kernel
theorem r127_63 {E : Nat → Value} {d : Nat} {st : List Value} {h : gm_H} {r : gm_R × gm_H} {a0 a1 a2 a3 a5 : Value} {x : Int32} : gm_Go E d 127 63 [a0, a1, a2, a3, .int x, a5] st h r ↔ gm_Go E d 127 65 [a0, a1, a2, a3, .int x, a5] (.int x :: st) h r := gr_loc m127 f127_63 rfl rfl
theorem f127_65 : gm_ft 127 65 = some (.ireturn, 1) := by decide +kernel
theorem r127_65 {E : Nat → Value} {d : Nat} {h : gm_H} {r : gm_R × gm_H} {lv : List Value} {x : Int32} : gm_Go E d 127 65 lv [.int x] h r ↔ r = (.inl (some (.int x)), h) := gr_ret m127 f127_65 rfl rfl rfl rfl rfl rfl rfl rfl (by unfold gm_rt; dsimp only; rw [if_pos ⟨rfl, rfl⟩])
/-! GraphReaderModel.assign(IIIJ)V -/
theorem m128 : gm_mt[128]? = some (⟨"GraphReaderModel", "assign", "(IIIJ)V"⟩, prog_7_method_38_code, 8, none, [], 5, 2) := rfl
theorem f128_0 : gm_ft 128 0 = some (.aload_n 0, 1) := by decide +kernel
theorem r128_0 {E : Nat → Value} {d : Nat} {st : List Value} {h : gm_H} {r : gm_R × gm_H} {a1 a2 a3 a4 a5 a6 a7 : Value} {x : Nat} : gm_Go E d 128 0 [.ref x, a1, a2, a3, a4, a5, a6, a7] st h r ↔ gm_Go E d 128 1 [.ref x, a1, a2, a3, a4, a5, a6, a7] (.ref x :: st) h r := gr_loc m128 f128_0 rfl rfl
theorem r128_0n {E : Nat → Value} {d : Nat} {st : List Value} {h : gm_H} {r : gm_R × gm_H} {a1 a2 a3 a4 a5 a6 a7 : Value}  : gm_Go E d 128 0 [.null, a1, a2, a3, a4, a5, a6, a7] st h r ↔ gm_Go E d 128 1 [.null, a1, a2, a3, a4, a5, a6, a7] (.null :: st) h r := gr_loc m128 f128_0 rfl rfl
theorem f128_1 : gm_ft 128 1 = some (.getfield 69, 3) := by decide +kernel
theorem r128_1 {E : Nat → Value} {d : Nat} {st : List Value} {h : gm_H} {r : gm_R × gm_H} {lv : List Value} {a : Nat} {vs : List Value} {v : Value} (hr : gm_rd h a = some (5, vs)) (hv : vs[31]? = some v) : gm_Go E d 128 1 lv (.ref a :: st) h r ↔ gm_Go E d 128 4 lv (v :: st) h r := gr_rd m128 f128_1 rfl rfl rfl rfl (gf_get k5_69 hr hv)
theorem f128_4 : gm_ft 128 4 = some (.iload_n 2, 1) := by decide +kernel
theorem r128_4 {E : Nat → Value} {d : Nat} {st : List Value} {h : gm_H} {r : gm_R × gm_H} {a0 a1 a3 a4 a5 a6 a7 : Value} {x : Int32} : gm_Go E d 128 4 [a0, a1, .int x, a3, a4, a5, a6, a7] st h r ↔ gm_Go E d 128 5 [a0, a1, .int x, a3, a4, a5, a6, a7] (.int x :: st) h r := gr_loc m128 f128_4 rfl rfl
theorem f128_5 : gm_ft 128 5 = some (.iaload, 1) := by decide +kernel
theorem r128_5 {E : Nat → Value} {d : Nat} {st : List Value} {h : gm_H} {r : gm_R × gm_H} {lv : List Value} {a k j : Nat} {vs : List Value} {v : Value} (hr : gm_rd h a = some (k, vs)) (hk : 100 ≤ k ∧ (fun t => t == 0) (k % 100) = true) (hj : j < 2 ^ 31) (hv : vs[j]? = some v) : gm_Go E d 128 5 lv (.int (nI j) :: .ref a :: st) h r ↔ gm_Go E d 128 6 lv (v :: st) h r := gr_rd m128 f128_5 rfl rfl rfl rfl (ga_ld (P := fun t => t == 0) hr hk hj hv)
theorem f128_6 : gm_ft 128 6 = some (.istore 6, 2) := by decide +kernel
theorem r128_6 {E : Nat → Value} {d : Nat} {st : List Value} {h : gm_H} {r : gm_R × gm_H} {a0 a1 a2 a3 a4 a5 a6 a7 : Value} {x : Int32} : gm_Go E d 128 6 [a0, a1, a2, a3, a4, a5, a6, a7] (.int x :: st) h r ↔ gm_Go E d 128 8 [a0, a1, a2, a3, a4, gm_k a5, .int x, a7] st h r := gr_loc m128 f128_6 rfl rfl
theorem f128_8 : gm_ft 128 8 = some (.iload 6, 2) := by decide +kernel
theorem r128_8 {E : Nat → Value} {d : Nat} {st : List Value} {h : gm_H} {r : gm_R × gm_H} {a0 a1 a2 a3 a4 a5 a7 : Value} {x : Int32} : gm_Go E d 128 8 [a0, a1, a2, a3, a4, a5, .int x, a7] st h r ↔ gm_Go E d 128 10 [a0, a1, a2, a3, a4, a5, .int x, a7] (.int x :: st) h r := gr_loc m128 f128_8 rfl rfl
theorem f128_10 : gm_ft 128 10 = some (.ifCond .lt 18, 3) := by decide +kernel
theorem r128_10 {E : Nat → Value} {d : Nat} {st : List Value} {h : gm_H} {r : gm_R × gm_H} {lv : List Value} {x : Int32} : gm_Go E d 128 10 lv (.int x :: st) h r ↔ (if x < 0 then gm_Go E d 128 28 lv st h r else gm_Go E d 128 13 lv st h r) := (gr_br m128 f128_10 rfl rfl rfl rfl).trans gr_if
theorem f128_13 : gm_ft 128 13 = some (.aload_n 0, 1) := by decide +kernel
theorem r128_13 {E : Nat → Value} {d : Nat} {st : List Value} {h : gm_H} {r : gm_R × gm_H} {a1 a2 a3 a4 a5 a6 a7 : Value} {x : Nat} : gm_Go E d 128 13 [.ref x, a1, a2, a3, a4, a5, a6, a7] st h r ↔ gm_Go E d 128 14 [.ref x, a1, a2, a3, a4, a5, a6, a7] (.ref x :: st) h r := gr_loc m128 f128_13 rfl rfl
theorem r128_13n {E : Nat → Value} {d : Nat} {st : List Value} {h : gm_H} {r : gm_R × gm_H} {a1 a2 a3 a4 a5 a6 a7 : Value}  : gm_Go E d 128 13 [.null, a1, a2, a3, a4, a5, a6, a7] st h r ↔ gm_Go E d 128 14 [.null, a1, a2, a3, a4, a5, a6, a7] (.null :: st) h r := gr_loc m128 f128_13 rfl rfl
theorem f128_14 : gm_ft 128 14 = some (.iload 6, 2) := by decide +kernel
theorem r128_14 {E : Nat → Value} {d : Nat} {st : List Value} {h : gm_H} {r : gm_R × gm_H} {a0 a1 a2 a3 a4 a5 a7 : Value} {x : Int32} : gm_Go E d 128 14 [a0, a1, a2, a3, a4, a5, .int x, a7] st h r ↔ gm_Go E d 128 16 [a0, a1, a2, a3, a4, a5, .int x, a7] (.int x :: st) h r := gr_loc m128 f128_14 rfl rfl
theorem f128_16 : gm_ft 128 16 = some (.aload_n 0, 1) := by decide +kernel
theorem r128_16 {E : Nat → Value} {d : Nat} {st : List Value} {h : gm_H} {r : gm_R × gm_H} {a1 a2 a3 a4 a5 a6 a7 : Value} {x : Nat} : gm_Go E d 128 16 [.ref x, a1, a2, a3, a4, a5, a6, a7] st h r ↔ gm_Go E d 128 17 [.ref x, a1, a2, a3, a4, a5, a6, a7] (.ref x :: st) h r := gr_loc m128 f128_16 rfl rfl
theorem r128_16n {E : Nat → Value} {d : Nat} {st : List Value} {h : gm_H} {r : gm_R × gm_H} {a1 a2 a3 a4 a5 a6 a7 : Value}  : gm_Go E d 128 16 [.null, a1, a2, a3, a4, a5, a6, a7] st h r ↔ gm_Go E d 128 17 [.null, a1, a2, a3, a4, a5, a6, a7] (.null :: st) h r := gr_loc m128 f128_16 rfl rfl
theorem f128_17 : gm_ft 128 17 = some (.getfield 42, 3) := by decide +kernel
theorem r128_17 {E : Nat → Value} {d : Nat} {st : List Value} {h : gm_H} {r : gm_R × gm_H} {lv : List Value} {a : Nat} {vs : List Value} {v : Value} (hr : gm_rd h a = some (5, vs)) (hv : vs[19]? = some v) : gm_Go E d 128 17 lv (.ref a :: st) h r ↔ gm_Go E d 128 20 lv (v :: st) h r := gr_rd m128 f128_17 rfl rfl rfl rfl (gf_get k5_42 hr hv)
theorem f128_20 : gm_ft 128 20 = some (.iload_n 1, 1) := by decide +kernel
theorem r128_20 {E : Nat → Value} {d : Nat} {st : List Value} {h : gm_H} {r : gm_R × gm_H} {a0 a2 a3 a4 a5 a6 a7 : Value} {x : Int32} : gm_Go E d 128 20 [a0, .int x, a2, a3, a4, a5, a6, a7] st h r ↔ gm_Go E d 128 21 [a0, .int x, a2, a3, a4, a5, a6, a7] (.int x :: st) h r := gr_loc m128 f128_20 rfl rfl
theorem f128_21 : gm_ft 128 21 = some (.iaload, 1) := by decide +kernel
theorem r128_21 {E : Nat → Value} {d : Nat} {st : List Value} {h : gm_H} {r : gm_R × gm_H} {lv : List Value} {a k j : Nat} {vs : List Value} {v : Value} (hr : gm_rd h a = some (k, vs)) (hk : 100 ≤ k ∧ (fun t => t == 0) (k % 100) = true) (hj : j < 2 ^ 31) (hv : vs[j]? = some v) : gm_Go E d 128 21 lv (.int (nI j) :: .ref a :: st) h r ↔ gm_Go E d 128 22 lv (v :: st) h r := gr_rd m128 f128_21 rfl rfl rfl rfl (ga_ld (P := fun t => t == 0) hr hk hj hv)
theorem f128_22 : gm_ft 128 22 = some (.invokevirtual 260, 3) := by decide +kernel
theorem n128_22 {st : List Value} {h : gm_H} {E : Nat → Value} {lv : List Value} {b0 b1 : Value} {a : Nat} (hs : (st.map fun v => v.category).sum ≤ 8) (he : (gm_en1 [.ref a, b0, b1]).length ≤ 5) {vs : List Value} (hr : gm_rd h a = some (5, vs)) : gm_next E 128 22 lv (b1 :: b0 :: .ref a :: st) h = some (.inr (.inl (0, 129, [.ref a, b0, b1], st))) := gn_call m128 f128_22 rfl rfl rfl rfl rfl rfl rfl (gc_virt (bs := [b1, b0]) (w := 973) rfl rfl rfl rfl hs he hr) (by decide)
theorem f128_25 : gm_ft 128 25 = some (.ifCond .ne 4, 3) := by decide +kernel
theorem r128_25 {E : Nat → Value} {d : Nat} {st : List Value} {h : gm_H} {r : gm_R × gm_H} {lv : List Value} {x : Int32} : gm_Go E d 128 25 lv (.int x :: st) h r ↔ (if x = 0 then gm_Go E d 128 28 lv st h r else gm_Go E d 128 29 lv st h r) := (gr_br m128 f128_25 rfl rfl rfl rfl).trans gr_ifn
theorem f128_28 : gm_ft 128 28 = some (.return_, 1) := by decide +kernel
theorem r128_28 {E : Nat → Value} {d : Nat} {h : gm_H} {r : gm_R × gm_H} {lv : List Value} : gm_Go E d 128 28 lv [] h r ↔ r = (.inl none, h) := gr_ret m128 f128_28 rfl rfl rfl rfl rfl rfl rfl rfl rfl
theorem f128_29 : gm_ft 128 29 = some (.iconst 0, 1) := by decide +kernel
theorem r128_29 {E : Nat → Value} {d : Nat} {st : List Value} {h : gm_H} {r : gm_R × gm_H} {lv : List Value} : gm_Go E d 128 29 lv st h r ↔ gm_Go E d 128 30 lv (.int (0 : Int32) :: st) h r := gr_pure m128 f128_29 rfl
theorem f128_30 : gm_ft 128 30 = some (.istore 7, 2) := by decide +kernel
theorem r128_30 {E : Nat → Value} {d : Nat} {st : List Value} {h : gm_H} {r : gm_R × gm_H} {a0 a1 a2 a3 a4 a5 a6 a7 : Value} {x : Int32} : gm_Go E d 128 30 [a0, a1, a2, a3, a4, a5, a6, a7] (.int x :: st) h r ↔ gm_Go E d 128 32 [a0, a1, a2, a3, a4, a5, gm_k a6, .int x] st h r := gr_loc m128 f128_30 rfl rfl
theorem f128_32 : gm_ft 128 32 = some (.iload 7, 2) := by decide +kernel
theorem r128_32 {E : Nat → Value} {d : Nat} {st : List Value} {h : gm_H} {r : gm_R × gm_H} {a0 a1 a2 a3 a4 a5 a6 : Value} {x : Int32} : gm_Go E d 128 32 [a0, a1, a2, a3, a4, a5, a6, .int x] st h r ↔ gm_Go E d 128 34 [a0, a1, a2, a3, a4, a5, a6, .int x] (.int x :: st) h r := gr_loc m128 f128_32 rfl rfl
theorem f128_34 : gm_ft 128 34 = some (.aload_n 0, 1) := by decide +kernel
theorem r128_34 {E : Nat → Value} {d : Nat} {st : List Value} {h : gm_H} {r : gm_R × gm_H} {a1 a2 a3 a4 a5 a6 a7 : Value} {x : Nat} : gm_Go E d 128 34 [.ref x, a1, a2, a3, a4, a5, a6, a7] st h r ↔ gm_Go E d 128 35 [.ref x, a1, a2, a3, a4, a5, a6, a7] (.ref x :: st) h r := gr_loc m128 f128_34 rfl rfl
theorem r128_34n {E : Nat → Value} {d : Nat} {st : List Value} {h : gm_H} {r : gm_R × gm_H} {a1 a2 a3 a4 a5 a6 a7 : Value}  : gm_Go E d 128 34 [.null, a1, a2, a3, a4, a5, a6, a7] st h r ↔ gm_Go E d 128 35 [.null, a1, a2, a3, a4, a5, a6, a7] (.null :: st) h r := gr_loc m128 f128_34 rfl rfl
theorem f128_35 : gm_ft 128 35 = some (.getfield 23, 3) := by decide +kernel
theorem r128_35 {E : Nat → Value} {d : Nat} {st : List Value} {h : gm_H} {r : gm_R × gm_H} {lv : List Value} {a : Nat} {vs : List Value} {v : Value} (hr : gm_rd h a = some (5, vs)) (hv : vs[13]? = some v) : gm_Go E d 128 35 lv (.ref a :: st) h r ↔ gm_Go E d 128 38 lv (v :: st) h r := gr_rd m128 f128_35 rfl rfl rfl rfl (gf_get k5_23 hr hv)
theorem f128_38 : gm_ft 128 38 = some (.iload 6, 2) := by decide +kernel
theorem r128_38 {E : Nat → Value} {d : Nat} {st : List Value} {h : gm_H} {r : gm_R × gm_H} {a0 a1 a2 a3 a4 a5 a7 : Value} {x : Int32} : gm_Go E d 128 38 [a0, a1, a2, a3, a4, a5, .int x, a7] st h r ↔ gm_Go E d 128 40 [a0, a1, a2, a3, a4, a5, .int x, a7] (.int x :: st) h r := gr_loc m128 f128_38 rfl rfl
theorem f128_40 : gm_ft 128 40 = some (.iaload, 1) := by decide +kernel
theorem r128_40 {E : Nat → Value} {d : Nat} {st : List Value} {h : gm_H} {r : gm_R × gm_H} {lv : List Value} {a k j : Nat} {vs : List Value} {v : Value} (hr : gm_rd h a = some (k, vs)) (hk : 100 ≤ k ∧ (fun t => t == 0) (k % 100) = true) (hj : j < 2 ^ 31) (hv : vs[j]? = some v) : gm_Go E d 128 40 lv (.int (nI j) :: .ref a :: st) h r ↔ gm_Go E d 128 41 lv (v :: st) h r := gr_rd m128 f128_40 rfl rfl rfl rfl (ga_ld (P := fun t => t == 0) hr hk hj hv)
theorem f128_41 : gm_ft 128 41 = some (.if_icmp .ge 126, 3) := by decide +kernel
theorem r128_41 {E : Nat → Value} {d : Nat} {st : List Value} {h : gm_H} {r : gm_R × gm_H} {lv : List Value} {x y : Int32} : gm_Go E d 128 41 lv (.int y :: .int x :: st) h r ↔ (if y ≤ x then gm_Go E d 128 167 lv st h r else gm_Go E d 128 44 lv st h r) := (gr_br m128 f128_41 rfl rfl rfl rfl).trans gr_if
theorem f128_44 : gm_ft 128 44 = some (.aload_n 0, 1) := by decide +kernel
theorem r128_44 {E : Nat → Value} {d : Nat} {st : List Value} {h : gm_H} {r : gm_R × gm_H} {a1 a2 a3 a4 a5 a6 a7 : Value} {x : Nat} : gm_Go E d 128 44 [.ref x, a1, a2, a3, a4, a5, a6, a7] st h r ↔ gm_Go E d 128 45 [.ref x, a1, a2, a3, a4, a5, a6, a7] (.ref x :: st) h r := gr_loc m128 f128_44 rfl rfl
theorem r128_44n {E : Nat → Value} {d : Nat} {st : List Value} {h : gm_H} {r : gm_R × gm_H} {a1 a2 a3 a4 a5 a6 a7 : Value}  : gm_Go E d 128 44 [.null, a1, a2, a3, a4, a5, a6, a7] st h r ↔ gm_Go E d 128 45 [.null, a1, a2, a3, a4, a5, a6, a7] (.null :: st) h r := gr_loc m128 f128_44 rfl rfl
theorem f128_45 : gm_ft 128 45 = some (.getfield 26, 3) := by decide +kernel
theorem r128_45 {E : Nat → Value} {d : Nat} {st : List Value} {h : gm_H} {r : gm_R × gm_H} {lv : List Value} {a : Nat} {vs : List Value} {v : Value} (hr : gm_rd h a = some (5, vs)) (hv : vs[14]? = some v) : gm_Go E d 128 45 lv (.ref a :: st) h r ↔ gm_Go E d 128 48 lv (v :: st) h r := gr_rd m128 f128_45 rfl rfl rfl rfl (gf_get k5_26 hr hv)
theorem f128_48 : gm_ft 128 48 = some (.iconst 4, 1) := by decide +kernel
theorem r128_48 {E : Nat → Value} {d : Nat} {st : List Value} {h : gm_H} {r : gm_R × gm_H} {lv : List Value} : gm_Go E d 128 48 lv st h r ↔ gm_Go E d 128 49 lv (.int (4 : Int32) :: st) h r := gr_pure m128 f128_48 rfl
theorem f128_49 : gm_ft 128 49 = some (.iload 6, 2) := by decide +kernel
theorem r128_49 {E : Nat → Value} {d : Nat} {st : List Value} {h : gm_H} {r : gm_R × gm_H} {a0 a1 a2 a3 a4 a5 a7 : Value} {x : Int32} : gm_Go E d 128 49 [a0, a1, a2, a3, a4, a5, .int x, a7] st h r ↔ gm_Go E d 128 51 [a0, a1, a2, a3, a4, a5, .int x, a7] (.int x :: st) h r := gr_loc m128 f128_49 rfl rfl
theorem f128_51 : gm_ft 128 51 = some (.imul, 1) := by decide +kernel
theorem r128_51 {E : Nat → Value} {d : Nat} {st : List Value} {h : gm_H} {r : gm_R × gm_H} {lv : List Value} {x y : Int32} : gm_Go E d 128 51 lv (.int y :: .int x :: st) h r ↔ gm_Go E d 128 52 lv (.int (x * y) :: st) h r := gr_pure m128 f128_51 rfl
theorem f128_52 : gm_ft 128 52 = some (.iload 7, 2) := by decide +kernel
theorem r128_52 {E : Nat → Value} {d : Nat} {st : List Value} {h : gm_H} {r : gm_R × gm_H} {a0 a1 a2 a3 a4 a5 a6 : Value} {x : Int32} : gm_Go E d 128 52 [a0, a1, a2, a3, a4, a5, a6, .int x] st h r ↔ gm_Go E d 128 54 [a0, a1, a2, a3, a4, a5, a6, .int x] (.int x :: st) h r := gr_loc m128 f128_52 rfl rfl
theorem f128_54 : gm_ft 128 54 = some (.iadd, 1) := by decide +kernel
theorem r128_54 {E : Nat → Value} {d : Nat} {st : List Value} {h : gm_H} {r : gm_R × gm_H} {lv : List Value} {x y : Int32} : gm_Go E d 128 54 lv (.int y :: .int x :: st) h r ↔ gm_Go E d 128 55 lv (.int (x + y) :: st) h r := gr_pure m128 f128_54 rfl
theorem f128_55 : gm_ft 128 55 = some (.iaload, 1) := by decide +kernel
theorem r128_55 {E : Nat → Value} {d : Nat} {st : List Value} {h : gm_H} {r : gm_R × gm_H} {lv : List Value} {a k j : Nat} {vs : List Value} {v : Value} (hr : gm_rd h a = some (k, vs)) (hk : 100 ≤ k ∧ (fun t => t == 0) (k % 100) = true) (hj : j < 2 ^ 31) (hv : vs[j]? = some v) : gm_Go E d 128 55 lv (.int (nI j) :: .ref a :: st) h r ↔ gm_Go E d 128 56 lv (v :: st) h r := gr_rd m128 f128_55 rfl rfl rfl rfl (ga_ld (P := fun t => t == 0) hr hk hj hv)
theorem f128_56 : gm_ft 128 56 = some (.aload_n 0, 1) := by decide +kernel
theorem r128_56 {E : Nat → Value} {d : Nat} {st : List Value} {h : gm_H} {r : gm_R × gm_H} {a1 a2 a3 a4 a5 a6 a7 : Value} {x : Nat} : gm_Go E d 128 56 [.ref x, a1, a2, a3, a4, a5, a6, a7] st h r ↔ gm_Go E d 128 57 [.ref x, a1, a2, a3, a4, a5, a6, a7] (.ref x :: st) h r := gr_loc m128 f128_56 rfl rfl
theorem r128_56n {E : Nat → Value} {d : Nat} {st : List Value} {h : gm_H} {r : gm_R × gm_H} {a1 a2 a3 a4 a5 a6 a7 : Value}  : gm_Go E d 128 56 [.null, a1, a2, a3, a4, a5, a6, a7] st h r ↔ gm_Go E d 128 57 [.null, a1, a2, a3, a4, a5, a6, a7] (.null :: st) h r := gr_loc m128 f128_56 rfl rfl
theorem f128_57 : gm_ft 128 57 = some (.getfield 84, 3) := by decide +kernel
theorem r128_57 {E : Nat → Value} {d : Nat} {st : List Value} {h : gm_H} {r : gm_R × gm_H} {lv : List Value} {a : Nat} {vs : List Value} {v : Value} (hr : gm_rd h a = some (5, vs)) (hv : vs[36]? = some v) : gm_Go E d 128 57 lv (.ref a :: st) h r ↔ gm_Go E d 128 60 lv (v :: st) h r := gr_rd m128 f128_57 rfl rfl rfl rfl (gf_get k5_84 hr hv)
theorem f128_60 : gm_ft 128 60 = some (.bipush 8, 2) := by decide +kernel
theorem r128_60 {E : Nat → Value} {d : Nat} {st : List Value} {h : gm_H} {r : gm_R × gm_H} {lv : List Value} : gm_Go E d 128 60 lv st h r ↔ gm_Go E d 128 62 lv (.int (8 : Int32) :: st) h r := gr_pure m128 f128_60 rfl
theorem f128_62 : gm_ft 128 62 = some (.iload_n 2, 1) := by decide +kernel
theorem r128_62 {E : Nat → Value} {d : Nat} {st : List Value} {h : gm_H} {r : gm_R × gm_H} {a0 a1 a3 a4 a5 a6 a7 : Value} {x : Int32} : gm_Go E d 128 62 [a0, a1, .int x, a3, a4, a5, a6, a7] st h r ↔ gm_Go E d 128 63 [a0, a1, .int x, a3, a4, a5, a6, a7] (.int x :: st) h r := gr_loc m128 f128_62 rfl rfl
theorem f128_63 : gm_ft 128 63 = some (.imul, 1) := by decide +kernel
theorem r128_63 {E : Nat → Value} {d : Nat} {st : List Value} {h : gm_H} {r : gm_R × gm_H} {lv : List Value} {x y : Int32} : gm_Go E d 128 63 lv (.int y :: .int x :: st) h r ↔ gm_Go E d 128 64 lv (.int (x * y) :: st) h r := gr_pure m128 f128_63 rfl
theorem f128_64 : gm_ft 128 64 = some (.iload_n 3, 1) := by decide +kernel
theorem r128_64 {E : Nat → Value} {d : Nat} {st : List Value} {h : gm_H} {r : gm_R × gm_H} {a0 a1 a2 a4 a5 a6 a7 : Value} {x : Int32} : gm_Go E d 128 64 [a0, a1, a2, .int x, a4, a5, a6, a7] st h r ↔ gm_Go E d 128 65 [a0, a1, a2, .int x, a4, a5, a6, a7] (.int x :: st) h r := gr_loc m128 f128_64 rfl rfl
theorem f128_65 : gm_ft 128 65 = some (.iadd, 1) := by decide +kernel
theorem r128_65 {E : Nat → Value} {d : Nat} {st : List Value} {h : gm_H} {r : gm_R × gm_H} {lv : List Value} {x y : Int32} : gm_Go E d 128 65 lv (.int y :: .int x :: st) h r ↔ gm_Go E d 128 66 lv (.int (x + y) :: st) h r := gr_pure m128 f128_65 rfl
theorem f128_66 : gm_ft 128 66 = some (.iaload, 1) := by decide +kernel
theorem r128_66 {E : Nat → Value} {d : Nat} {st : List Value} {h : gm_H} {r : gm_R × gm_H} {lv : List Value} {a k j : Nat} {vs : List Value} {v : Value} (hr : gm_rd h a = some (k, vs)) (hk : 100 ≤ k ∧ (fun t => t == 0) (k % 100) = true) (hj : j < 2 ^ 31) (hv : vs[j]? = some v) : gm_Go E d 128 66 lv (.int (nI j) :: .ref a :: st) h r ↔ gm_Go E d 128 67 lv (v :: st) h r := gr_rd m128 f128_66 rfl rfl rfl rfl (ga_ld (P := fun t => t == 0) hr hk hj hv)
theorem f128_67 : gm_ft 128 67 = some (.if_icmp .ne 94, 3) := by decide +kernel
theorem r128_67 {E : Nat → Value} {d : Nat} {st : List Value} {h : gm_H} {r : gm_R × gm_H} {lv : List Value} {x y : Int32} : gm_Go E d 128 67 lv (.int y :: .int x :: st) h r ↔ (if x = y then gm_Go E d 128 70 lv st h r else gm_Go E d 128 161 lv st h r) := (gr_br m128 f128_67 rfl rfl rfl rfl).trans gr_ifn
theorem f128_70 : gm_ft 128 70 = some (.aload_n 0, 1) := by decide +kernel
theorem r128_70 {E : Nat → Value} {d : Nat} {st : List Value} {h : gm_H} {r : gm_R × gm_H} {a1 a2 a3 a4 a5 a6 a7 : Value} {x : Nat} : gm_Go E d 128 70 [.ref x, a1, a2, a3, a4, a5, a6, a7] st h r ↔ gm_Go E d 128 71 [.ref x, a1, a2, a3, a4, a5, a6, a7] (.ref x :: st) h r := gr_loc m128 f128_70 rfl rfl
theorem r128_70n {E : Nat → Value} {d : Nat} {st : List Value} {h : gm_H} {r : gm_R × gm_H} {a1 a2 a3 a4 a5 a6 a7 : Value}  : gm_Go E d 128 70 [.null, a1, a2, a3, a4, a5, a6, a7] st h r ↔ gm_Go E d 128 71 [.null, a1, a2, a3, a4, a5, a6, a7] (.null :: st) h r := gr_loc m128 f128_70 rfl rfl
theorem f128_71 : gm_ft 128 71 = some (.getfield 29, 3) := by decide +kernel
theorem r128_71 {E : Nat → Value} {d : Nat} {st : List Value} {h : gm_H} {r : gm_R × gm_H} {lv : List Value} {a : Nat} {vs : List Value} {v : Value} (hr : gm_rd h a = some (5, vs)) (hv : vs[15]? = some v) : gm_Go E d 128 71 lv (.ref a :: st) h r ↔ gm_Go E d 128 74 lv (v :: st) h r := gr_rd m128 f128_71 rfl rfl rfl rfl (gf_get k5_29 hr hv)
theorem f128_74 : gm_ft 128 74 = some (.iconst 4, 1) := by decide +kernel
theorem r128_74 {E : Nat → Value} {d : Nat} {st : List Value} {h : gm_H} {r : gm_R × gm_H} {lv : List Value} : gm_Go E d 128 74 lv st h r ↔ gm_Go E d 128 75 lv (.int (4 : Int32) :: st) h r := gr_pure m128 f128_74 rfl
theorem f128_75 : gm_ft 128 75 = some (.iload 6, 2) := by decide +kernel
theorem r128_75 {E : Nat → Value} {d : Nat} {st : List Value} {h : gm_H} {r : gm_R × gm_H} {a0 a1 a2 a3 a4 a5 a7 : Value} {x : Int32} : gm_Go E d 128 75 [a0, a1, a2, a3, a4, a5, .int x, a7] st h r ↔ gm_Go E d 128 77 [a0, a1, a2, a3, a4, a5, .int x, a7] (.int x :: st) h r := gr_loc m128 f128_75 rfl rfl
theorem f128_77 : gm_ft 128 77 = some (.imul, 1) := by decide +kernel
theorem r128_77 {E : Nat → Value} {d : Nat} {st : List Value} {h : gm_H} {r : gm_R × gm_H} {lv : List Value} {x y : Int32} : gm_Go E d 128 77 lv (.int y :: .int x :: st) h r ↔ gm_Go E d 128 78 lv (.int (x * y) :: st) h r := gr_pure m128 f128_77 rfl
theorem f128_78 : gm_ft 128 78 = some (.iload 7, 2) := by decide +kernel
theorem r128_78 {E : Nat → Value} {d : Nat} {st : List Value} {h : gm_H} {r : gm_R × gm_H} {a0 a1 a2 a3 a4 a5 a6 : Value} {x : Int32} : gm_Go E d 128 78 [a0, a1, a2, a3, a4, a5, a6, .int x] st h r ↔ gm_Go E d 128 80 [a0, a1, a2, a3, a4, a5, a6, .int x] (.int x :: st) h r := gr_loc m128 f128_78 rfl rfl
theorem f128_80 : gm_ft 128 80 = some (.iadd, 1) := by decide +kernel
theorem r128_80 {E : Nat → Value} {d : Nat} {st : List Value} {h : gm_H} {r : gm_R × gm_H} {lv : List Value} {x y : Int32} : gm_Go E d 128 80 lv (.int y :: .int x :: st) h r ↔ gm_Go E d 128 81 lv (.int (x + y) :: st) h r := gr_pure m128 f128_80 rfl
theorem f128_81 : gm_ft 128 81 = some (.iaload, 1) := by decide +kernel
theorem r128_81 {E : Nat → Value} {d : Nat} {st : List Value} {h : gm_H} {r : gm_R × gm_H} {lv : List Value} {a k j : Nat} {vs : List Value} {v : Value} (hr : gm_rd h a = some (k, vs)) (hk : 100 ≤ k ∧ (fun t => t == 0) (k % 100) = true) (hj : j < 2 ^ 31) (hv : vs[j]? = some v) : gm_Go E d 128 81 lv (.int (nI j) :: .ref a :: st) h r ↔ gm_Go E d 128 82 lv (v :: st) h r := gr_rd m128 f128_81 rfl rfl rfl rfl (ga_ld (P := fun t => t == 0) hr hk hj hv)
theorem f128_82 : gm_ft 128 82 = some (.aload_n 0, 1) := by decide +kernel
theorem r128_82 {E : Nat → Value} {d : Nat} {st : List Value} {h : gm_H} {r : gm_R × gm_H} {a1 a2 a3 a4 a5 a6 a7 : Value} {x : Nat} : gm_Go E d 128 82 [.ref x, a1, a2, a3, a4, a5, a6, a7] st h r ↔ gm_Go E d 128 83 [.ref x, a1, a2, a3, a4, a5, a6, a7] (.ref x :: st) h r := gr_loc m128 f128_82 rfl rfl
theorem r128_82n {E : Nat → Value} {d : Nat} {st : List Value} {h : gm_H} {r : gm_R × gm_H} {a1 a2 a3 a4 a5 a6 a7 : Value}  : gm_Go E d 128 82 [.null, a1, a2, a3, a4, a5, a6, a7] st h r ↔ gm_Go E d 128 83 [.null, a1, a2, a3, a4, a5, a6, a7] (.null :: st) h r := gr_loc m128 f128_82 rfl rfl
theorem f128_83 : gm_ft 128 83 = some (.getfield 87, 3) := by decide +kernel
theorem r128_83 {E : Nat → Value} {d : Nat} {st : List Value} {h : gm_H} {r : gm_R × gm_H} {lv : List Value} {a : Nat} {vs : List Value} {v : Value} (hr : gm_rd h a = some (5, vs)) (hv : vs[37]? = some v) : gm_Go E d 128 83 lv (.ref a :: st) h r ↔ gm_Go E d 128 86 lv (v :: st) h r := gr_rd m128 f128_83 rfl rfl rfl rfl (gf_get k5_87 hr hv)
theorem f128_86 : gm_ft 128 86 = some (.bipush 8, 2) := by decide +kernel
theorem r128_86 {E : Nat → Value} {d : Nat} {st : List Value} {h : gm_H} {r : gm_R × gm_H} {lv : List Value} : gm_Go E d 128 86 lv st h r ↔ gm_Go E d 128 88 lv (.int (8 : Int32) :: st) h r := gr_pure m128 f128_86 rfl
theorem f128_88 : gm_ft 128 88 = some (.iload_n 2, 1) := by decide +kernel
theorem r128_88 {E : Nat → Value} {d : Nat} {st : List Value} {h : gm_H} {r : gm_R × gm_H} {a0 a1 a3 a4 a5 a6 a7 : Value} {x : Int32} : gm_Go E d 128 88 [a0, a1, .int x, a3, a4, a5, a6, a7] st h r ↔ gm_Go E d 128 89 [a0, a1, .int x, a3, a4, a5, a6, a7] (.int x :: st) h r := gr_loc m128 f128_88 rfl rfl
theorem f128_89 : gm_ft 128 89 = some (.imul, 1) := by decide +kernel
theorem r128_89 {E : Nat → Value} {d : Nat} {st : List Value} {h : gm_H} {r : gm_R × gm_H} {lv : List Value} {x y : Int32} : gm_Go E d 128 89 lv (.int y :: .int x :: st) h r ↔ gm_Go E d 128 90 lv (.int (x * y) :: st) h r := gr_pure m128 f128_89 rfl
theorem f128_90 : gm_ft 128 90 = some (.iload_n 3, 1) := by decide +kernel
theorem r128_90 {E : Nat → Value} {d : Nat} {st : List Value} {h : gm_H} {r : gm_R × gm_H} {a0 a1 a2 a4 a5 a6 a7 : Value} {x : Int32} : gm_Go E d 128 90 [a0, a1, a2, .int x, a4, a5, a6, a7] st h r ↔ gm_Go E d 128 91 [a0, a1, a2, .int x, a4, a5, a6, a7] (.int x :: st) h r := gr_loc m128 f128_90 rfl rfl
theorem f128_91 : gm_ft 128 91 = some (.iadd, 1) := by decide +kernel
theorem r128_91 {E : Nat → Value} {d : Nat} {st : List Value} {h : gm_H} {r : gm_R × gm_H} {lv : List Value} {x y : Int32} : gm_Go E d 128 91 lv (.int y :: .int x :: st) h r ↔ gm_Go E d 128 92 lv (.int (x + y) :: st) h r := gr_pure m128 f128_91 rfl
theorem f128_92 : gm_ft 128 92 = some (.iaload, 1) := by decide +kernel
theorem r128_92 {E : Nat → Value} {d : Nat} {st : List Value} {h : gm_H} {r : gm_R × gm_H} {lv : List Value} {a k j : Nat} {vs : List Value} {v : Value} (hr : gm_rd h a = some (k, vs)) (hk : 100 ≤ k ∧ (fun t => t == 0) (k % 100) = true) (hj : j < 2 ^ 31) (hv : vs[j]? = some v) : gm_Go E d 128 92 lv (.int (nI j) :: .ref a :: st) h r ↔ gm_Go E d 128 93 lv (v :: st) h r := gr_rd m128 f128_92 rfl rfl rfl rfl (ga_ld (P := fun t => t == 0) hr hk hj hv)
theorem f128_93 : gm_ft 128 93 = some (.if_icmp .ne 68, 3) := by decide +kernel
theorem r128_93 {E : Nat → Value} {d : Nat} {st : List Value} {h : gm_H} {r : gm_R × gm_H} {lv : List Value} {x y : Int32} : gm_Go E d 128 93 lv (.int y :: .int x :: st) h r ↔ (if x = y then gm_Go E d 128 96 lv st h r else gm_Go E d 128 161 lv st h r) := (gr_br m128 f128_93 rfl rfl rfl rfl).trans gr_ifn
theorem f128_96 : gm_ft 128 96 = some (.aload_n 0, 1) := by decide +kernel
theorem r128_96 {E : Nat → Value} {d : Nat} {st : List Value} {h : gm_H} {r : gm_R × gm_H} {a1 a2 a3 a4 a5 a6 a7 : Value} {x : Nat} : gm_Go E d 128 96 [.ref x, a1, a2, a3, a4, a5, a6, a7] st h r ↔ gm_Go E d 128 97 [.ref x, a1, a2, a3, a4, a5, a6, a7] (.ref x :: st) h r := gr_loc m128 f128_96 rfl rfl
theorem r128_96n {E : Nat → Value} {d : Nat} {st : List Value} {h : gm_H} {r : gm_R × gm_H} {a1 a2 a3 a4 a5 a6 a7 : Value}  : gm_Go E d 128 96 [.null, a1, a2, a3, a4, a5, a6, a7] st h r ↔ gm_Go E d 128 97 [.null, a1, a2, a3, a4, a5, a6, a7] (.null :: st) h r := gr_loc m128 f128_96 rfl rfl
theorem f128_97 : gm_ft 128 97 = some (.getfield 29, 3) := by decide +kernel
theorem r128_97 {E : Nat → Value} {d : Nat} {st : List Value} {h : gm_H} {r : gm_R × gm_H} {lv : List Value} {a : Nat} {vs : List Value} {v : Value} (hr : gm_rd h a = some (5, vs)) (hv : vs[15]? = some v) : gm_Go E d 128 97 lv (.ref a :: st) h r ↔ gm_Go E d 128 100 lv (v :: st) h r := gr_rd m128 f128_97 rfl rfl rfl rfl (gf_get k5_29 hr hv)
theorem f128_100 : gm_ft 128 100 = some (.iconst 4, 1) := by decide +kernel
theorem r128_100 {E : Nat → Value} {d : Nat} {st : List Value} {h : gm_H} {r : gm_R × gm_H} {lv : List Value} : gm_Go E d 128 100 lv st h r ↔ gm_Go E d 128 101 lv (.int (4 : Int32) :: st) h r := gr_pure m128 f128_100 rfl
theorem f128_101 : gm_ft 128 101 = some (.iload 6, 2) := by decide +kernel
theorem r128_101 {E : Nat → Value} {d : Nat} {st : List Value} {h : gm_H} {r : gm_R × gm_H} {a0 a1 a2 a3 a4 a5 a7 : Value} {x : Int32} : gm_Go E d 128 101 [a0, a1, a2, a3, a4, a5, .int x, a7] st h r ↔ gm_Go E d 128 103 [a0, a1, a2, a3, a4, a5, .int x, a7] (.int x :: st) h r := gr_loc m128 f128_101 rfl rfl
theorem f128_103 : gm_ft 128 103 = some (.imul, 1) := by decide +kernel
theorem r128_103 {E : Nat → Value} {d : Nat} {st : List Value} {h : gm_H} {r : gm_R × gm_H} {lv : List Value} {x y : Int32} : gm_Go E d 128 103 lv (.int y :: .int x :: st) h r ↔ gm_Go E d 128 104 lv (.int (x * y) :: st) h r := gr_pure m128 f128_103 rfl
theorem f128_104 : gm_ft 128 104 = some (.iload 7, 2) := by decide +kernel
theorem r128_104 {E : Nat → Value} {d : Nat} {st : List Value} {h : gm_H} {r : gm_R × gm_H} {a0 a1 a2 a3 a4 a5 a6 : Value} {x : Int32} : gm_Go E d 128 104 [a0, a1, a2, a3, a4, a5, a6, .int x] st h r ↔ gm_Go E d 128 106 [a0, a1, a2, a3, a4, a5, a6, .int x] (.int x :: st) h r := gr_loc m128 f128_104 rfl rfl
theorem f128_106 : gm_ft 128 106 = some (.iadd, 1) := by decide +kernel
theorem r128_106 {E : Nat → Value} {d : Nat} {st : List Value} {h : gm_H} {r : gm_R × gm_H} {lv : List Value} {x y : Int32} : gm_Go E d 128 106 lv (.int y :: .int x :: st) h r ↔ gm_Go E d 128 107 lv (.int (x + y) :: st) h r := gr_pure m128 f128_106 rfl
theorem f128_107 : gm_ft 128 107 = some (.iaload, 1) := by decide +kernel
theorem r128_107 {E : Nat → Value} {d : Nat} {st : List Value} {h : gm_H} {r : gm_R × gm_H} {lv : List Value} {a k j : Nat} {vs : List Value} {v : Value} (hr : gm_rd h a = some (k, vs)) (hk : 100 ≤ k ∧ (fun t => t == 0) (k % 100) = true) (hj : j < 2 ^ 31) (hv : vs[j]? = some v) : gm_Go E d 128 107 lv (.int (nI j) :: .ref a :: st) h r ↔ gm_Go E d 128 108 lv (v :: st) h r := gr_rd m128 f128_107 rfl rfl rfl rfl (ga_ld (P := fun t => t == 0) hr hk hj hv)
theorem f128_108 : gm_ft 128 108 = some (.bipush 6, 2) := by decide +kernel
theorem r128_108 {E : Nat → Value} {d : Nat} {st : List Value} {h : gm_H} {r : gm_R × gm_H} {lv : List Value} : gm_Go E d 128 108 lv st h r ↔ gm_Go E d 128 110 lv (.int (6 : Int32) :: st) h r := gr_pure m128 f128_108 rfl
theorem f128_110 : gm_ft 128 110 = some (.if_icmp .ne 28, 3) := by decide +kernel
theorem r128_110 {E : Nat → Value} {d : Nat} {st : List Value} {h : gm_H} {r : gm_R × gm_H} {lv : List Value} {x y : Int32} : gm_Go E d 128 110 lv (.int y :: .int x :: st) h r ↔ (if x = y then gm_Go E d 128 113 lv st h r else gm_Go E d 128 138 lv st h r) := (gr_br m128 f128_110 rfl rfl rfl rfl).trans gr_ifn
theorem f128_113 : gm_ft 128 113 = some (.lload 4, 2) := by decide +kernel
theorem r128_113 {E : Nat → Value} {d : Nat} {st : List Value} {h : gm_H} {r : gm_R × gm_H} {a0 a1 a2 a3 a5 a6 a7 : Value} {x : Int64} : gm_Go E d 128 113 [a0, a1, a2, a3, .long x, a5, a6, a7] st h r ↔ gm_Go E d 128 115 [a0, a1, a2, a3, .long x, a5, a6, a7] (.long x :: st) h r := gr_loc m128 f128_113 rfl rfl
theorem f128_115 : gm_ft 128 115 = some (.lconst 0, 1) := by decide +kernel
theorem r128_115 {E : Nat → Value} {d : Nat} {st : List Value} {h : gm_H} {r : gm_R × gm_H} {lv : List Value} : gm_Go E d 128 115 lv st h r ↔ gm_Go E d 128 116 lv (.long 0 :: st) h r := gr_pure m128 f128_115 rfl
theorem f128_116 : gm_ft 128 116 = some (.lcmp, 1) := by decide +kernel
theorem r128_116 {E : Nat → Value} {d : Nat} {st : List Value} {h : gm_H} {r : gm_R × gm_H} {lv : List Value} {x y : Int64} : gm_Go E d 128 116 lv (.long y :: .long x :: st) h r ↔ gm_Go E d 128 117 lv (.int (lg_cmp x y) :: st) h r := gr_pure m128 f128_116 rfl
theorem f128_117 : gm_ft 128 117 = some (.ifCond .lt 21, 3) := by decide +kernel
theorem r128_117 {E : Nat → Value} {d : Nat} {st : List Value} {h : gm_H} {r : gm_R × gm_H} {lv : List Value} {x : Int32} : gm_Go E d 128 117 lv (.int x :: st) h r ↔ (if x < 0 then gm_Go E d 128 138 lv st h r else gm_Go E d 128 120 lv st h r) := (gr_br m128 f128_117 rfl rfl rfl rfl).trans gr_if
theorem f128_120 : gm_ft 128 120 = some (.aload_n 0, 1) := by decide +kernel
theorem r128_120 {E : Nat → Value} {d : Nat} {st : List Value} {h : gm_H} {r : gm_R × gm_H} {a1 a2 a3 a4 a5 a6 a7 : Value} {x : Nat} : gm_Go E d 128 120 [.ref x, a1, a2, a3, a4, a5, a6, a7] st h r ↔ gm_Go E d 128 121 [.ref x, a1, a2, a3, a4, a5, a6, a7] (.ref x :: st) h r := gr_loc m128 f128_120 rfl rfl
theorem r128_120n {E : Nat → Value} {d : Nat} {st : List Value} {h : gm_H} {r : gm_R × gm_H} {a1 a2 a3 a4 a5 a6 a7 : Value}  : gm_Go E d 128 120 [.null, a1, a2, a3, a4, a5, a6, a7] st h r ↔ gm_Go E d 128 121 [.null, a1, a2, a3, a4, a5, a6, a7] (.null :: st) h r := gr_loc m128 f128_120 rfl rfl
theorem f128_121 : gm_ft 128 121 = some (.getfield 39, 3) := by decide +kernel
theorem r128_121 {E : Nat → Value} {d : Nat} {st : List Value} {h : gm_H} {r : gm_R × gm_H} {lv : List Value} {a : Nat} {vs : List Value} {v : Value} (hr : gm_rd h a = some (5, vs)) (hv : vs[18]? = some v) : gm_Go E d 128 121 lv (.ref a :: st) h r ↔ gm_Go E d 128 124 lv (v :: st) h r := gr_rd m128 f128_121 rfl rfl rfl rfl (gf_get k5_39 hr hv)
theorem f128_124 : gm_ft 128 124 = some (.lload 4, 2) := by decide +kernel
theorem r128_124 {E : Nat → Value} {d : Nat} {st : List Value} {h : gm_H} {r : gm_R × gm_H} {a0 a1 a2 a3 a5 a6 a7 : Value} {x : Int64} : gm_Go E d 128 124 [a0, a1, a2, a3, .long x, a5, a6, a7] st h r ↔ gm_Go E d 128 126 [a0, a1, a2, a3, .long x, a5, a6, a7] (.long x :: st) h r := gr_loc m128 f128_124 rfl rfl
theorem f128_126 : gm_ft 128 126 = some (.l2i, 1) := by decide +kernel
theorem r128_126 {E : Nat → Value} {d : Nat} {st : List Value} {h : gm_H} {r : gm_R × gm_H} {lv : List Value} {x : Int64} : gm_Go E d 128 126 lv (.long x :: st) h r ↔ gm_Go E d 128 127 lv (.int (x.toInt32) :: st) h r := gr_pure m128 f128_126 rfl
theorem f128_127 : gm_ft 128 127 = some (.iaload, 1) := by decide +kernel
theorem r128_127 {E : Nat → Value} {d : Nat} {st : List Value} {h : gm_H} {r : gm_R × gm_H} {lv : List Value} {a k j : Nat} {vs : List Value} {v : Value} (hr : gm_rd h a = some (k, vs)) (hk : 100 ≤ k ∧ (fun t => t == 0) (k % 100) = true) (hj : j < 2 ^ 31) (hv : vs[j]? = some v) : gm_Go E d 128 127 lv (.int (nI j) :: .ref a :: st) h r ↔ gm_Go E d 128 128 lv (v :: st) h r := gr_rd m128 f128_127 rfl rfl rfl rfl (ga_ld (P := fun t => t == 0) hr hk hj hv)
theorem f128_128 : gm_ft 128 128 = some (.iconst 2, 1) := by decide +kernel
theorem r128_128 {E : Nat → Value} {d : Nat} {st : List Value} {h : gm_H} {r : gm_R × gm_H} {lv : List Value} : gm_Go E d 128 128 lv st h r ↔ gm_Go E d 128 129 lv (.int (2 : Int32) :: st) h r := gr_pure m128 f128_128 rfl
theorem f128_129 : gm_ft 128 129 = some (.if_icmp .eq 9, 3) := by decide +kernel
theorem r128_129 {E : Nat → Value} {d : Nat} {st : List Value} {h : gm_H} {r : gm_R × gm_H} {lv : List Value} {x y : Int32} : gm_Go E d 128 129 lv (.int y :: .int x :: st) h r ↔ (if x = y then gm_Go E d 128 138 lv st h r else gm_Go E d 128 132 lv st h r) := (gr_br m128 f128_129 rfl rfl rfl rfl).trans gr_if
theorem f128_132 : gm_ft 128 132 = some (.aload_n 0, 1) := by decide +kernel
theorem r128_132 {E : Nat → Value} {d : Nat} {st : List Value} {h : gm_H} {r : gm_R × gm_H} {a1 a2 a3 a4 a5 a6 a7 : Value} {x : Nat} : gm_Go E d 128 132 [.ref x, a1, a2, a3, a4, a5, a6, a7] st h r ↔ gm_Go E d 128 133 [.ref x, a1, a2, a3, a4, a5, a6, a7] (.ref x :: st) h r := gr_loc m128 f128_132 rfl rfl
theorem r128_132n {E : Nat → Value} {d : Nat} {st : List Value} {h : gm_H} {r : gm_R × gm_H} {a1 a2 a3 a4 a5 a6 a7 : Value}  : gm_Go E d 128 132 [.null, a1, a2, a3, a4, a5, a6, a7] st h r ↔ gm_Go E d 128 133 [.null, a1, a2, a3, a4, a5, a6, a7] (.null :: st) h r := gr_loc m128 f128_132 rfl rfl
theorem f128_133 : gm_ft 128 133 = some (.bipush (-6), 2) := by decide +kernel
theorem r128_133 {E : Nat → Value} {d : Nat} {st : List Value} {h : gm_H} {r : gm_R × gm_H} {lv : List Value} : gm_Go E d 128 133 lv st h r ↔ gm_Go E d 128 135 lv (.int (-6 : Int32) :: st) h r := gr_pure m128 f128_133 rfl
theorem f128_135 : gm_ft 128 135 = some (.invokevirtual 151, 3) := by decide +kernel
theorem n128_135 {st : List Value} {h : gm_H} {E : Nat → Value} {lv : List Value} {b0 : Value} {a : Nat} (hs : (st.map fun v => v.category).sum ≤ 8) (he : (gm_en1 [.ref a, b0]).length ≤ 2) {vs : List Value} (hr : gm_rd h a = some (5, vs)) : gm_next E 128 135 lv (b0 :: .ref a :: st) h = some (.inr (.inl (0, 98, [.ref a, b0], st))) := gn_call m128 f128_135 rfl rfl rfl rfl rfl rfl rfl (gc_virt (bs := [b0]) (w := 844) rfl rfl rfl rfl hs he hr) (by decide)
theorem f128_138 : gm_ft 128 138 = some (.aload_n 0, 1) := by decide +kernel
theorem r128_138 {E : Nat → Value} {d : Nat} {st : List Value} {h : gm_H} {r : gm_R × gm_H} {a1 a2 a3 a4 a5 a6 a7 : Value} {x : Nat} : gm_Go E d 128 138 [.ref x, a1, a2, a3, a4, a5, a6, a7] st h r ↔ gm_Go E d 128 139 [.ref x, a1, a2, a3, a4, a5, a6, a7] (.ref x :: st) h r := gr_loc m128 f128_138 rfl rfl
theorem r128_138n {E : Nat → Value} {d : Nat} {st : List Value} {h : gm_H} {r : gm_R × gm_H} {a1 a2 a3 a4 a5 a6 a7 : Value}  : gm_Go E d 128 138 [.null, a1, a2, a3, a4, a5, a6, a7] st h r ↔ gm_Go E d 128 139 [.null, a1, a2, a3, a4, a5, a6, a7] (.null :: st) h r := gr_loc m128 f128_138 rfl rfl
theorem f128_139 : gm_ft 128 139 = some (.getfield 54, 3) := by decide +kernel
theorem r128_139 {E : Nat → Value} {d : Nat} {st : List Value} {h : gm_H} {r : gm_R × gm_H} {lv : List Value} {a : Nat} {vs : List Value} {v : Value} (hr : gm_rd h a = some (5, vs)) (hv : vs[24]? = some v) : gm_Go E d 128 139 lv (.ref a :: st) h r ↔ gm_Go E d 128 142 lv (v :: st) h r := gr_rd m128 f128_139 rfl rfl rfl rfl (gf_get k5_54 hr hv)
theorem f128_142 : gm_ft 128 142 = some (.aload_n 0, 1) := by decide +kernel
theorem r128_142 {E : Nat → Value} {d : Nat} {st : List Value} {h : gm_H} {r : gm_R × gm_H} {a1 a2 a3 a4 a5 a6 a7 : Value} {x : Nat} : gm_Go E d 128 142 [.ref x, a1, a2, a3, a4, a5, a6, a7] st h r ↔ gm_Go E d 128 143 [.ref x, a1, a2, a3, a4, a5, a6, a7] (.ref x :: st) h r := gr_loc m128 f128_142 rfl rfl
theorem r128_142n {E : Nat → Value} {d : Nat} {st : List Value} {h : gm_H} {r : gm_R × gm_H} {a1 a2 a3 a4 a5 a6 a7 : Value}  : gm_Go E d 128 142 [.null, a1, a2, a3, a4, a5, a6, a7] st h r ↔ gm_Go E d 128 143 [.null, a1, a2, a3, a4, a5, a6, a7] (.null :: st) h r := gr_loc m128 f128_142 rfl rfl
theorem f128_143 : gm_ft 128 143 = some (.getfield 48, 3) := by decide +kernel
theorem r128_143 {E : Nat → Value} {d : Nat} {st : List Value} {h : gm_H} {r : gm_R × gm_H} {lv : List Value} {a : Nat} {vs : List Value} {v : Value} (hr : gm_rd h a = some (5, vs)) (hv : vs[21]? = some v) : gm_Go E d 128 143 lv (.ref a :: st) h r ↔ gm_Go E d 128 146 lv (v :: st) h r := gr_rd m128 f128_143 rfl rfl rfl rfl (gf_get k5_48 hr hv)
theorem f128_146 : gm_ft 128 146 = some (.iload_n 1, 1) := by decide +kernel
theorem r128_146 {E : Nat → Value} {d : Nat} {st : List Value} {h : gm_H} {r : gm_R × gm_H} {a0 a2 a3 a4 a5 a6 a7 : Value} {x : Int32} : gm_Go E d 128 146 [a0, .int x, a2, a3, a4, a5, a6, a7] st h r ↔ gm_Go E d 128 147 [a0, .int x, a2, a3, a4, a5, a6, a7] (.int x :: st) h r := gr_loc m128 f128_146 rfl rfl
theorem f128_147 : gm_ft 128 147 = some (.iaload, 1) := by decide +kernel
theorem r128_147 {E : Nat → Value} {d : Nat} {st : List Value} {h : gm_H} {r : gm_R × gm_H} {lv : List Value} {a k j : Nat} {vs : List Value} {v : Value} (hr : gm_rd h a = some (k, vs)) (hk : 100 ≤ k ∧ (fun t => t == 0) (k % 100) = true) (hj : j < 2 ^ 31) (hv : vs[j]? = some v) : gm_Go E d 128 147 lv (.int (nI j) :: .ref a :: st) h r ↔ gm_Go E d 128 148 lv (v :: st) h r := gr_rd m128 f128_147 rfl rfl rfl rfl (ga_ld (P := fun t => t == 0) hr hk hj hv)
theorem f128_148 : gm_ft 128 148 = some (.aload_n 0, 1) := by decide +kernel
theorem r128_148 {E : Nat → Value} {d : Nat} {st : List Value} {h : gm_H} {r : gm_R × gm_H} {a1 a2 a3 a4 a5 a6 a7 : Value} {x : Nat} : gm_Go E d 128 148 [.ref x, a1, a2, a3, a4, a5, a6, a7] st h r ↔ gm_Go E d 128 149 [.ref x, a1, a2, a3, a4, a5, a6, a7] (.ref x :: st) h r := gr_loc m128 f128_148 rfl rfl
theorem r128_148n {E : Nat → Value} {d : Nat} {st : List Value} {h : gm_H} {r : gm_R × gm_H} {a1 a2 a3 a4 a5 a6 a7 : Value}  : gm_Go E d 128 148 [.null, a1, a2, a3, a4, a5, a6, a7] st h r ↔ gm_Go E d 128 149 [.null, a1, a2, a3, a4, a5, a6, a7] (.null :: st) h r := gr_loc m128 f128_148 rfl rfl
theorem f128_149 : gm_ft 128 149 = some (.iload 6, 2) := by decide +kernel
theorem r128_149 {E : Nat → Value} {d : Nat} {st : List Value} {h : gm_H} {r : gm_R × gm_H} {a0 a1 a2 a3 a4 a5 a7 : Value} {x : Int32} : gm_Go E d 128 149 [a0, a1, a2, a3, a4, a5, .int x, a7] st h r ↔ gm_Go E d 128 151 [a0, a1, a2, a3, a4, a5, .int x, a7] (.int x :: st) h r := gr_loc m128 f128_149 rfl rfl
theorem f128_151 : gm_ft 128 151 = some (.invokevirtual 208, 3) := by decide +kernel
theorem n128_151 {st : List Value} {h : gm_H} {E : Nat → Value} {lv : List Value} {b0 : Value} {a : Nat} (hs : (st.map fun v => v.category).sum ≤ 8) (he : (gm_en1 [.ref a, b0]).length ≤ 4) {vs : List Value} (hr : gm_rd h a = some (5, vs)) : gm_next E 128 151 lv (b0 :: .ref a :: st) h = some (.inr (.inl (0, 113, [.ref a, b0], st))) := gn_call m128 f128_151 rfl rfl rfl rfl rfl rfl rfl (gc_virt (bs := [b0]) (w := 905) rfl rfl rfl rfl hs he hr) (by decide)
theorem f128_154 : gm_ft 128 154 = some (.iadd, 1) := by decide +kernel
theorem r128_154 {E : Nat → Value} {d : Nat} {st : List Value} {h : gm_H} {r : gm_R × gm_H} {lv : List Value} {x y : Int32} : gm_Go E d 128 154 lv (.int y :: .int x :: st) h r ↔ gm_Go E d 128 155 lv (.int (x + y) :: st) h r := gr_pure m128 f128_154 rfl
theorem f128_155 : gm_ft 128 155 = some (.iload 7, 2) := by decide +kernel
theorem r128_155 {E : Nat → Value} {d : Nat} {st : List Value} {h : gm_H} {r : gm_R × gm_H} {a0 a1 a2 a3 a4 a5 a6 : Value} {x : Int32} : gm_Go E d 128 155 [a0, a1, a2, a3, a4, a5, a6, .int x] st h r ↔ gm_Go E d 128 157 [a0, a1, a2, a3, a4, a5, a6, .int x] (.int x :: st) h r := gr_loc m128 f128_155 rfl rfl
theorem f128_157 : gm_ft 128 157 = some (.iadd, 1) := by decide +kernel
theorem r128_157 {E : Nat → Value} {d : Nat} {st : List Value} {h : gm_H} {r : gm_R × gm_H} {lv : List Value} {x y : Int32} : gm_Go E d 128 157 lv (.int y :: .int x :: st) h r ↔ gm_Go E d 128 158 lv (.int (x + y) :: st) h r := gr_pure m128 f128_157 rfl
theorem f128_158 : gm_ft 128 158 = some (.lload 4, 2) := by decide +kernel
theorem r128_158 {E : Nat → Value} {d : Nat} {st : List Value} {h : gm_H} {r : gm_R × gm_H} {a0 a1 a2 a3 a5 a6 a7 : Value} {x : Int64} : gm_Go E d 128 158 [a0, a1, a2, a3, .long x, a5, a6, a7] st h r ↔ gm_Go E d 128 160 [a0, a1, a2, a3, .long x, a5, a6, a7] (.long x :: st) h r := gr_loc m128 f128_158 rfl rfl
theorem f128_160 : gm_ft 128 160 = some (.lastore, 1) := by decide +kernel
theorem r128_160 {E : Nat → Value} {d : Nat} {st : List Value} {h : gm_H} {r : gm_R × gm_H} {lv : List Value} {a k j : Nat} {vs : List Value} {x : Int64} (hr : gm_rd h a = some (k, vs)) (hk : 100 ≤ k ∧ k % 100 = 1 ∧ gm_ko k = 2 ∧ 2 < 3) (hj : j < 2 ^ 31) (hl : j < vs.length) : gm_Go E d 128 160 lv (.long x :: .int (nI j) :: .ref a :: st) h r ↔ gm_Go E d 128 161 lv st (gm_wr h a (k, vs.set j (.long x))) r := gr_wr m128 f128_160 rfl rfl rfl rfl rfl (ga_st hr hk hj hl)
theorem f128_161 : gm_ft 128 161 = some (.iinc 7 1, 3) := by decide +kernel
theorem r128_161 {E : Nat → Value} {d : Nat} {st : List Value} {h : gm_H} {r : gm_R × gm_H} {a0 a1 a2 a3 a4 a5 a6 : Value} {x : Int32} : gm_Go E d 128 161 [a0, a1, a2, a3, a4, a5, a6, .int x] st h r ↔ gm_Go E d 128 164 [a0, a1, a2, a3, a4, a5, gm_k a6, .int (x + (1 : Int32))] st h r := gr_loc m128 f128_161 rfl rfl
theorem f128_164 : gm_ft 128 164 = some (.goto (-132), 3) := by decide +kernel
theorem r128_164 {E : Nat → Value} {d : Nat} {st : List Value} {h : gm_H} {r : gm_R × gm_H} {lv : List Value} : gm_Go E d 128 164 lv st h r ↔ gm_Go E d 128 32 lv st h r := gr_brT m128 f128_164 rfl rfl rfl rfl
theorem f128_167 : gm_ft 128 167 = some (.return_, 1) := by decide +kernel
theorem r128_167 {E : Nat → Value} {d : Nat} {h : gm_H} {r : gm_R × gm_H} {lv : List Value} : gm_Go E d 128 167 lv [] h r ↔ r = (.inl none, h) := gr_ret m128 f128_167 rfl rfl rfl rfl rfl rfl rfl rfl rfl
/-! GraphReaderModel.inChain(II)Z -/
theorem m129 : gm_mt[129]? = some (⟨"GraphReaderModel", "inChain", "(II)Z"⟩, prog_7_method_20_code, 5, (some .boolean), [], 5, 2) := rfl
theorem f129_0 : gm_ft 129 0 = some (.iload_n 2, 1) := by decide +kernel
theorem r129_0 {E : Nat → Value} {d : Nat} {st : List Value} {h : gm_H} {r : gm_R × gm_H} {a0 a1 a3 a4 : Value} {x : Int32} : gm_Go E d 129 0 [a0, a1, .int x, a3, a4] st h r ↔ gm_Go E d 129 1 [a0, a1, .int x, a3, a4] (.int x :: st) h r := gr_loc m129 f129_0 rfl rfl
theorem f129_1 : gm_ft 129 1 = some (.istore_n 3, 1) := by decide +kernel
theorem r129_1 {E : Nat → Value} {d : Nat} {st : List Value} {h : gm_H} {r : gm_R × gm_H} {a0 a1 a2 a3 a4 : Value} {x : Int32} : gm_Go E d 129 1 [a0, a1, a2, a3, a4] (.int x :: st) h r ↔ gm_Go E d 129 2 [a0, a1, gm_k a2, .int x, a4] st h r := gr_loc m129 f129_1 rfl rfl
theorem f129_2 : gm_ft 129 2 = some (.iconst 0, 1) := by decide +kernel
theorem r129_2 {E : Nat → Value} {d : Nat} {st : List Value} {h : gm_H} {r : gm_R × gm_H} {lv : List Value} : gm_Go E d 129 2 lv st h r ↔ gm_Go E d 129 3 lv (.int (0 : Int32) :: st) h r := gr_pure m129 f129_2 rfl
theorem f129_3 : gm_ft 129 3 = some (.istore 4, 2) := by decide +kernel
theorem r129_3 {E : Nat → Value} {d : Nat} {st : List Value} {h : gm_H} {r : gm_R × gm_H} {a0 a1 a2 a3 a4 : Value} {x : Int32} : gm_Go E d 129 3 [a0, a1, a2, a3, a4] (.int x :: st) h r ↔ gm_Go E d 129 5 [a0, a1, a2, gm_k a3, .int x] st h r := gr_loc m129 f129_3 rfl rfl
theorem f129_5 : gm_ft 129 5 = some (.iload 4, 2) := by decide +kernel
theorem r129_5 {E : Nat → Value} {d : Nat} {st : List Value} {h : gm_H} {r : gm_R × gm_H} {a0 a1 a2 a3 : Value} {x : Int32} : gm_Go E d 129 5 [a0, a1, a2, a3, .int x] st h r ↔ gm_Go E d 129 7 [a0, a1, a2, a3, .int x] (.int x :: st) h r := gr_loc m129 f129_5 rfl rfl
theorem f129_7 : gm_ft 129 7 = some (.bipush 6, 2) := by decide +kernel
theorem r129_7 {E : Nat → Value} {d : Nat} {st : List Value} {h : gm_H} {r : gm_R × gm_H} {lv : List Value} : gm_Go E d 129 7 lv st h r ↔ gm_Go E d 129 9 lv (.int (6 : Int32) :: st) h r := gr_pure m129 f129_7 rfl
theorem f129_9 : gm_ft 129 9 = some (.if_icmp .ge 25, 3) := by decide +kernel
theorem r129_9 {E : Nat → Value} {d : Nat} {st : List Value} {h : gm_H} {r : gm_R × gm_H} {lv : List Value} {x y : Int32} : gm_Go E d 129 9 lv (.int y :: .int x :: st) h r ↔ (if y ≤ x then gm_Go E d 129 34 lv st h r else gm_Go E d 129 12 lv st h r) := (gr_br m129 f129_9 rfl rfl rfl rfl).trans gr_if
theorem f129_12 : gm_ft 129 12 = some (.iload_n 3, 1) := by decide +kernel
theorem r129_12 {E : Nat → Value} {d : Nat} {st : List Value} {h : gm_H} {r : gm_R × gm_H} {a0 a1 a2 a4 : Value} {x : Int32} : gm_Go E d 129 12 [a0, a1, a2, .int x, a4] st h r ↔ gm_Go E d 129 13 [a0, a1, a2, .int x, a4] (.int x :: st) h r := gr_loc m129 f129_12 rfl rfl
theorem f129_13 : gm_ft 129 13 = some (.ifCond .lt 21, 3) := by decide +kernel
theorem r129_13 {E : Nat → Value} {d : Nat} {st : List Value} {h : gm_H} {r : gm_R × gm_H} {lv : List Value} {x : Int32} : gm_Go E d 129 13 lv (.int x :: st) h r ↔ (if x < 0 then gm_Go E d 129 34 lv st h r else gm_Go E d 129 16 lv st h r) := (gr_br m129 f129_13 rfl rfl rfl rfl).trans gr_if
theorem f129_16 : gm_ft 129 16 = some (.iload_n 3, 1) := by decide +kernel
theorem r129_16 {E : Nat → Value} {d : Nat} {st : List Value} {h : gm_H} {r : gm_R × gm_H} {a0 a1 a2 a4 : Value} {x : Int32} : gm_Go E d 129 16 [a0, a1, a2, .int x, a4] st h r ↔ gm_Go E d 129 17 [a0, a1, a2, .int x, a4] (.int x :: st) h r := gr_loc m129 f129_16 rfl rfl
theorem f129_17 : gm_ft 129 17 = some (.iload_n 1, 1) := by decide +kernel
theorem r129_17 {E : Nat → Value} {d : Nat} {st : List Value} {h : gm_H} {r : gm_R × gm_H} {a0 a2 a3 a4 : Value} {x : Int32} : gm_Go E d 129 17 [a0, .int x, a2, a3, a4] st h r ↔ gm_Go E d 129 18 [a0, .int x, a2, a3, a4] (.int x :: st) h r := gr_loc m129 f129_17 rfl rfl
theorem f129_18 : gm_ft 129 18 = some (.if_icmp .eq 16, 3) := by decide +kernel
theorem r129_18 {E : Nat → Value} {d : Nat} {st : List Value} {h : gm_H} {r : gm_R × gm_H} {lv : List Value} {x y : Int32} : gm_Go E d 129 18 lv (.int y :: .int x :: st) h r ↔ (if x = y then gm_Go E d 129 34 lv st h r else gm_Go E d 129 21 lv st h r) := (gr_br m129 f129_18 rfl rfl rfl rfl).trans gr_if
theorem f129_21 : gm_ft 129 21 = some (.aload_n 0, 1) := by decide +kernel
theorem r129_21 {E : Nat → Value} {d : Nat} {st : List Value} {h : gm_H} {r : gm_R × gm_H} {a1 a2 a3 a4 : Value} {x : Nat} : gm_Go E d 129 21 [.ref x, a1, a2, a3, a4] st h r ↔ gm_Go E d 129 22 [.ref x, a1, a2, a3, a4] (.ref x :: st) h r := gr_loc m129 f129_21 rfl rfl
theorem r129_21n {E : Nat → Value} {d : Nat} {st : List Value} {h : gm_H} {r : gm_R × gm_H} {a1 a2 a3 a4 : Value}  : gm_Go E d 129 21 [.null, a1, a2, a3, a4] st h r ↔ gm_Go E d 129 22 [.null, a1, a2, a3, a4] (.null :: st) h r := gr_loc m129 f129_21 rfl rfl
theorem f129_22 : gm_ft 129 22 = some (.getfield 20, 3) := by decide +kernel
theorem r129_22 {E : Nat → Value} {d : Nat} {st : List Value} {h : gm_H} {r : gm_R × gm_H} {lv : List Value} {a : Nat} {vs : List Value} {v : Value} (hr : gm_rd h a = some (5, vs)) (hv : vs[12]? = some v) : gm_Go E d 129 22 lv (.ref a :: st) h r ↔ gm_Go E d 129 25 lv (v :: st) h r := gr_rd m129 f129_22 rfl rfl rfl rfl (gf_get k5_20 hr hv)
theorem f129_25 : gm_ft 129 25 = some (.iload_n 3, 1) := by decide +kernel
theorem r129_25 {E : Nat → Value} {d : Nat} {st : List Value} {h : gm_H} {r : gm_R × gm_H} {a0 a1 a2 a4 : Value} {x : Int32} : gm_Go E d 129 25 [a0, a1, a2, .int x, a4] st h r ↔ gm_Go E d 129 26 [a0, a1, a2, .int x, a4] (.int x :: st) h r := gr_loc m129 f129_25 rfl rfl
theorem f129_26 : gm_ft 129 26 = some (.iaload, 1) := by decide +kernel
theorem r129_26 {E : Nat → Value} {d : Nat} {st : List Value} {h : gm_H} {r : gm_R × gm_H} {lv : List Value} {a k j : Nat} {vs : List Value} {v : Value} (hr : gm_rd h a = some (k, vs)) (hk : 100 ≤ k ∧ (fun t => t == 0) (k % 100) = true) (hj : j < 2 ^ 31) (hv : vs[j]? = some v) : gm_Go E d 129 26 lv (.int (nI j) :: .ref a :: st) h r ↔ gm_Go E d 129 27 lv (v :: st) h r := gr_rd m129 f129_26 rfl rfl rfl rfl (ga_ld (P := fun t => t == 0) hr hk hj hv)
theorem f129_27 : gm_ft 129 27 = some (.istore_n 3, 1) := by decide +kernel
theorem r129_27 {E : Nat → Value} {d : Nat} {st : List Value} {h : gm_H} {r : gm_R × gm_H} {a0 a1 a2 a3 a4 : Value} {x : Int32} : gm_Go E d 129 27 [a0, a1, a2, a3, a4] (.int x :: st) h r ↔ gm_Go E d 129 28 [a0, a1, gm_k a2, .int x, a4] st h r := gr_loc m129 f129_27 rfl rfl
theorem f129_28 : gm_ft 129 28 = some (.iinc 4 1, 3) := by decide +kernel
theorem r129_28 {E : Nat → Value} {d : Nat} {st : List Value} {h : gm_H} {r : gm_R × gm_H} {a0 a1 a2 a3 : Value} {x : Int32} : gm_Go E d 129 28 [a0, a1, a2, a3, .int x] st h r ↔ gm_Go E d 129 31 [a0, a1, a2, gm_k a3, .int (x + (1 : Int32))] st h r := gr_loc m129 f129_28 rfl rfl
theorem f129_31 : gm_ft 129 31 = some (.goto (-26), 3) := by decide +kernel
theorem r129_31 {E : Nat → Value} {d : Nat} {st : List Value} {h : gm_H} {r : gm_R × gm_H} {lv : List Value} : gm_Go E d 129 31 lv st h r ↔ gm_Go E d 129 5 lv st h r := gr_brT m129 f129_31 rfl rfl rfl rfl
theorem f129_34 : gm_ft 129 34 = some (.iload_n 3, 1) := by decide +kernel
theorem r129_34 {E : Nat → Value} {d : Nat} {st : List Value} {h : gm_H} {r : gm_R × gm_H} {a0 a1 a2 a4 : Value} {x : Int32} : gm_Go E d 129 34 [a0, a1, a2, .int x, a4] st h r ↔ gm_Go E d 129 35 [a0, a1, a2, .int x, a4] (.int x :: st) h r := gr_loc m129 f129_34 rfl rfl
theorem f129_35 : gm_ft 129 35 = some (.iload_n 1, 1) := by decide +kernel
theorem r129_35 {E : Nat → Value} {d : Nat} {st : List Value} {h : gm_H} {r : gm_R × gm_H} {a0 a2 a3 a4 : Value} {x : Int32} : gm_Go E d 129 35 [a0, .int x, a2, a3, a4] st h r ↔ gm_Go E d 129 36 [a0, .int x, a2, a3, a4] (.int x :: st) h r := gr_loc m129 f129_35 rfl rfl
theorem f129_36 : gm_ft 129 36 = some (.if_icmp .ne 7, 3) := by decide +kernel
theorem r129_36 {E : Nat → Value} {d : Nat} {st : List Value} {h : gm_H} {r : gm_R × gm_H} {lv : List Value} {x y : Int32} : gm_Go E d 129 36 lv (.int y :: .int x :: st) h r ↔ (if x = y then gm_Go E d 129 39 lv st h r else gm_Go E d 129 43 lv st h r) := (gr_br m129 f129_36 rfl rfl rfl rfl).trans gr_ifn
theorem f129_39 : gm_ft 129 39 = some (.iconst 1, 1) := by decide +kernel
theorem r129_39 {E : Nat → Value} {d : Nat} {st : List Value} {h : gm_H} {r : gm_R × gm_H} {lv : List Value} : gm_Go E d 129 39 lv st h r ↔ gm_Go E d 129 40 lv (.int (1 : Int32) :: st) h r := gr_pure m129 f129_39 rfl
theorem f129_40 : gm_ft 129 40 = some (.goto 4, 3) := by decide +kernel
theorem r129_40 {E : Nat → Value} {d : Nat} {st : List Value} {h : gm_H} {r : gm_R × gm_H} {lv : List Value} : gm_Go E d 129 40 lv st h r ↔ gm_Go E d 129 44 lv st h r := gr_brT m129 f129_40 rfl rfl rfl rfl
theorem f129_43 : gm_ft 129 43 = some (.iconst 0, 1) := by decide +kernel
theorem r129_43 {E : Nat → Value} {d : Nat} {st : List Value} {h : gm_H} {r : gm_R × gm_H} {lv : List Value} : gm_Go E d 129 43 lv st h r ↔ gm_Go E d 129 44 lv (.int (0 : Int32) :: st) h r := gr_pure m129 f129_43 rfl
theorem f129_44 : gm_ft 129 44 = some (.ireturn, 1) := by decide +kernel
theorem r129_44_0 {E : Nat → Value} {d : Nat} {h : gm_H} {r : gm_R × gm_H} {lv : List Value} : gm_Go E d 129 44 lv [.int (0 : Int32)] h r ↔ r = (.inl (some (.int (0 : Int32))), h) := gr_ret m129 f129_44 rfl rfl rfl rfl rfl rfl rfl rfl (by unfold gm_rt; dsimp only; rw [if_pos ⟨rfl, rfl⟩])
theorem r129_44_1 {E : Nat → Value} {d : Nat} {h : gm_H} {r : gm_R × gm_H} {lv : List Value} : gm_Go E d 129 44 lv [.int (1 : Int32)] h r ↔ r = (.inl (some (.int (1 : Int32))), h) := gr_ret m129 f129_44 rfl rfl rfl rfl rfl rfl rfl rfl (by unfold gm_rt; dsimp only; rw [if_pos ⟨rfl, rfl⟩])
/-! GraphReaderModel.primitive(I)J -/
theorem m130 : gm_mt[130]? = some (⟨"GraphReaderModel", "primitive", "(I)J"⟩, prog_7_method_39_code, 2, (some .long), [], 5, 2) := rfl
theorem f130_0 : gm_ft 130 0 = some (.iload_n 1, 1) := by decide +kernel
theorem r130_0 {E : Nat → Value} {d : Nat} {st : List Value} {h : gm_H} {r : gm_R × gm_H} {a0 : Value} {x : Int32} : gm_Go E d 130 0 [a0, .int x] st h r ↔ gm_Go E d 130 1 [a0, .int x] (.int x :: st) h r := gr_loc m130 f130_0 rfl rfl
theorem f130_1 : gm_ft 130 1 = some (.ifCond .ne 12, 3) := by decide +kernel
theorem r130_1 {E : Nat → Value} {d : Nat} {st : List Value} {h : gm_H} {r : gm_R × gm_H} {lv : List Value} {x : Int32} : gm_Go E d 130 1 lv (.int x :: st) h r ↔ (if x = 0 then gm_Go E d 130 4 lv st h r else gm_Go E d 130 13 lv st h r) := (gr_br m130 f130_1 rfl rfl rfl rfl).trans gr_ifn
theorem f130_4 : gm_ft 130 4 = some (.aload_n 0, 1) := by decide +kernel
theorem r130_4 {E : Nat → Value} {d : Nat} {st : List Value} {h : gm_H} {r : gm_R × gm_H} {a1 : Value} {x : Nat} : gm_Go E d 130 4 [.ref x, a1] st h r ↔ gm_Go E d 130 5 [.ref x, a1] (.ref x :: st) h r := gr_loc m130 f130_4 rfl rfl
theorem r130_4n {E : Nat → Value} {d : Nat} {st : List Value} {h : gm_H} {r : gm_R × gm_H} {a1 : Value}  : gm_Go E d 130 4 [.null, a1] st h r ↔ gm_Go E d 130 5 [.null, a1] (.null :: st) h r := gr_loc m130 f130_4 rfl rfl
theorem f130_5 : gm_ft 130 5 = some (.iconst 1, 1) := by decide +kernel
theorem r130_5 {E : Nat → Value} {d : Nat} {st : List Value} {h : gm_H} {r : gm_R × gm_H} {lv : List Value} : gm_Go E d 130 5 lv st h r ↔ gm_Go E d 130 6 lv (.int (1 : Int32) :: st) h r := gr_pure m130 f130_5 rfl
theorem f130_6 : gm_ft 130 6 = some (.invokevirtual 159, 3) := by decide +kernel
theorem n130_6 {st : List Value} {h : gm_H} {E : Nat → Value} {lv : List Value} {b0 : Value} {a : Nat} (hs : (st.map fun v => v.category).sum ≤ 8) (he : (gm_en1 [.ref a, b0]).length ≤ 5) {vs : List Value} (hr : gm_rd h a = some (5, vs)) : gm_next E 130 6 lv (b0 :: .ref a :: st) h = some (.inr (.inl (0, 107, [.ref a, b0], st))) := gn_call m130 f130_6 rfl rfl rfl rfl rfl rfl rfl (gc_virt (bs := [b0]) (w := 880) rfl rfl rfl rfl hs he hr) (by decide)
theorem f130_9 : gm_ft 130 9 = some (.l2i, 1) := by decide +kernel
theorem r130_9 {E : Nat → Value} {d : Nat} {st : List Value} {h : gm_H} {r : gm_R × gm_H} {lv : List Value} {x : Int64} : gm_Go E d 130 9 lv (.long x :: st) h r ↔ gm_Go E d 130 10 lv (.int (x.toInt32) :: st) h r := gr_pure m130 f130_9 rfl
theorem f130_10 : gm_ft 130 10 = some (.i2b, 1) := by decide +kernel
theorem r130_10 {E : Nat → Value} {d : Nat} {st : List Value} {h : gm_H} {r : gm_R × gm_H} {lv : List Value} {x : Int32} : gm_Go E d 130 10 lv (.int x :: st) h r ↔ gm_Go E d 130 11 lv (.int (x.toInt8.toInt32) :: st) h r := gr_pure m130 f130_10 rfl
theorem f130_11 : gm_ft 130 11 = some (.i2l, 1) := by decide +kernel
theorem r130_11 {E : Nat → Value} {d : Nat} {st : List Value} {h : gm_H} {r : gm_R × gm_H} {lv : List Value} {x : Int32} : gm_Go E d 130 11 lv (.int x :: st) h r ↔ gm_Go E d 130 12 lv (.long (x.toInt64) :: st) h r := gr_pure m130 f130_11 rfl
theorem f130_12 : gm_ft 130 12 = some (.lreturn, 1) := by decide +kernel
theorem r130_12 {E : Nat → Value} {d : Nat} {h : gm_H} {r : gm_R × gm_H} {lv : List Value} {x : Int64} : gm_Go E d 130 12 lv [.long x] h r ↔ r = (.inl (some (.long x)), h) := gr_ret m130 f130_12 rfl rfl rfl rfl rfl rfl rfl rfl rfl
theorem f130_13 : gm_ft 130 13 = some (.iload_n 1, 1) := by decide +kernel
theorem r130_13 {E : Nat → Value} {d : Nat} {st : List Value} {h : gm_H} {r : gm_R × gm_H} {a0 : Value} {x : Int32} : gm_Go E d 130 13 [a0, .int x] st h r ↔ gm_Go E d 130 14 [a0, .int x] (.int x :: st) h r := gr_loc m130 f130_13 rfl rfl
theorem f130_14 : gm_ft 130 14 = some (.iconst 1, 1) := by decide +kernel
theorem r130_14 {E : Nat → Value} {d : Nat} {st : List Value} {h : gm_H} {r : gm_R × gm_H} {lv : List Value} : gm_Go E d 130 14 lv st h r ↔ gm_Go E d 130 15 lv (.int (1 : Int32) :: st) h r := gr_pure m130 f130_14 rfl
theorem f130_15 : gm_ft 130 15 = some (.if_icmp .ne 9, 3) := by decide +kernel
theorem r130_15 {E : Nat → Value} {d : Nat} {st : List Value} {h : gm_H} {r : gm_R × gm_H} {lv : List Value} {x y : Int32} : gm_Go E d 130 15 lv (.int y :: .int x :: st) h r ↔ (if x = y then gm_Go E d 130 18 lv st h r else gm_Go E d 130 24 lv st h r) := (gr_br m130 f130_15 rfl rfl rfl rfl).trans gr_ifn
theorem f130_18 : gm_ft 130 18 = some (.aload_n 0, 1) := by decide +kernel
theorem r130_18 {E : Nat → Value} {d : Nat} {st : List Value} {h : gm_H} {r : gm_R × gm_H} {a1 : Value} {x : Nat} : gm_Go E d 130 18 [.ref x, a1] st h r ↔ gm_Go E d 130 19 [.ref x, a1] (.ref x :: st) h r := gr_loc m130 f130_18 rfl rfl
theorem r130_18n {E : Nat → Value} {d : Nat} {st : List Value} {h : gm_H} {r : gm_R × gm_H} {a1 : Value}  : gm_Go E d 130 18 [.null, a1] st h r ↔ gm_Go E d 130 19 [.null, a1] (.null :: st) h r := gr_loc m130 f130_18 rfl rfl
theorem f130_19 : gm_ft 130 19 = some (.iconst 2, 1) := by decide +kernel
theorem r130_19 {E : Nat → Value} {d : Nat} {st : List Value} {h : gm_H} {r : gm_R × gm_H} {lv : List Value} : gm_Go E d 130 19 lv st h r ↔ gm_Go E d 130 20 lv (.int (2 : Int32) :: st) h r := gr_pure m130 f130_19 rfl
theorem f130_20 : gm_ft 130 20 = some (.invokevirtual 159, 3) := by decide +kernel
theorem n130_20 {st : List Value} {h : gm_H} {E : Nat → Value} {lv : List Value} {b0 : Value} {a : Nat} (hs : (st.map fun v => v.category).sum ≤ 8) (he : (gm_en1 [.ref a, b0]).length ≤ 5) {vs : List Value} (hr : gm_rd h a = some (5, vs)) : gm_next E 130 20 lv (b0 :: .ref a :: st) h = some (.inr (.inl (0, 107, [.ref a, b0], st))) := gn_call m130 f130_20 rfl rfl rfl rfl rfl rfl rfl (gc_virt (bs := [b0]) (w := 880) rfl rfl rfl rfl hs he hr) (by decide)
theorem f130_23 : gm_ft 130 23 = some (.lreturn, 1) := by decide +kernel
theorem r130_23 {E : Nat → Value} {d : Nat} {h : gm_H} {r : gm_R × gm_H} {lv : List Value} {x : Int64} : gm_Go E d 130 23 lv [.long x] h r ↔ r = (.inl (some (.long x)), h) := gr_ret m130 f130_23 rfl rfl rfl rfl rfl rfl rfl rfl rfl
theorem f130_24 : gm_ft 130 24 = some (.iload_n 1, 1) := by decide +kernel
theorem r130_24 {E : Nat → Value} {d : Nat} {st : List Value} {h : gm_H} {r : gm_R × gm_H} {a0 : Value} {x : Int32} : gm_Go E d 130 24 [a0, .int x] st h r ↔ gm_Go E d 130 25 [a0, .int x] (.int x :: st) h r := gr_loc m130 f130_24 rfl rfl
theorem f130_25 : gm_ft 130 25 = some (.iconst 2, 1) := by decide +kernel
theorem r130_25 {E : Nat → Value} {d : Nat} {st : List Value} {h : gm_H} {r : gm_R × gm_H} {lv : List Value} : gm_Go E d 130 25 lv st h r ↔ gm_Go E d 130 26 lv (.int (2 : Int32) :: st) h r := gr_pure m130 f130_25 rfl
theorem f130_26 : gm_ft 130 26 = some (.if_icmp .ne 11, 3) := by decide +kernel
theorem r130_26 {E : Nat → Value} {d : Nat} {st : List Value} {h : gm_H} {r : gm_R × gm_H} {lv : List Value} {x y : Int32} : gm_Go E d 130 26 lv (.int y :: .int x :: st) h r ↔ (if x = y then gm_Go E d 130 29 lv st h r else gm_Go E d 130 37 lv st h r) := (gr_br m130 f130_26 rfl rfl rfl rfl).trans gr_ifn
theorem f130_29 : gm_ft 130 29 = some (.aload_n 0, 1) := by decide +kernel
theorem r130_29 {E : Nat → Value} {d : Nat} {st : List Value} {h : gm_H} {r : gm_R × gm_H} {a1 : Value} {x : Nat} : gm_Go E d 130 29 [.ref x, a1] st h r ↔ gm_Go E d 130 30 [.ref x, a1] (.ref x :: st) h r := gr_loc m130 f130_29 rfl rfl
theorem r130_29n {E : Nat → Value} {d : Nat} {st : List Value} {h : gm_H} {r : gm_R × gm_H} {a1 : Value}  : gm_Go E d 130 29 [.null, a1] st h r ↔ gm_Go E d 130 30 [.null, a1] (.null :: st) h r := gr_loc m130 f130_29 rfl rfl
theorem f130_30 : gm_ft 130 30 = some (.iconst 4, 1) := by decide +kernel
theorem r130_30 {E : Nat → Value} {d : Nat} {st : List Value} {h : gm_H} {r : gm_R × gm_H} {lv : List Value} : gm_Go E d 130 30 lv st h r ↔ gm_Go E d 130 31 lv (.int (4 : Int32) :: st) h r := gr_pure m130 f130_30 rfl
theorem f130_31 : gm_ft 130 31 = some (.invokevirtual 159, 3) := by decide +kernel
theorem n130_31 {st : List Value} {h : gm_H} {E : Nat → Value} {lv : List Value} {b0 : Value} {a : Nat} (hs : (st.map fun v => v.category).sum ≤ 8) (he : (gm_en1 [.ref a, b0]).length ≤ 5) {vs : List Value} (hr : gm_rd h a = some (5, vs)) : gm_next E 130 31 lv (b0 :: .ref a :: st) h = some (.inr (.inl (0, 107, [.ref a, b0], st))) := gn_call m130 f130_31 rfl rfl rfl rfl rfl rfl rfl (gc_virt (bs := [b0]) (w := 880) rfl rfl rfl rfl hs he hr) (by decide)
theorem f130_34 : gm_ft 130 34 = some (.l2i, 1) := by decide +kernel
theorem r130_34 {E : Nat → Value} {d : Nat} {st : List Value} {h : gm_H} {r : gm_R × gm_H} {lv : List Value} {x : Int64} : gm_Go E d 130 34 lv (.long x :: st) h r ↔ gm_Go E d 130 35 lv (.int (x.toInt32) :: st) h r := gr_pure m130 f130_34 rfl
theorem f130_35 : gm_ft 130 35 = some (.i2l, 1) := by decide +kernel
theorem r130_35 {E : Nat → Value} {d : Nat} {st : List Value} {h : gm_H} {r : gm_R × gm_H} {lv : List Value} {x : Int32} : gm_Go E d 130 35 lv (.int x :: st) h r ↔ gm_Go E d 130 36 lv (.long (x.toInt64) :: st) h r := gr_pure m130 f130_35 rfl
theorem f130_36 : gm_ft 130 36 = some (.lreturn, 1) := by decide +kernel
theorem r130_36 {E : Nat → Value} {d : Nat} {h : gm_H} {r : gm_R × gm_H} {lv : List Value} {x : Int64} : gm_Go E d 130 36 lv [.long x] h r ↔ r = (.inl (some (.long x)), h) := gr_ret m130 f130_36 rfl rfl rfl rfl rfl rfl rfl rfl rfl
theorem f130_37 : gm_ft 130 37 = some (.iload_n 1, 1) := by decide +kernel
theorem r130_37 {E : Nat → Value} {d : Nat} {st : List Value} {h : gm_H} {r : gm_R × gm_H} {a0 : Value} {x : Int32} : gm_Go E d 130 37 [a0, .int x] st h r ↔ gm_Go E d 130 38 [a0, .int x] (.int x :: st) h r := gr_loc m130 f130_37 rfl rfl
theorem f130_38 : gm_ft 130 38 = some (.iconst 3, 1) := by decide +kernel
theorem r130_38 {E : Nat → Value} {d : Nat} {st : List Value} {h : gm_H} {r : gm_R × gm_H} {lv : List Value} : gm_Go E d 130 38 lv st h r ↔ gm_Go E d 130 39 lv (.int (3 : Int32) :: st) h r := gr_pure m130 f130_38 rfl
theorem f130_39 : gm_ft 130 39 = some (.if_icmp .ne 10, 3) := by decide +kernel
theorem r130_39 {E : Nat → Value} {d : Nat} {st : List Value} {h : gm_H} {r : gm_R × gm_H} {lv : List Value} {x y : Int32} : gm_Go E d 130 39 lv (.int y :: .int x :: st) h r ↔ (if x = y then gm_Go E d 130 42 lv st h r else gm_Go E d 130 49 lv st h r) := (gr_br m130 f130_39 rfl rfl rfl rfl).trans gr_ifn
theorem f130_42 : gm_ft 130 42 = some (.aload_n 0, 1) := by decide +kernel
theorem r130_42 {E : Nat → Value} {d : Nat} {st : List Value} {h : gm_H} {r : gm_R × gm_H} {a1 : Value} {x : Nat} : gm_Go E d 130 42 [.ref x, a1] st h r ↔ gm_Go E d 130 43 [.ref x, a1] (.ref x :: st) h r := gr_loc m130 f130_42 rfl rfl
theorem r130_42n {E : Nat → Value} {d : Nat} {st : List Value} {h : gm_H} {r : gm_R × gm_H} {a1 : Value}  : gm_Go E d 130 42 [.null, a1] st h r ↔ gm_Go E d 130 43 [.null, a1] (.null :: st) h r := gr_loc m130 f130_42 rfl rfl
theorem f130_43 : gm_ft 130 43 = some (.bipush 8, 2) := by decide +kernel
theorem r130_43 {E : Nat → Value} {d : Nat} {st : List Value} {h : gm_H} {r : gm_R × gm_H} {lv : List Value} : gm_Go E d 130 43 lv st h r ↔ gm_Go E d 130 45 lv (.int (8 : Int32) :: st) h r := gr_pure m130 f130_43 rfl
theorem f130_45 : gm_ft 130 45 = some (.invokevirtual 159, 3) := by decide +kernel
theorem n130_45 {st : List Value} {h : gm_H} {E : Nat → Value} {lv : List Value} {b0 : Value} {a : Nat} (hs : (st.map fun v => v.category).sum ≤ 8) (he : (gm_en1 [.ref a, b0]).length ≤ 5) {vs : List Value} (hr : gm_rd h a = some (5, vs)) : gm_next E 130 45 lv (b0 :: .ref a :: st) h = some (.inr (.inl (0, 107, [.ref a, b0], st))) := gn_call m130 f130_45 rfl rfl rfl rfl rfl rfl rfl (gc_virt (bs := [b0]) (w := 880) rfl rfl rfl rfl hs he hr) (by decide)
theorem f130_48 : gm_ft 130 48 = some (.lreturn, 1) := by decide +kernel
theorem r130_48 {E : Nat → Value} {d : Nat} {h : gm_H} {r : gm_R × gm_H} {lv : List Value} {x : Int64} : gm_Go E d 130 48 lv [.long x] h r ↔ r = (.inl (some (.long x)), h) := gr_ret m130 f130_48 rfl rfl rfl rfl rfl rfl rfl rfl rfl
theorem f130_49 : gm_ft 130 49 = some (.iload_n 1, 1) := by decide +kernel
theorem r130_49 {E : Nat → Value} {d : Nat} {st : List Value} {h : gm_H} {r : gm_R × gm_H} {a0 : Value} {x : Int32} : gm_Go E d 130 49 [a0, .int x] st h r ↔ gm_Go E d 130 50 [a0, .int x] (.int x :: st) h r := gr_loc m130 f130_49 rfl rfl
theorem f130_50 : gm_ft 130 50 = some (.iconst 4, 1) := by decide +kernel
theorem r130_50 {E : Nat → Value} {d : Nat} {st : List Value} {h : gm_H} {r : gm_R × gm_H} {lv : List Value} : gm_Go E d 130 50 lv st h r ↔ gm_Go E d 130 51 lv (.int (4 : Int32) :: st) h r := gr_pure m130 f130_50 rfl
theorem f130_51 : gm_ft 130 51 = some (.if_icmp .ne 12, 3) := by decide +kernel
theorem r130_51 {E : Nat → Value} {d : Nat} {st : List Value} {h : gm_H} {r : gm_R × gm_H} {lv : List Value} {x y : Int32} : gm_Go E d 130 51 lv (.int y :: .int x :: st) h r ↔ (if x = y then gm_Go E d 130 54 lv st h r else gm_Go E d 130 63 lv st h r) := (gr_br m130 f130_51 rfl rfl rfl rfl).trans gr_ifn
theorem f130_54 : gm_ft 130 54 = some (.aload_n 0, 1) := by decide +kernel
theorem r130_54 {E : Nat → Value} {d : Nat} {st : List Value} {h : gm_H} {r : gm_R × gm_H} {a1 : Value} {x : Nat} : gm_Go E d 130 54 [.ref x, a1] st h r ↔ gm_Go E d 130 55 [.ref x, a1] (.ref x :: st) h r := gr_loc m130 f130_54 rfl rfl
theorem r130_54n {E : Nat → Value} {d : Nat} {st : List Value} {h : gm_H} {r : gm_R × gm_H} {a1 : Value}  : gm_Go E d 130 54 [.null, a1] st h r ↔ gm_Go E d 130 55 [.null, a1] (.null :: st) h r := gr_loc m130 f130_54 rfl rfl
theorem f130_55 : gm_ft 130 55 = some (.iconst 2, 1) := by decide +kernel
theorem r130_55 {E : Nat → Value} {d : Nat} {st : List Value} {h : gm_H} {r : gm_R × gm_H} {lv : List Value} : gm_Go E d 130 55 lv st h r ↔ gm_Go E d 130 56 lv (.int (2 : Int32) :: st) h r := gr_pure m130 f130_55 rfl
theorem f130_56 : gm_ft 130 56 = some (.invokevirtual 159, 3) := by decide +kernel
theorem n130_56 {st : List Value} {h : gm_H} {E : Nat → Value} {lv : List Value} {b0 : Value} {a : Nat} (hs : (st.map fun v => v.category).sum ≤ 8) (he : (gm_en1 [.ref a, b0]).length ≤ 5) {vs : List Value} (hr : gm_rd h a = some (5, vs)) : gm_next E 130 56 lv (b0 :: .ref a :: st) h = some (.inr (.inl (0, 107, [.ref a, b0], st))) := gn_call m130 f130_56 rfl rfl rfl rfl rfl rfl rfl (gc_virt (bs := [b0]) (w := 880) rfl rfl rfl rfl hs he hr) (by decide)
theorem f130_59 : gm_ft 130 59 = some (.l2i, 1) := by decide +kernel
theorem r130_59 {E : Nat → Value} {d : Nat} {st : List Value} {h : gm_H} {r : gm_R × gm_H} {lv : List Value} {x : Int64} : gm_Go E d 130 59 lv (.long x :: st) h r ↔ gm_Go E d 130 60 lv (.int (x.toInt32) :: st) h r := gr_pure m130 f130_59 rfl
theorem f130_60 : gm_ft 130 60 = some (.i2s, 1) := by decide +kernel
theorem r130_60 {E : Nat → Value} {d : Nat} {st : List Value} {h : gm_H} {r : gm_R × gm_H} {lv : List Value} {x : Int32} : gm_Go E d 130 60 lv (.int x :: st) h r ↔ gm_Go E d 130 61 lv (.int (x.toInt16.toInt32) :: st) h r := gr_pure m130 f130_60 rfl
theorem f130_61 : gm_ft 130 61 = some (.i2l, 1) := by decide +kernel
theorem r130_61 {E : Nat → Value} {d : Nat} {st : List Value} {h : gm_H} {r : gm_R × gm_H} {lv : List Value} {x : Int32} : gm_Go E d 130 61 lv (.int x :: st) h r ↔ gm_Go E d 130 62 lv (.long (x.toInt64) :: st) h r := gr_pure m130 f130_61 rfl
theorem f130_62 : gm_ft 130 62 = some (.lreturn, 1) := by decide +kernel
theorem r130_62 {E : Nat → Value} {d : Nat} {h : gm_H} {r : gm_R × gm_H} {lv : List Value} {x : Int64} : gm_Go E d 130 62 lv [.long x] h r ↔ r = (.inl (some (.long x)), h) := gr_ret m130 f130_62 rfl rfl rfl rfl rfl rfl rfl rfl rfl
theorem f130_63 : gm_ft 130 63 = some (.aload_n 0, 1) := by decide +kernel
theorem r130_63 {E : Nat → Value} {d : Nat} {st : List Value} {h : gm_H} {r : gm_R × gm_H} {a1 : Value} {x : Nat} : gm_Go E d 130 63 [.ref x, a1] st h r ↔ gm_Go E d 130 64 [.ref x, a1] (.ref x :: st) h r := gr_loc m130 f130_63 rfl rfl
theorem r130_63n {E : Nat → Value} {d : Nat} {st : List Value} {h : gm_H} {r : gm_R × gm_H} {a1 : Value}  : gm_Go E d 130 63 [.null, a1] st h r ↔ gm_Go E d 130 64 [.null, a1] (.null :: st) h r := gr_loc m130 f130_63 rfl rfl
theorem f130_64 : gm_ft 130 64 = some (.iconst 1, 1) := by decide +kernel
theorem r130_64 {E : Nat → Value} {d : Nat} {st : List Value} {h : gm_H} {r : gm_R × gm_H} {lv : List Value} : gm_Go E d 130 64 lv st h r ↔ gm_Go E d 130 65 lv (.int (1 : Int32) :: st) h r := gr_pure m130 f130_64 rfl
theorem f130_65 : gm_ft 130 65 = some (.invokevirtual 159, 3) := by decide +kernel
theorem n130_65 {st : List Value} {h : gm_H} {E : Nat → Value} {lv : List Value} {b0 : Value} {a : Nat} (hs : (st.map fun v => v.category).sum ≤ 8) (he : (gm_en1 [.ref a, b0]).length ≤ 5) {vs : List Value} (hr : gm_rd h a = some (5, vs)) : gm_next E 130 65 lv (b0 :: .ref a :: st) h = some (.inr (.inl (0, 107, [.ref a, b0], st))) := gn_call m130 f130_65 rfl rfl rfl rfl rfl rfl rfl (gc_virt (bs := [b0]) (w := 880) rfl rfl rfl rfl hs he hr) (by decide)
theorem f130_68 : gm_ft 130 68 = some (.lconst 0, 1) := by decide +kernel
theorem r130_68 {E : Nat → Value} {d : Nat} {st : List Value} {h : gm_H} {r : gm_R × gm_H} {lv : List Value} : gm_Go E d 130 68 lv st h r ↔ gm_Go E d 130 69 lv (.long 0 :: st) h r := gr_pure m130 f130_68 rfl
theorem f130_69 : gm_ft 130 69 = some (.lcmp, 1) := by decide +kernel
theorem r130_69 {E : Nat → Value} {d : Nat} {st : List Value} {h : gm_H} {r : gm_R × gm_H} {lv : List Value} {x y : Int64} : gm_Go E d 130 69 lv (.long y :: .long x :: st) h r ↔ gm_Go E d 130 70 lv (.int (lg_cmp x y) :: st) h r := gr_pure m130 f130_69 rfl
theorem f130_70 : gm_ft 130 70 = some (.ifCond .eq 7, 3) := by decide +kernel
theorem r130_70 {E : Nat → Value} {d : Nat} {st : List Value} {h : gm_H} {r : gm_R × gm_H} {lv : List Value} {x : Int32} : gm_Go E d 130 70 lv (.int x :: st) h r ↔ (if x = 0 then gm_Go E d 130 77 lv st h r else gm_Go E d 130 73 lv st h r) := (gr_br m130 f130_70 rfl rfl rfl rfl).trans gr_if
theorem f130_73 : gm_ft 130 73 = some (.lconst 1, 1) := by decide +kernel
theorem r130_73 {E : Nat → Value} {d : Nat} {st : List Value} {h : gm_H} {r : gm_R × gm_H} {lv : List Value} : gm_Go E d 130 73 lv st h r ↔ gm_Go E d 130 74 lv (.long 1 :: st) h r := gr_pure m130 f130_73 rfl
theorem f130_74 : gm_ft 130 74 = some (.goto 4, 3) := by decide +kernel
theorem r130_74 {E : Nat → Value} {d : Nat} {st : List Value} {h : gm_H} {r : gm_R × gm_H} {lv : List Value} : gm_Go E d 130 74 lv st h r ↔ gm_Go E d 130 78 lv st h r := gr_brT m130 f130_74 rfl rfl rfl rfl
theorem f130_77 : gm_ft 130 77 = some (.lconst 0, 1) := by decide +kernel
theorem r130_77 {E : Nat → Value} {d : Nat} {st : List Value} {h : gm_H} {r : gm_R × gm_H} {lv : List Value} : gm_Go E d 130 77 lv st h r ↔ gm_Go E d 130 78 lv (.long 0 :: st) h r := gr_pure m130 f130_77 rfl
theorem f130_78 : gm_ft 130 78 = some (.lreturn, 1) := by decide +kernel
theorem r130_78 {E : Nat → Value} {d : Nat} {h : gm_H} {r : gm_R × gm_H} {lv : List Value} {x : Int64} : gm_Go E d 130 78 lv [.long x] h r ↔ r = (.inl (some (.long x)), h) := gr_ret m130 f130_78 rfl rfl rfl rfl rfl rfl rfl rfl rfl
/-! GraphReaderModel.extra(II)V -/
theorem m131 : gm_mt[131]? = some (⟨"GraphReaderModel", "extra", "(II)V"⟩, prog_7_method_41_code, 6, none, [], 5, 2) := rfl
theorem f131_0 : gm_ft 131 0 = some (.aload_n 0, 1) := by decide +kernel
theorem r131_0 {E : Nat → Value} {d : Nat} {st : List Value} {h : gm_H} {r : gm_R × gm_H} {a1 a2 a3 a4 a5 : Value} {x : Nat} : gm_Go E d 131 0 [.ref x, a1, a2, a3, a4, a5] st h r ↔ gm_Go E d 131 1 [.ref x, a1, a2, a3, a4, a5] (.ref x :: st) h r := gr_loc m131 f131_0 rfl rfl
theorem r131_0n {E : Nat → Value} {d : Nat} {st : List Value} {h : gm_H} {r : gm_R × gm_H} {a1 a2 a3 a4 a5 : Value}  : gm_Go E d 131 0 [.null, a1, a2, a3, a4, a5] st h r ↔ gm_Go E d 131 1 [.null, a1, a2, a3, a4, a5] (.null :: st) h r := gr_loc m131 f131_0 rfl rfl
theorem f131_1 : gm_ft 131 1 = some (.getfield 69, 3) := by decide +kernel
theorem r131_1 {E : Nat → Value} {d : Nat} {st : List Value} {h : gm_H} {r : gm_R × gm_H} {lv : List Value} {a : Nat} {vs : List Value} {v : Value} (hr : gm_rd h a = some (5, vs)) (hv : vs[31]? = some v) : gm_Go E d 131 1 lv (.ref a :: st) h r ↔ gm_Go E d 131 4 lv (v :: st) h r := gr_rd m131 f131_1 rfl rfl rfl rfl (gf_get k5_69 hr hv)
theorem f131_4 : gm_ft 131 4 = some (.iload_n 2, 1) := by decide +kernel
theorem r131_4 {E : Nat → Value} {d : Nat} {st : List Value} {h : gm_H} {r : gm_R × gm_H} {a0 a1 a3 a4 a5 : Value} {x : Int32} : gm_Go E d 131 4 [a0, a1, .int x, a3, a4, a5] st h r ↔ gm_Go E d 131 5 [a0, a1, .int x, a3, a4, a5] (.int x :: st) h r := gr_loc m131 f131_4 rfl rfl
theorem f131_5 : gm_ft 131 5 = some (.iaload, 1) := by decide +kernel
theorem r131_5 {E : Nat → Value} {d : Nat} {st : List Value} {h : gm_H} {r : gm_R × gm_H} {lv : List Value} {a k j : Nat} {vs : List Value} {v : Value} (hr : gm_rd h a = some (k, vs)) (hk : 100 ≤ k ∧ (fun t => t == 0) (k % 100) = true) (hj : j < 2 ^ 31) (hv : vs[j]? = some v) : gm_Go E d 131 5 lv (.int (nI j) :: .ref a :: st) h r ↔ gm_Go E d 131 6 lv (v :: st) h r := gr_rd m131 f131_5 rfl rfl rfl rfl (ga_ld (P := fun t => t == 0) hr hk hj hv)
theorem f131_6 : gm_ft 131 6 = some (.istore_n 3, 1) := by decide +kernel
theorem r131_6 {E : Nat → Value} {d : Nat} {st : List Value} {h : gm_H} {r : gm_R × gm_H} {a0 a1 a2 a3 a4 a5 : Value} {x : Int32} : gm_Go E d 131 6 [a0, a1, a2, a3, a4, a5] (.int x :: st) h r ↔ gm_Go E d 131 7 [a0, a1, gm_k a2, .int x, a4, a5] st h r := gr_loc m131 f131_6 rfl rfl
theorem f131_7 : gm_ft 131 7 = some (.iload_n 3, 1) := by decide +kernel
theorem r131_7 {E : Nat → Value} {d : Nat} {st : List Value} {h : gm_H} {r : gm_R × gm_H} {a0 a1 a2 a4 a5 : Value} {x : Int32} : gm_Go E d 131 7 [a0, a1, a2, .int x, a4, a5] st h r ↔ gm_Go E d 131 8 [a0, a1, a2, .int x, a4, a5] (.int x :: st) h r := gr_loc m131 f131_7 rfl rfl
theorem f131_8 : gm_ft 131 8 = some (.ifCond .lt 41, 3) := by decide +kernel
theorem r131_8 {E : Nat → Value} {d : Nat} {st : List Value} {h : gm_H} {r : gm_R × gm_H} {lv : List Value} {x : Int32} : gm_Go E d 131 8 lv (.int x :: st) h r ↔ (if x < 0 then gm_Go E d 131 49 lv st h r else gm_Go E d 131 11 lv st h r) := (gr_br m131 f131_8 rfl rfl rfl rfl).trans gr_if
theorem f131_11 : gm_ft 131 11 = some (.aload_n 0, 1) := by decide +kernel
theorem r131_11 {E : Nat → Value} {d : Nat} {st : List Value} {h : gm_H} {r : gm_R × gm_H} {a1 a2 a3 a4 a5 : Value} {x : Nat} : gm_Go E d 131 11 [.ref x, a1, a2, a3, a4, a5] st h r ↔ gm_Go E d 131 12 [.ref x, a1, a2, a3, a4, a5] (.ref x :: st) h r := gr_loc m131 f131_11 rfl rfl
theorem r131_11n {E : Nat → Value} {d : Nat} {st : List Value} {h : gm_H} {r : gm_R × gm_H} {a1 a2 a3 a4 a5 : Value}  : gm_Go E d 131 11 [.null, a1, a2, a3, a4, a5] st h r ↔ gm_Go E d 131 12 [.null, a1, a2, a3, a4, a5] (.null :: st) h r := gr_loc m131 f131_11 rfl rfl
theorem f131_12 : gm_ft 131 12 = some (.getfield 13, 3) := by decide +kernel
theorem r131_12 {E : Nat → Value} {d : Nat} {st : List Value} {h : gm_H} {r : gm_R × gm_H} {lv : List Value} {a : Nat} {vs : List Value} {v : Value} (hr : gm_rd h a = some (5, vs)) (hv : vs[10]? = some v) : gm_Go E d 131 12 lv (.ref a :: st) h r ↔ gm_Go E d 131 15 lv (v :: st) h r := gr_rd m131 f131_12 rfl rfl rfl rfl (gf_get k5_13 hr hv)
theorem f131_15 : gm_ft 131 15 = some (.iload_n 3, 1) := by decide +kernel
theorem r131_15 {E : Nat → Value} {d : Nat} {st : List Value} {h : gm_H} {r : gm_R × gm_H} {a0 a1 a2 a4 a5 : Value} {x : Int32} : gm_Go E d 131 15 [a0, a1, a2, .int x, a4, a5] st h r ↔ gm_Go E d 131 16 [a0, a1, a2, .int x, a4, a5] (.int x :: st) h r := gr_loc m131 f131_15 rfl rfl
theorem f131_16 : gm_ft 131 16 = some (.iaload, 1) := by decide +kernel
theorem r131_16 {E : Nat → Value} {d : Nat} {st : List Value} {h : gm_H} {r : gm_R × gm_H} {lv : List Value} {a k j : Nat} {vs : List Value} {v : Value} (hr : gm_rd h a = some (k, vs)) (hk : 100 ≤ k ∧ (fun t => t == 0) (k % 100) = true) (hj : j < 2 ^ 31) (hv : vs[j]? = some v) : gm_Go E d 131 16 lv (.int (nI j) :: .ref a :: st) h r ↔ gm_Go E d 131 17 lv (v :: st) h r := gr_rd m131 f131_16 rfl rfl rfl rfl (ga_ld (P := fun t => t == 0) hr hk hj hv)
theorem f131_17 : gm_ft 131 17 = some (.iconst 2, 1) := by decide +kernel
theorem r131_17 {E : Nat → Value} {d : Nat} {st : List Value} {h : gm_H} {r : gm_R × gm_H} {lv : List Value} : gm_Go E d 131 17 lv st h r ↔ gm_Go E d 131 18 lv (.int (2 : Int32) :: st) h r := gr_pure m131 f131_17 rfl
theorem f131_18 : gm_ft 131 18 = some (.if_icmp .ne 31, 3) := by decide +kernel
theorem r131_18 {E : Nat → Value} {d : Nat} {st : List Value} {h : gm_H} {r : gm_R × gm_H} {lv : List Value} {x y : Int32} : gm_Go E d 131 18 lv (.int y :: .int x :: st) h r ↔ (if x = y then gm_Go E d 131 21 lv st h r else gm_Go E d 131 49 lv st h r) := (gr_br m131 f131_18 rfl rfl rfl rfl).trans gr_ifn
theorem f131_21 : gm_ft 131 21 = some (.aload_n 0, 1) := by decide +kernel
theorem r131_21 {E : Nat → Value} {d : Nat} {st : List Value} {h : gm_H} {r : gm_R × gm_H} {a1 a2 a3 a4 a5 : Value} {x : Nat} : gm_Go E d 131 21 [.ref x, a1, a2, a3, a4, a5] st h r ↔ gm_Go E d 131 22 [.ref x, a1, a2, a3, a4, a5] (.ref x :: st) h r := gr_loc m131 f131_21 rfl rfl
theorem r131_21n {E : Nat → Value} {d : Nat} {st : List Value} {h : gm_H} {r : gm_R × gm_H} {a1 a2 a3 a4 a5 : Value}  : gm_Go E d 131 21 [.null, a1, a2, a3, a4, a5] st h r ↔ gm_Go E d 131 22 [.null, a1, a2, a3, a4, a5] (.null :: st) h r := gr_loc m131 f131_21 rfl rfl
theorem f131_22 : gm_ft 131 22 = some (.iload_n 3, 1) := by decide +kernel
theorem r131_22 {E : Nat → Value} {d : Nat} {st : List Value} {h : gm_H} {r : gm_R × gm_H} {a0 a1 a2 a4 a5 : Value} {x : Int32} : gm_Go E d 131 22 [a0, a1, a2, .int x, a4, a5] st h r ↔ gm_Go E d 131 23 [a0, a1, a2, .int x, a4, a5] (.int x :: st) h r := gr_loc m131 f131_22 rfl rfl
theorem f131_23 : gm_ft 131 23 = some (.aload_n 0, 1) := by decide +kernel
theorem r131_23 {E : Nat → Value} {d : Nat} {st : List Value} {h : gm_H} {r : gm_R × gm_H} {a1 a2 a3 a4 a5 : Value} {x : Nat} : gm_Go E d 131 23 [.ref x, a1, a2, a3, a4, a5] st h r ↔ gm_Go E d 131 24 [.ref x, a1, a2, a3, a4, a5] (.ref x :: st) h r := gr_loc m131 f131_23 rfl rfl
theorem r131_23n {E : Nat → Value} {d : Nat} {st : List Value} {h : gm_H} {r : gm_R × gm_H} {a1 a2 a3 a4 a5 : Value}  : gm_Go E d 131 23 [.null, a1, a2, a3, a4, a5] st h r ↔ gm_Go E d 131 24 [.null, a1, a2, a3, a4, a5] (.null :: st) h r := gr_loc m131 f131_23 rfl rfl
theorem f131_24 : gm_ft 131 24 = some (.getfield 42, 3) := by decide +kernel
theorem r131_24 {E : Nat → Value} {d : Nat} {st : List Value} {h : gm_H} {r : gm_R × gm_H} {lv : List Value} {a : Nat} {vs : List Value} {v : Value} (hr : gm_rd h a = some (5, vs)) (hv : vs[19]? = some v) : gm_Go E d 131 24 lv (.ref a :: st) h r ↔ gm_Go E d 131 27 lv (v :: st) h r := gr_rd m131 f131_24 rfl rfl rfl rfl (gf_get k5_42 hr hv)
theorem f131_27 : gm_ft 131 27 = some (.iload_n 1, 1) := by decide +kernel
theorem r131_27 {E : Nat → Value} {d : Nat} {st : List Value} {h : gm_H} {r : gm_R × gm_H} {a0 a2 a3 a4 a5 : Value} {x : Int32} : gm_Go E d 131 27 [a0, .int x, a2, a3, a4, a5] st h r ↔ gm_Go E d 131 28 [a0, .int x, a2, a3, a4, a5] (.int x :: st) h r := gr_loc m131 f131_27 rfl rfl
theorem f131_28 : gm_ft 131 28 = some (.iaload, 1) := by decide +kernel
theorem r131_28 {E : Nat → Value} {d : Nat} {st : List Value} {h : gm_H} {r : gm_R × gm_H} {lv : List Value} {a k j : Nat} {vs : List Value} {v : Value} (hr : gm_rd h a = some (k, vs)) (hk : 100 ≤ k ∧ (fun t => t == 0) (k % 100) = true) (hj : j < 2 ^ 31) (hv : vs[j]? = some v) : gm_Go E d 131 28 lv (.int (nI j) :: .ref a :: st) h r ↔ gm_Go E d 131 29 lv (v :: st) h r := gr_rd m131 f131_28 rfl rfl rfl rfl (ga_ld (P := fun t => t == 0) hr hk hj hv)
theorem f131_29 : gm_ft 131 29 = some (.invokevirtual 260, 3) := by decide +kernel
theorem n131_29 {st : List Value} {h : gm_H} {E : Nat → Value} {lv : List Value} {b0 b1 : Value} {a : Nat} (hs : (st.map fun v => v.category).sum ≤ 8) (he : (gm_en1 [.ref a, b0, b1]).length ≤ 5) {vs : List Value} (hr : gm_rd h a = some (5, vs)) : gm_next E 131 29 lv (b1 :: b0 :: .ref a :: st) h = some (.inr (.inl (0, 129, [.ref a, b0, b1], st))) := gn_call m131 f131_29 rfl rfl rfl rfl rfl rfl rfl (gc_virt (bs := [b1, b0]) (w := 973) rfl rfl rfl rfl hs he hr) (by decide)
theorem f131_32 : gm_ft 131 32 = some (.ifCond .eq 17, 3) := by decide +kernel
theorem r131_32 {E : Nat → Value} {d : Nat} {st : List Value} {h : gm_H} {r : gm_R × gm_H} {lv : List Value} {x : Int32} : gm_Go E d 131 32 lv (.int x :: st) h r ↔ (if x = 0 then gm_Go E d 131 49 lv st h r else gm_Go E d 131 35 lv st h r) := (gr_br m131 f131_32 rfl rfl rfl rfl).trans gr_if
theorem f131_35 : gm_ft 131 35 = some (.aload_n 0, 1) := by decide +kernel
theorem r131_35 {E : Nat → Value} {d : Nat} {st : List Value} {h : gm_H} {r : gm_R × gm_H} {a1 a2 a3 a4 a5 : Value} {x : Nat} : gm_Go E d 131 35 [.ref x, a1, a2, a3, a4, a5] st h r ↔ gm_Go E d 131 36 [.ref x, a1, a2, a3, a4, a5] (.ref x :: st) h r := gr_loc m131 f131_35 rfl rfl
theorem r131_35n {E : Nat → Value} {d : Nat} {st : List Value} {h : gm_H} {r : gm_R × gm_H} {a1 a2 a3 a4 a5 : Value}  : gm_Go E d 131 35 [.null, a1, a2, a3, a4, a5] st h r ↔ gm_Go E d 131 36 [.null, a1, a2, a3, a4, a5] (.null :: st) h r := gr_loc m131 f131_35 rfl rfl
theorem f131_36 : gm_ft 131 36 = some (.getfield 148, 3) := by decide +kernel
theorem r131_36 {E : Nat → Value} {d : Nat} {st : List Value} {h : gm_H} {r : gm_R × gm_H} {lv : List Value} {a : Nat} {vs : List Value} {v : Value} (hr : gm_rd h a = some (5, vs)) (hv : vs[6]? = some v) : gm_Go E d 131 36 lv (.ref a :: st) h r ↔ gm_Go E d 131 39 lv (v :: st) h r := gr_rd m131 f131_36 rfl rfl rfl rfl (gf_get k5_148 hr hv)
theorem f131_39 : gm_ft 131 39 = some (.bipush 6, 2) := by decide +kernel
theorem r131_39 {E : Nat → Value} {d : Nat} {st : List Value} {h : gm_H} {r : gm_R × gm_H} {lv : List Value} : gm_Go E d 131 39 lv st h r ↔ gm_Go E d 131 41 lv (.int (6 : Int32) :: st) h r := gr_pure m131 f131_39 rfl
theorem f131_41 : gm_ft 131 41 = some (.iadd, 1) := by decide +kernel
theorem r131_41 {E : Nat → Value} {d : Nat} {st : List Value} {h : gm_H} {r : gm_R × gm_H} {lv : List Value} {x y : Int32} : gm_Go E d 131 41 lv (.int y :: .int x :: st) h r ↔ gm_Go E d 131 42 lv (.int (x + y) :: st) h r := gr_pure m131 f131_41 rfl
theorem f131_42 : gm_ft 131 42 = some (.aload_n 0, 1) := by decide +kernel
theorem r131_42 {E : Nat → Value} {d : Nat} {st : List Value} {h : gm_H} {r : gm_R × gm_H} {a1 a2 a3 a4 a5 : Value} {x : Nat} : gm_Go E d 131 42 [.ref x, a1, a2, a3, a4, a5] st h r ↔ gm_Go E d 131 43 [.ref x, a1, a2, a3, a4, a5] (.ref x :: st) h r := gr_loc m131 f131_42 rfl rfl
theorem r131_42n {E : Nat → Value} {d : Nat} {st : List Value} {h : gm_H} {r : gm_R × gm_H} {a1 a2 a3 a4 a5 : Value}  : gm_Go E d 131 42 [.null, a1, a2, a3, a4, a5] st h r ↔ gm_Go E d 131 43 [.null, a1, a2, a3, a4, a5] (.null :: st) h r := gr_loc m131 f131_42 rfl rfl
theorem f131_43 : gm_ft 131 43 = some (.getfield 142, 3) := by decide +kernel
theorem r131_43 {E : Nat → Value} {d : Nat} {st : List Value} {h : gm_H} {r : gm_R × gm_H} {lv : List Value} {a : Nat} {vs : List Value} {v : Value} (hr : gm_rd h a = some (5, vs)) (hv : vs[5]? = some v) : gm_Go E d 131 43 lv (.ref a :: st) h r ↔ gm_Go E d 131 46 lv (v :: st) h r := gr_rd m131 f131_43 rfl rfl rfl rfl (gf_get k5_142 hr hv)
theorem f131_46 : gm_ft 131 46 = some (.if_icmp .le 4, 3) := by decide +kernel
theorem r131_46 {E : Nat → Value} {d : Nat} {st : List Value} {h : gm_H} {r : gm_R × gm_H} {lv : List Value} {x y : Int32} : gm_Go E d 131 46 lv (.int y :: .int x :: st) h r ↔ (if x ≤ y then gm_Go E d 131 50 lv st h r else gm_Go E d 131 49 lv st h r) := (gr_br m131 f131_46 rfl rfl rfl rfl).trans gr_if
theorem f131_49 : gm_ft 131 49 = some (.return_, 1) := by decide +kernel
theorem r131_49 {E : Nat → Value} {d : Nat} {h : gm_H} {r : gm_R × gm_H} {lv : List Value} : gm_Go E d 131 49 lv [] h r ↔ r = (.inl none, h) := gr_ret m131 f131_49 rfl rfl rfl rfl rfl rfl rfl rfl rfl
theorem f131_50 : gm_ft 131 50 = some (.aload_n 0, 1) := by decide +kernel
theorem r131_50 {E : Nat → Value} {d : Nat} {st : List Value} {h : gm_H} {r : gm_R × gm_H} {a1 a2 a3 a4 a5 : Value} {x : Nat} : gm_Go E d 131 50 [.ref x, a1, a2, a3, a4, a5] st h r ↔ gm_Go E d 131 51 [.ref x, a1, a2, a3, a4, a5] (.ref x :: st) h r := gr_loc m131 f131_50 rfl rfl
theorem r131_50n {E : Nat → Value} {d : Nat} {st : List Value} {h : gm_H} {r : gm_R × gm_H} {a1 a2 a3 a4 a5 : Value}  : gm_Go E d 131 50 [.null, a1, a2, a3, a4, a5] st h r ↔ gm_Go E d 131 51 [.null, a1, a2, a3, a4, a5] (.null :: st) h r := gr_loc m131 f131_50 rfl rfl
theorem f131_51 : gm_ft 131 51 = some (.getfield 7, 3) := by decide +kernel
theorem r131_51 {E : Nat → Value} {d : Nat} {st : List Value} {h : gm_H} {r : gm_R × gm_H} {lv : List Value} {a : Nat} {vs : List Value} {v : Value} (hr : gm_rd h a = some (5, vs)) (hv : vs[4]? = some v) : gm_Go E d 131 51 lv (.ref a :: st) h r ↔ gm_Go E d 131 54 lv (v :: st) h r := gr_rd m131 f131_51 rfl rfl rfl rfl (gf_get k5_7 hr hv)
theorem f131_54 : gm_ft 131 54 = some (.aload_n 0, 1) := by decide +kernel
theorem r131_54 {E : Nat → Value} {d : Nat} {st : List Value} {h : gm_H} {r : gm_R × gm_H} {a1 a2 a3 a4 a5 : Value} {x : Nat} : gm_Go E d 131 54 [.ref x, a1, a2, a3, a4, a5] st h r ↔ gm_Go E d 131 55 [.ref x, a1, a2, a3, a4, a5] (.ref x :: st) h r := gr_loc m131 f131_54 rfl rfl
theorem r131_54n {E : Nat → Value} {d : Nat} {st : List Value} {h : gm_H} {r : gm_R × gm_H} {a1 a2 a3 a4 a5 : Value}  : gm_Go E d 131 54 [.null, a1, a2, a3, a4, a5] st h r ↔ gm_Go E d 131 55 [.null, a1, a2, a3, a4, a5] (.null :: st) h r := gr_loc m131 f131_54 rfl rfl
theorem f131_55 : gm_ft 131 55 = some (.getfield 148, 3) := by decide +kernel
theorem r131_55 {E : Nat → Value} {d : Nat} {st : List Value} {h : gm_H} {r : gm_R × gm_H} {lv : List Value} {a : Nat} {vs : List Value} {v : Value} (hr : gm_rd h a = some (5, vs)) (hv : vs[6]? = some v) : gm_Go E d 131 55 lv (.ref a :: st) h r ↔ gm_Go E d 131 58 lv (v :: st) h r := gr_rd m131 f131_55 rfl rfl rfl rfl (gf_get k5_148 hr hv)
theorem f131_58 : gm_ft 131 58 = some (.iaload, 1) := by decide +kernel
theorem r131_58 {E : Nat → Value} {d : Nat} {st : List Value} {h : gm_H} {r : gm_R × gm_H} {lv : List Value} {a k j : Nat} {vs : List Value} {v : Value} (hr : gm_rd h a = some (k, vs)) (hk : 100 ≤ k ∧ (fun t => t == 0) (k % 100) = true) (hj : j < 2 ^ 31) (hv : vs[j]? = some v) : gm_Go E d 131 58 lv (.int (nI j) :: .ref a :: st) h r ↔ gm_Go E d 131 59 lv (v :: st) h r := gr_rd m131 f131_58 rfl rfl rfl rfl (ga_ld (P := fun t => t == 0) hr hk hj hv)
theorem f131_59 : gm_ft 131 59 = some (.bipush 119, 2) := by decide +kernel
theorem r131_59 {E : Nat → Value} {d : Nat} {st : List Value} {h : gm_H} {r : gm_R × gm_H} {lv : List Value} : gm_Go E d 131 59 lv st h r ↔ gm_Go E d 131 61 lv (.int (119 : Int32) :: st) h r := gr_pure m131 f131_59 rfl
theorem f131_61 : gm_ft 131 61 = some (.if_icmp .ne 18, 3) := by decide +kernel
theorem r131_61 {E : Nat → Value} {d : Nat} {st : List Value} {h : gm_H} {r : gm_R × gm_H} {lv : List Value} {x y : Int32} : gm_Go E d 131 61 lv (.int y :: .int x :: st) h r ↔ (if x = y then gm_Go E d 131 64 lv st h r else gm_Go E d 131 79 lv st h r) := (gr_br m131 f131_61 rfl rfl rfl rfl).trans gr_ifn
theorem f131_64 : gm_ft 131 64 = some (.aload_n 0, 1) := by decide +kernel
theorem r131_64 {E : Nat → Value} {d : Nat} {st : List Value} {h : gm_H} {r : gm_R × gm_H} {a1 a2 a3 a4 a5 : Value} {x : Nat} : gm_Go E d 131 64 [.ref x, a1, a2, a3, a4, a5] st h r ↔ gm_Go E d 131 65 [.ref x, a1, a2, a3, a4, a5] (.ref x :: st) h r := gr_loc m131 f131_64 rfl rfl
theorem r131_64n {E : Nat → Value} {d : Nat} {st : List Value} {h : gm_H} {r : gm_R × gm_H} {a1 a2 a3 a4 a5 : Value}  : gm_Go E d 131 64 [.null, a1, a2, a3, a4, a5] st h r ↔ gm_Go E d 131 65 [.null, a1, a2, a3, a4, a5] (.null :: st) h r := gr_loc m131 f131_64 rfl rfl
theorem f131_65 : gm_ft 131 65 = some (.getfield 7, 3) := by decide +kernel
theorem r131_65 {E : Nat → Value} {d : Nat} {st : List Value} {h : gm_H} {r : gm_R × gm_H} {lv : List Value} {a : Nat} {vs : List Value} {v : Value} (hr : gm_rd h a = some (5, vs)) (hv : vs[4]? = some v) : gm_Go E d 131 65 lv (.ref a :: st) h r ↔ gm_Go E d 131 68 lv (v :: st) h r := gr_rd m131 f131_65 rfl rfl rfl rfl (gf_get k5_7 hr hv)
theorem f131_68 : gm_ft 131 68 = some (.aload_n 0, 1) := by decide +kernel
theorem r131_68 {E : Nat → Value} {d : Nat} {st : List Value} {h : gm_H} {r : gm_R × gm_H} {a1 a2 a3 a4 a5 : Value} {x : Nat} : gm_Go E d 131 68 [.ref x, a1, a2, a3, a4, a5] st h r ↔ gm_Go E d 131 69 [.ref x, a1, a2, a3, a4, a5] (.ref x :: st) h r := gr_loc m131 f131_68 rfl rfl
theorem r131_68n {E : Nat → Value} {d : Nat} {st : List Value} {h : gm_H} {r : gm_R × gm_H} {a1 a2 a3 a4 a5 : Value}  : gm_Go E d 131 68 [.null, a1, a2, a3, a4, a5] st h r ↔ gm_Go E d 131 69 [.null, a1, a2, a3, a4, a5] (.null :: st) h r := gr_loc m131 f131_68 rfl rfl
theorem f131_69 : gm_ft 131 69 = some (.getfield 148, 3) := by decide +kernel
theorem r131_69 {E : Nat → Value} {d : Nat} {st : List Value} {h : gm_H} {r : gm_R × gm_H} {lv : List Value} {a : Nat} {vs : List Value} {v : Value} (hr : gm_rd h a = some (5, vs)) (hv : vs[6]? = some v) : gm_Go E d 131 69 lv (.ref a :: st) h r ↔ gm_Go E d 131 72 lv (v :: st) h r := gr_rd m131 f131_69 rfl rfl rfl rfl (gf_get k5_148 hr hv)
theorem f131_72 : gm_ft 131 72 = some (.iconst 1, 1) := by decide +kernel
theorem r131_72 {E : Nat → Value} {d : Nat} {st : List Value} {h : gm_H} {r : gm_R × gm_H} {lv : List Value} : gm_Go E d 131 72 lv st h r ↔ gm_Go E d 131 73 lv (.int (1 : Int32) :: st) h r := gr_pure m131 f131_72 rfl
theorem f131_73 : gm_ft 131 73 = some (.iadd, 1) := by decide +kernel
theorem r131_73 {E : Nat → Value} {d : Nat} {st : List Value} {h : gm_H} {r : gm_R × gm_H} {lv : List Value} {x y : Int32} : gm_Go E d 131 73 lv (.int y :: .int x :: st) h r ↔ gm_Go E d 131 74 lv (.int (x + y) :: st) h r := gr_pure m131 f131_73 rfl
theorem f131_74 : gm_ft 131 74 = some (.iaload, 1) := by decide +kernel
theorem r131_74 {E : Nat → Value} {d : Nat} {st : List Value} {h : gm_H} {r : gm_R × gm_H} {lv : List Value} {a k j : Nat} {vs : List Value} {v : Value} (hr : gm_rd h a = some (k, vs)) (hk : 100 ≤ k ∧ (fun t => t == 0) (k % 100) = true) (hj : j < 2 ^ 31) (hv : vs[j]? = some v) : gm_Go E d 131 74 lv (.int (nI j) :: .ref a :: st) h r ↔ gm_Go E d 131 75 lv (v :: st) h r := gr_rd m131 f131_74 rfl rfl rfl rfl (ga_ld (P := fun t => t == 0) hr hk hj hv)
theorem f131_75 : gm_ft 131 75 = some (.iconst 4, 1) := by decide +kernel
theorem r131_75 {E : Nat → Value} {d : Nat} {st : List Value} {h : gm_H} {r : gm_R × gm_H} {lv : List Value} : gm_Go E d 131 75 lv st h r ↔ gm_Go E d 131 76 lv (.int (4 : Int32) :: st) h r := gr_pure m131 f131_75 rfl
theorem f131_76 : gm_ft 131 76 = some (.if_icmp .ge 4, 3) := by decide +kernel
theorem r131_76 {E : Nat → Value} {d : Nat} {st : List Value} {h : gm_H} {r : gm_R × gm_H} {lv : List Value} {x y : Int32} : gm_Go E d 131 76 lv (.int y :: .int x :: st) h r ↔ (if y ≤ x then gm_Go E d 131 80 lv st h r else gm_Go E d 131 79 lv st h r) := (gr_br m131 f131_76 rfl rfl rfl rfl).trans gr_if
theorem f131_79 : gm_ft 131 79 = some (.return_, 1) := by decide +kernel
theorem r131_79 {E : Nat → Value} {d : Nat} {h : gm_H} {r : gm_R × gm_H} {lv : List Value} : gm_Go E d 131 79 lv [] h r ↔ r = (.inl none, h) := gr_ret m131 f131_79 rfl rfl rfl rfl rfl rfl rfl rfl rfl
theorem f131_80 : gm_ft 131 80 = some (.iconst 0, 1) := by decide +kernel
theorem r131_80 {E : Nat → Value} {d : Nat} {st : List Value} {h : gm_H} {r : gm_R × gm_H} {lv : List Value} : gm_Go E d 131 80 lv st h r ↔ gm_Go E d 131 81 lv (.int (0 : Int32) :: st) h r := gr_pure m131 f131_80 rfl
theorem f131_81 : gm_ft 131 81 = some (.istore 4, 2) := by decide +kernel
theorem r131_81 {E : Nat → Value} {d : Nat} {st : List Value} {h : gm_H} {r : gm_R × gm_H} {a0 a1 a2 a3 a4 a5 : Value} {x : Int32} : gm_Go E d 131 81 [a0, a1, a2, a3, a4, a5] (.int x :: st) h r ↔ gm_Go E d 131 83 [a0, a1, a2, gm_k a3, .int x, a5] st h r := gr_loc m131 f131_81 rfl rfl
theorem f131_83 : gm_ft 131 83 = some (.iconst 2, 1) := by decide +kernel
theorem r131_83 {E : Nat → Value} {d : Nat} {st : List Value} {h : gm_H} {r : gm_R × gm_H} {lv : List Value} : gm_Go E d 131 83 lv st h r ↔ gm_Go E d 131 84 lv (.int (2 : Int32) :: st) h r := gr_pure m131 f131_83 rfl
theorem f131_84 : gm_ft 131 84 = some (.istore 5, 2) := by decide +kernel
theorem r131_84 {E : Nat → Value} {d : Nat} {st : List Value} {h : gm_H} {r : gm_R × gm_H} {a0 a1 a2 a3 a4 a5 : Value} {x : Int32} : gm_Go E d 131 84 [a0, a1, a2, a3, a4, a5] (.int x :: st) h r ↔ gm_Go E d 131 86 [a0, a1, a2, a3, gm_k a4, .int x] st h r := gr_loc m131 f131_84 rfl rfl
theorem f131_86 : gm_ft 131 86 = some (.iload 5, 2) := by decide +kernel
theorem r131_86 {E : Nat → Value} {d : Nat} {st : List Value} {h : gm_H} {r : gm_R × gm_H} {a0 a1 a2 a3 a4 : Value} {x : Int32} : gm_Go E d 131 86 [a0, a1, a2, a3, a4, .int x] st h r ↔ gm_Go E d 131 88 [a0, a1, a2, a3, a4, .int x] (.int x :: st) h r := gr_loc m131 f131_86 rfl rfl
theorem f131_88 : gm_ft 131 88 = some (.bipush 6, 2) := by decide +kernel
theorem r131_88 {E : Nat → Value} {d : Nat} {st : List Value} {h : gm_H} {r : gm_R × gm_H} {lv : List Value} : gm_Go E d 131 88 lv st h r ↔ gm_Go E d 131 90 lv (.int (6 : Int32) :: st) h r := gr_pure m131 f131_88 rfl
theorem f131_90 : gm_ft 131 90 = some (.if_icmp .ge 29, 3) := by decide +kernel
theorem r131_90 {E : Nat → Value} {d : Nat} {st : List Value} {h : gm_H} {r : gm_R × gm_H} {lv : List Value} {x y : Int32} : gm_Go E d 131 90 lv (.int y :: .int x :: st) h r ↔ (if y ≤ x then gm_Go E d 131 119 lv st h r else gm_Go E d 131 93 lv st h r) := (gr_br m131 f131_90 rfl rfl rfl rfl).trans gr_if
theorem f131_93 : gm_ft 131 93 = some (.iload 4, 2) := by decide +kernel
theorem r131_93 {E : Nat → Value} {d : Nat} {st : List Value} {h : gm_H} {r : gm_R × gm_H} {a0 a1 a2 a3 a5 : Value} {x : Int32} : gm_Go E d 131 93 [a0, a1, a2, a3, .int x, a5] st h r ↔ gm_Go E d 131 95 [a0, a1, a2, a3, .int x, a5] (.int x :: st) h r := gr_loc m131 f131_93 rfl rfl
theorem f131_95 : gm_ft 131 95 = some (.bipush 8, 2) := by decide +kernel
theorem r131_95 {E : Nat → Value} {d : Nat} {st : List Value} {h : gm_H} {r : gm_R × gm_H} {lv : List Value} : gm_Go E d 131 95 lv st h r ↔ gm_Go E d 131 97 lv (.int (8 : Int32) :: st) h r := gr_pure m131 f131_95 rfl
theorem f131_97 : gm_ft 131 97 = some (.ishl, 1) := by decide +kernel
theorem r131_97 {E : Nat → Value} {d : Nat} {st : List Value} {h : gm_H} {r : gm_R × gm_H} {lv : List Value} {x y : Int32} : gm_Go E d 131 97 lv (.int y :: .int x :: st) h r ↔ gm_Go E d 131 98 lv (.int (x <<< (y &&& 31)) :: st) h r := gr_pure m131 f131_97 rfl
theorem f131_98 : gm_ft 131 98 = some (.aload_n 0, 1) := by decide +kernel
theorem r131_98 {E : Nat → Value} {d : Nat} {st : List Value} {h : gm_H} {r : gm_R × gm_H} {a1 a2 a3 a4 a5 : Value} {x : Nat} : gm_Go E d 131 98 [.ref x, a1, a2, a3, a4, a5] st h r ↔ gm_Go E d 131 99 [.ref x, a1, a2, a3, a4, a5] (.ref x :: st) h r := gr_loc m131 f131_98 rfl rfl
theorem r131_98n {E : Nat → Value} {d : Nat} {st : List Value} {h : gm_H} {r : gm_R × gm_H} {a1 a2 a3 a4 a5 : Value}  : gm_Go E d 131 98 [.null, a1, a2, a3, a4, a5] st h r ↔ gm_Go E d 131 99 [.null, a1, a2, a3, a4, a5] (.null :: st) h r := gr_loc m131 f131_98 rfl rfl
theorem f131_99 : gm_ft 131 99 = some (.getfield 7, 3) := by decide +kernel
theorem r131_99 {E : Nat → Value} {d : Nat} {st : List Value} {h : gm_H} {r : gm_R × gm_H} {lv : List Value} {a : Nat} {vs : List Value} {v : Value} (hr : gm_rd h a = some (5, vs)) (hv : vs[4]? = some v) : gm_Go E d 131 99 lv (.ref a :: st) h r ↔ gm_Go E d 131 102 lv (v :: st) h r := gr_rd m131 f131_99 rfl rfl rfl rfl (gf_get k5_7 hr hv)
theorem f131_102 : gm_ft 131 102 = some (.aload_n 0, 1) := by decide +kernel
theorem r131_102 {E : Nat → Value} {d : Nat} {st : List Value} {h : gm_H} {r : gm_R × gm_H} {a1 a2 a3 a4 a5 : Value} {x : Nat} : gm_Go E d 131 102 [.ref x, a1, a2, a3, a4, a5] st h r ↔ gm_Go E d 131 103 [.ref x, a1, a2, a3, a4, a5] (.ref x :: st) h r := gr_loc m131 f131_102 rfl rfl
theorem r131_102n {E : Nat → Value} {d : Nat} {st : List Value} {h : gm_H} {r : gm_R × gm_H} {a1 a2 a3 a4 a5 : Value}  : gm_Go E d 131 102 [.null, a1, a2, a3, a4, a5] st h r ↔ gm_Go E d 131 103 [.null, a1, a2, a3, a4, a5] (.null :: st) h r := gr_loc m131 f131_102 rfl rfl
theorem f131_103 : gm_ft 131 103 = some (.getfield 148, 3) := by decide +kernel
theorem r131_103 {E : Nat → Value} {d : Nat} {st : List Value} {h : gm_H} {r : gm_R × gm_H} {lv : List Value} {a : Nat} {vs : List Value} {v : Value} (hr : gm_rd h a = some (5, vs)) (hv : vs[6]? = some v) : gm_Go E d 131 103 lv (.ref a :: st) h r ↔ gm_Go E d 131 106 lv (v :: st) h r := gr_rd m131 f131_103 rfl rfl rfl rfl (gf_get k5_148 hr hv)
theorem f131_106 : gm_ft 131 106 = some (.iload 5, 2) := by decide +kernel
theorem r131_106 {E : Nat → Value} {d : Nat} {st : List Value} {h : gm_H} {r : gm_R × gm_H} {a0 a1 a2 a3 a4 : Value} {x : Int32} : gm_Go E d 131 106 [a0, a1, a2, a3, a4, .int x] st h r ↔ gm_Go E d 131 108 [a0, a1, a2, a3, a4, .int x] (.int x :: st) h r := gr_loc m131 f131_106 rfl rfl
theorem f131_108 : gm_ft 131 108 = some (.iadd, 1) := by decide +kernel
theorem r131_108 {E : Nat → Value} {d : Nat} {st : List Value} {h : gm_H} {r : gm_R × gm_H} {lv : List Value} {x y : Int32} : gm_Go E d 131 108 lv (.int y :: .int x :: st) h r ↔ gm_Go E d 131 109 lv (.int (x + y) :: st) h r := gr_pure m131 f131_108 rfl
theorem f131_109 : gm_ft 131 109 = some (.iaload, 1) := by decide +kernel
theorem r131_109 {E : Nat → Value} {d : Nat} {st : List Value} {h : gm_H} {r : gm_R × gm_H} {lv : List Value} {a k j : Nat} {vs : List Value} {v : Value} (hr : gm_rd h a = some (k, vs)) (hk : 100 ≤ k ∧ (fun t => t == 0) (k % 100) = true) (hj : j < 2 ^ 31) (hv : vs[j]? = some v) : gm_Go E d 131 109 lv (.int (nI j) :: .ref a :: st) h r ↔ gm_Go E d 131 110 lv (v :: st) h r := gr_rd m131 f131_109 rfl rfl rfl rfl (ga_ld (P := fun t => t == 0) hr hk hj hv)
theorem f131_110 : gm_ft 131 110 = some (.ior, 1) := by decide +kernel
theorem r131_110 {E : Nat → Value} {d : Nat} {st : List Value} {h : gm_H} {r : gm_R × gm_H} {lv : List Value} {x y : Int32} : gm_Go E d 131 110 lv (.int y :: .int x :: st) h r ↔ gm_Go E d 131 111 lv (.int (x ||| y) :: st) h r := gr_pure m131 f131_110 rfl
theorem f131_111 : gm_ft 131 111 = some (.istore 4, 2) := by decide +kernel
theorem r131_111 {E : Nat → Value} {d : Nat} {st : List Value} {h : gm_H} {r : gm_R × gm_H} {a0 a1 a2 a3 a4 a5 : Value} {x : Int32} : gm_Go E d 131 111 [a0, a1, a2, a3, a4, a5] (.int x :: st) h r ↔ gm_Go E d 131 113 [a0, a1, a2, gm_k a3, .int x, a5] st h r := gr_loc m131 f131_111 rfl rfl
theorem f131_113 : gm_ft 131 113 = some (.iinc 5 1, 3) := by decide +kernel
theorem r131_113 {E : Nat → Value} {d : Nat} {st : List Value} {h : gm_H} {r : gm_R × gm_H} {a0 a1 a2 a3 a4 : Value} {x : Int32} : gm_Go E d 131 113 [a0, a1, a2, a3, a4, .int x] st h r ↔ gm_Go E d 131 116 [a0, a1, a2, a3, gm_k a4, .int (x + (1 : Int32))] st h r := gr_loc m131 f131_113 rfl rfl
theorem f131_116 : gm_ft 131 116 = some (.goto (-30), 3) := by decide +kernel
theorem r131_116 {E : Nat → Value} {d : Nat} {st : List Value} {h : gm_H} {r : gm_R × gm_H} {lv : List Value} : gm_Go E d 131 116 lv st h r ↔ gm_Go E d 131 86 lv st h r := gr_brT m131 f131_116 rfl rfl rfl rfl
theorem f131_119 : gm_ft 131 119 = some (.aload_n 0, 1) := by decide +kernel
theorem r131_119 {E : Nat → Value} {d : Nat} {st : List Value} {h : gm_H} {r : gm_R × gm_H} {a1 a2 a3 a4 a5 : Value} {x : Nat} : gm_Go E d 131 119 [.ref x, a1, a2, a3, a4, a5] st h r ↔ gm_Go E d 131 120 [.ref x, a1, a2, a3, a4, a5] (.ref x :: st) h r := gr_loc m131 f131_119 rfl rfl
theorem r131_119n {E : Nat → Value} {d : Nat} {st : List Value} {h : gm_H} {r : gm_R × gm_H} {a1 a2 a3 a4 a5 : Value}  : gm_Go E d 131 119 [.null, a1, a2, a3, a4, a5] st h r ↔ gm_Go E d 131 120 [.null, a1, a2, a3, a4, a5] (.null :: st) h r := gr_loc m131 f131_119 rfl rfl
theorem f131_120 : gm_ft 131 120 = some (.getfield 51, 3) := by decide +kernel
theorem r131_120 {E : Nat → Value} {d : Nat} {st : List Value} {h : gm_H} {r : gm_R × gm_H} {lv : List Value} {a : Nat} {vs : List Value} {v : Value} (hr : gm_rd h a = some (5, vs)) (hv : vs[22]? = some v) : gm_Go E d 131 120 lv (.ref a :: st) h r ↔ gm_Go E d 131 123 lv (v :: st) h r := gr_rd m131 f131_120 rfl rfl rfl rfl (gf_get k5_51 hr hv)
theorem f131_123 : gm_ft 131 123 = some (.iload_n 1, 1) := by decide +kernel
theorem r131_123 {E : Nat → Value} {d : Nat} {st : List Value} {h : gm_H} {r : gm_R × gm_H} {a0 a2 a3 a4 a5 : Value} {x : Int32} : gm_Go E d 131 123 [a0, .int x, a2, a3, a4, a5] st h r ↔ gm_Go E d 131 124 [a0, .int x, a2, a3, a4, a5] (.int x :: st) h r := gr_loc m131 f131_123 rfl rfl
theorem f131_124 : gm_ft 131 124 = some (.iload 4, 2) := by decide +kernel
theorem r131_124 {E : Nat → Value} {d : Nat} {st : List Value} {h : gm_H} {r : gm_R × gm_H} {a0 a1 a2 a3 a5 : Value} {x : Int32} : gm_Go E d 131 124 [a0, a1, a2, a3, .int x, a5] st h r ↔ gm_Go E d 131 126 [a0, a1, a2, a3, .int x, a5] (.int x :: st) h r := gr_loc m131 f131_124 rfl rfl
theorem f131_126 : gm_ft 131 126 = some (.iastore, 1) := by decide +kernel
theorem r131_126 {E : Nat → Value} {d : Nat} {st : List Value} {h : gm_H} {r : gm_R × gm_H} {lv : List Value} {a k j : Nat} {vs : List Value} {x : Int32} (hr : gm_rd h a = some (k, vs)) (hk : 100 ≤ k ∧ k % 100 = 0 ∧ gm_ko k = 2 ∧ 2 < 3) (hj : j < 2 ^ 31) (hl : j < vs.length) : gm_Go E d 131 126 lv (.int x :: .int (nI j) :: .ref a :: st) h r ↔ gm_Go E d 131 127 lv st (gm_wr h a (k, vs.set j (.int x))) r := gr_wr m131 f131_126 rfl rfl rfl rfl rfl (ga_st hr hk hj hl)
theorem f131_127 : gm_ft 131 127 = some (.return_, 1) := by decide +kernel
theorem r131_127 {E : Nat → Value} {d : Nat} {h : gm_H} {r : gm_R × gm_H} {lv : List Value} : gm_Go E d 131 127 lv [] h r ↔ r = (.inl none, h) := gr_ret m131 f131_127 rfl rfl rfl rfl rfl rfl rfl rfl rfl
/-! GraphReaderModel.stepRest(I)V -/
theorem m132 : gm_mt[132]? = some (⟨"GraphReaderModel", "stepRest", "(I)V"⟩, prog_7_method_43_code, 4, none, [], 5, 2) := rfl
theorem f132_0 : gm_ft 132 0 = some (.aload_n 0, 1) := by decide +kernel
theorem r132_0 {E : Nat → Value} {d : Nat} {st : List Value} {h : gm_H} {r : gm_R × gm_H} {a1 a2 a3 : Value} {x : Nat} : gm_Go E d 132 0 [.ref x, a1, a2, a3] st h r ↔ gm_Go E d 132 1 [.ref x, a1, a2, a3] (.ref x :: st) h r := gr_loc m132 f132_0 rfl rfl
theorem r132_0n {E : Nat → Value} {d : Nat} {st : List Value} {h : gm_H} {r : gm_R × gm_H} {a1 a2 a3 : Value}  : gm_Go E d 132 0 [.null, a1, a2, a3] st h r ↔ gm_Go E d 132 1 [.null, a1, a2, a3] (.null :: st) h r := gr_loc m132 f132_0 rfl rfl
theorem f132_1 : gm_ft 132 1 = some (.getfield 148, 3) := by decide +kernel
theorem r132_1 {E : Nat → Value} {d : Nat} {st : List Value} {h : gm_H} {r : gm_R × gm_H} {lv : List Value} {a : Nat} {vs : List Value} {v : Value} (hr : gm_rd h a = some (5, vs)) (hv : vs[6]? = some v) : gm_Go E d 132 1 lv (.ref a :: st) h r ↔ gm_Go E d 132 4 lv (v :: st) h r := gr_rd m132 f132_1 rfl rfl rfl rfl (gf_get k5_148 hr hv)
theorem f132_4 : gm_ft 132 4 = some (.aload_n 0, 1) := by decide +kernel
theorem r132_4 {E : Nat → Value} {d : Nat} {st : List Value} {h : gm_H} {r : gm_R × gm_H} {a1 a2 a3 : Value} {x : Nat} : gm_Go E d 132 4 [.ref x, a1, a2, a3] st h r ↔ gm_Go E d 132 5 [.ref x, a1, a2, a3] (.ref x :: st) h r := gr_loc m132 f132_4 rfl rfl
theorem r132_4n {E : Nat → Value} {d : Nat} {st : List Value} {h : gm_H} {r : gm_R × gm_H} {a1 a2 a3 : Value}  : gm_Go E d 132 4 [.null, a1, a2, a3] st h r ↔ gm_Go E d 132 5 [.null, a1, a2, a3] (.null :: st) h r := gr_loc m132 f132_4 rfl rfl
theorem f132_5 : gm_ft 132 5 = some (.getfield 142, 3) := by decide +kernel
theorem r132_5 {E : Nat → Value} {d : Nat} {st : List Value} {h : gm_H} {r : gm_R × gm_H} {lv : List Value} {a : Nat} {vs : List Value} {v : Value} (hr : gm_rd h a = some (5, vs)) (hv : vs[5]? = some v) : gm_Go E d 132 5 lv (.ref a :: st) h r ↔ gm_Go E d 132 8 lv (v :: st) h r := gr_rd m132 f132_5 rfl rfl rfl rfl (gf_get k5_142 hr hv)
theorem f132_8 : gm_ft 132 8 = some (.if_icmp .ge 15, 3) := by decide +kernel
theorem r132_8 {E : Nat → Value} {d : Nat} {st : List Value} {h : gm_H} {r : gm_R × gm_H} {lv : List Value} {x y : Int32} : gm_Go E d 132 8 lv (.int y :: .int x :: st) h r ↔ (if y ≤ x then gm_Go E d 132 23 lv st h r else gm_Go E d 132 11 lv st h r) := (gr_br m132 f132_8 rfl rfl rfl rfl).trans gr_if
theorem f132_11 : gm_ft 132 11 = some (.aload_n 0, 1) := by decide +kernel
theorem r132_11 {E : Nat → Value} {d : Nat} {st : List Value} {h : gm_H} {r : gm_R × gm_H} {a1 a2 a3 : Value} {x : Nat} : gm_Go E d 132 11 [.ref x, a1, a2, a3] st h r ↔ gm_Go E d 132 12 [.ref x, a1, a2, a3] (.ref x :: st) h r := gr_loc m132 f132_11 rfl rfl
theorem r132_11n {E : Nat → Value} {d : Nat} {st : List Value} {h : gm_H} {r : gm_R × gm_H} {a1 a2 a3 : Value}  : gm_Go E d 132 11 [.null, a1, a2, a3] st h r ↔ gm_Go E d 132 12 [.null, a1, a2, a3] (.null :: st) h r := gr_loc m132 f132_11 rfl rfl
theorem f132_12 : gm_ft 132 12 = some (.getfield 7, 3) := by decide +kernel
theorem r132_12 {E : Nat → Value} {d : Nat} {st : List Value} {h : gm_H} {r : gm_R × gm_H} {lv : List Value} {a : Nat} {vs : List Value} {v : Value} (hr : gm_rd h a = some (5, vs)) (hv : vs[4]? = some v) : gm_Go E d 132 12 lv (.ref a :: st) h r ↔ gm_Go E d 132 15 lv (v :: st) h r := gr_rd m132 f132_12 rfl rfl rfl rfl (gf_get k5_7 hr hv)
theorem f132_15 : gm_ft 132 15 = some (.aload_n 0, 1) := by decide +kernel
theorem r132_15 {E : Nat → Value} {d : Nat} {st : List Value} {h : gm_H} {r : gm_R × gm_H} {a1 a2 a3 : Value} {x : Nat} : gm_Go E d 132 15 [.ref x, a1, a2, a3] st h r ↔ gm_Go E d 132 16 [.ref x, a1, a2, a3] (.ref x :: st) h r := gr_loc m132 f132_15 rfl rfl
theorem r132_15n {E : Nat → Value} {d : Nat} {st : List Value} {h : gm_H} {r : gm_R × gm_H} {a1 a2 a3 : Value}  : gm_Go E d 132 15 [.null, a1, a2, a3] st h r ↔ gm_Go E d 132 16 [.null, a1, a2, a3] (.null :: st) h r := gr_loc m132 f132_15 rfl rfl
theorem f132_16 : gm_ft 132 16 = some (.getfield 148, 3) := by decide +kernel
theorem r132_16 {E : Nat → Value} {d : Nat} {st : List Value} {h : gm_H} {r : gm_R × gm_H} {lv : List Value} {a : Nat} {vs : List Value} {v : Value} (hr : gm_rd h a = some (5, vs)) (hv : vs[6]? = some v) : gm_Go E d 132 16 lv (.ref a :: st) h r ↔ gm_Go E d 132 19 lv (v :: st) h r := gr_rd m132 f132_16 rfl rfl rfl rfl (gf_get k5_148 hr hv)
theorem f132_19 : gm_ft 132 19 = some (.iaload, 1) := by decide +kernel
theorem r132_19 {E : Nat → Value} {d : Nat} {st : List Value} {h : gm_H} {r : gm_R × gm_H} {lv : List Value} {a k j : Nat} {vs : List Value} {v : Value} (hr : gm_rd h a = some (k, vs)) (hk : 100 ≤ k ∧ (fun t => t == 0) (k % 100) = true) (hj : j < 2 ^ 31) (hv : vs[j]? = some v) : gm_Go E d 132 19 lv (.int (nI j) :: .ref a :: st) h r ↔ gm_Go E d 132 20 lv (v :: st) h r := gr_rd m132 f132_19 rfl rfl rfl rfl (ga_ld (P := fun t => t == 0) hr hk hj hv)
theorem f132_20 : gm_ft 132 20 = some (.goto 4, 3) := by decide +kernel
theorem r132_20 {E : Nat → Value} {d : Nat} {st : List Value} {h : gm_H} {r : gm_R × gm_H} {lv : List Value} : gm_Go E d 132 20 lv st h r ↔ gm_Go E d 132 24 lv st h r := gr_brT m132 f132_20 rfl rfl rfl rfl
theorem f132_23 : gm_ft 132 23 = some (.iconst (-1), 1) := by decide +kernel
theorem r132_23 {E : Nat → Value} {d : Nat} {st : List Value} {h : gm_H} {r : gm_R × gm_H} {lv : List Value} : gm_Go E d 132 23 lv st h r ↔ gm_Go E d 132 24 lv (.int (-1 : Int32) :: st) h r := gr_pure m132 f132_23 rfl
theorem f132_24 : gm_ft 132 24 = some (.istore_n 2, 1) := by decide +kernel
theorem r132_24 {E : Nat → Value} {d : Nat} {st : List Value} {h : gm_H} {r : gm_R × gm_H} {a0 a1 a2 a3 : Value} {x : Int32} : gm_Go E d 132 24 [a0, a1, a2, a3] (.int x :: st) h r ↔ gm_Go E d 132 25 [a0, gm_k a1, .int x, a3] st h r := gr_loc m132 f132_24 rfl rfl
theorem f132_25 : gm_ft 132 25 = some (.iload_n 2, 1) := by decide +kernel
theorem r132_25 {E : Nat → Value} {d : Nat} {st : List Value} {h : gm_H} {r : gm_R × gm_H} {a0 a1 a3 : Value} {x : Int32} : gm_Go E d 132 25 [a0, a1, .int x, a3] st h r ↔ gm_Go E d 132 26 [a0, a1, .int x, a3] (.int x :: st) h r := gr_loc m132 f132_25 rfl rfl
theorem f132_26 : gm_ft 132 26 = some (.bipush 120, 2) := by decide +kernel
theorem r132_26 {E : Nat → Value} {d : Nat} {st : List Value} {h : gm_H} {r : gm_R × gm_H} {lv : List Value} : gm_Go E d 132 26 lv st h r ↔ gm_Go E d 132 28 lv (.int (120 : Int32) :: st) h r := gr_pure m132 f132_26 rfl
theorem f132_28 : gm_ft 132 28 = some (.if_icmp .ne 21, 3) := by decide +kernel
theorem r132_28 {E : Nat → Value} {d : Nat} {st : List Value} {h : gm_H} {r : gm_R × gm_H} {lv : List Value} {x y : Int32} : gm_Go E d 132 28 lv (.int y :: .int x :: st) h r ↔ (if x = y then gm_Go E d 132 31 lv st h r else gm_Go E d 132 49 lv st h r) := (gr_br m132 f132_28 rfl rfl rfl rfl).trans gr_ifn
theorem f132_31 : gm_ft 132 31 = some (.aload_n 0, 1) := by decide +kernel
theorem r132_31 {E : Nat → Value} {d : Nat} {st : List Value} {h : gm_H} {r : gm_R × gm_H} {a1 a2 a3 : Value} {x : Nat} : gm_Go E d 132 31 [.ref x, a1, a2, a3] st h r ↔ gm_Go E d 132 32 [.ref x, a1, a2, a3] (.ref x :: st) h r := gr_loc m132 f132_31 rfl rfl
theorem r132_31n {E : Nat → Value} {d : Nat} {st : List Value} {h : gm_H} {r : gm_R × gm_H} {a1 a2 a3 : Value}  : gm_Go E d 132 31 [.null, a1, a2, a3] st h r ↔ gm_Go E d 132 32 [.null, a1, a2, a3] (.null :: st) h r := gr_loc m132 f132_31 rfl rfl
theorem f132_32 : gm_ft 132 32 = some (.dup, 1) := by decide +kernel
theorem r132_32 {E : Nat → Value} {d : Nat} {st : List Value} {h : gm_H} {r : gm_R × gm_H} {lv : List Value} {a : Nat} : gm_Go E d 132 32 lv (.ref a :: st) h r ↔ gm_Go E d 132 33 lv (.ref a :: .ref a :: st) h r := gr_pure m132 f132_32 rfl
theorem r132_32i {E : Nat → Value} {d : Nat} {st : List Value} {h : gm_H} {r : gm_R × gm_H} {lv : List Value} {x : Int32} : gm_Go E d 132 32 lv (.int x :: st) h r ↔ gm_Go E d 132 33 lv (.int x :: .int x :: st) h r := gr_pure m132 f132_32 rfl
theorem f132_33 : gm_ft 132 33 = some (.getfield 148, 3) := by decide +kernel
theorem r132_33 {E : Nat → Value} {d : Nat} {st : List Value} {h : gm_H} {r : gm_R × gm_H} {lv : List Value} {a : Nat} {vs : List Value} {v : Value} (hr : gm_rd h a = some (5, vs)) (hv : vs[6]? = some v) : gm_Go E d 132 33 lv (.ref a :: st) h r ↔ gm_Go E d 132 36 lv (v :: st) h r := gr_rd m132 f132_33 rfl rfl rfl rfl (gf_get k5_148 hr hv)
theorem f132_36 : gm_ft 132 36 = some (.iconst 1, 1) := by decide +kernel
theorem r132_36 {E : Nat → Value} {d : Nat} {st : List Value} {h : gm_H} {r : gm_R × gm_H} {lv : List Value} : gm_Go E d 132 36 lv st h r ↔ gm_Go E d 132 37 lv (.int (1 : Int32) :: st) h r := gr_pure m132 f132_36 rfl
theorem f132_37 : gm_ft 132 37 = some (.iadd, 1) := by decide +kernel
theorem r132_37 {E : Nat → Value} {d : Nat} {st : List Value} {h : gm_H} {r : gm_R × gm_H} {lv : List Value} {x y : Int32} : gm_Go E d 132 37 lv (.int y :: .int x :: st) h r ↔ gm_Go E d 132 38 lv (.int (x + y) :: st) h r := gr_pure m132 f132_37 rfl
theorem f132_38 : gm_ft 132 38 = some (.putfield 148, 3) := by decide +kernel
theorem r132_38 {E : Nat → Value} {d : Nat} {st : List Value} {h : gm_H} {r : gm_R × gm_H} {lv : List Value} {a : Nat} {vs : List Value} {v : Value} (hr : gm_rd h a = some (5, vs)) (hk : 6 < vs.length) (hn : narrow (gm_ty 5 6) v = v ∧ fits (gm_ty 5 6) v = true) : gm_Go E d 132 38 lv (v :: .ref a :: st) h r ↔ gm_Go E d 132 41 lv st (gm_wr h a (5, vs.set 6 v)) r := gr_wr m132 f132_38 rfl rfl rfl rfl rfl (gf_put k5_148 hr (by decide) hk hn (by decide))
theorem f132_41 : gm_ft 132 41 = some (.aload_n 0, 1) := by decide +kernel
theorem r132_41 {E : Nat → Value} {d : Nat} {st : List Value} {h : gm_H} {r : gm_R × gm_H} {a1 a2 a3 : Value} {x : Nat} : gm_Go E d 132 41 [.ref x, a1, a2, a3] st h r ↔ gm_Go E d 132 42 [.ref x, a1, a2, a3] (.ref x :: st) h r := gr_loc m132 f132_41 rfl rfl
theorem r132_41n {E : Nat → Value} {d : Nat} {st : List Value} {h : gm_H} {r : gm_R × gm_H} {a1 a2 a3 : Value}  : gm_Go E d 132 41 [.null, a1, a2, a3] st h r ↔ gm_Go E d 132 42 [.null, a1, a2, a3] (.null :: st) h r := gr_loc m132 f132_41 rfl rfl
theorem f132_42 : gm_ft 132 42 = some (.iconst 0, 1) := by decide +kernel
theorem r132_42 {E : Nat → Value} {d : Nat} {st : List Value} {h : gm_H} {r : gm_R × gm_H} {lv : List Value} : gm_Go E d 132 42 lv st h r ↔ gm_Go E d 132 43 lv (.int (0 : Int32) :: st) h r := gr_pure m132 f132_42 rfl
theorem f132_43 : gm_ft 132 43 = some (.invokevirtual 182, 3) := by decide +kernel
theorem n132_43 {st : List Value} {h : gm_H} {E : Nat → Value} {lv : List Value} {b0 : Value} {a : Nat} (hs : (st.map fun v => v.category).sum ≤ 8) (he : (gm_en1 [.ref a, b0]).length ≤ 2) {vs : List Value} (hr : gm_rd h a = some (5, vs)) : gm_next E 132 43 lv (b0 :: .ref a :: st) h = some (.inr (.inl (0, 105, [.ref a, b0], st))) := gn_call m132 f132_43 rfl rfl rfl rfl rfl rfl rfl (gc_virt (bs := [b0]) (w := 872) rfl rfl rfl rfl hs he hr) (by decide)
theorem f132_46 : gm_ft 132 46 = some (.goto 38, 3) := by decide +kernel
theorem r132_46 {E : Nat → Value} {d : Nat} {st : List Value} {h : gm_H} {r : gm_R × gm_H} {lv : List Value} : gm_Go E d 132 46 lv st h r ↔ gm_Go E d 132 84 lv st h r := gr_brT m132 f132_46 rfl rfl rfl rfl
theorem f132_49 : gm_ft 132 49 = some (.iload_n 2, 1) := by decide +kernel
theorem r132_49 {E : Nat → Value} {d : Nat} {st : List Value} {h : gm_H} {r : gm_R × gm_H} {a0 a1 a3 : Value} {x : Int32} : gm_Go E d 132 49 [a0, a1, .int x, a3] st h r ↔ gm_Go E d 132 50 [a0, a1, .int x, a3] (.int x :: st) h r := gr_loc m132 f132_49 rfl rfl
theorem f132_50 : gm_ft 132 50 = some (.bipush 119, 2) := by decide +kernel
theorem r132_50 {E : Nat → Value} {d : Nat} {st : List Value} {h : gm_H} {r : gm_R × gm_H} {lv : List Value} : gm_Go E d 132 50 lv st h r ↔ gm_Go E d 132 52 lv (.int (119 : Int32) :: st) h r := gr_pure m132 f132_50 rfl
theorem f132_52 : gm_ft 132 52 = some (.if_icmp .eq 9, 3) := by decide +kernel
theorem r132_52 {E : Nat → Value} {d : Nat} {st : List Value} {h : gm_H} {r : gm_R × gm_H} {lv : List Value} {x y : Int32} : gm_Go E d 132 52 lv (.int y :: .int x :: st) h r ↔ (if x = y then gm_Go E d 132 61 lv st h r else gm_Go E d 132 55 lv st h r) := (gr_br m132 f132_52 rfl rfl rfl rfl).trans gr_if
theorem f132_55 : gm_ft 132 55 = some (.iload_n 2, 1) := by decide +kernel
theorem r132_55 {E : Nat → Value} {d : Nat} {st : List Value} {h : gm_H} {r : gm_R × gm_H} {a0 a1 a3 : Value} {x : Int32} : gm_Go E d 132 55 [a0, a1, .int x, a3] st h r ↔ gm_Go E d 132 56 [a0, a1, .int x, a3] (.int x :: st) h r := gr_loc m132 f132_55 rfl rfl
theorem f132_56 : gm_ft 132 56 = some (.bipush 122, 2) := by decide +kernel
theorem r132_56 {E : Nat → Value} {d : Nat} {st : List Value} {h : gm_H} {r : gm_R × gm_H} {lv : List Value} : gm_Go E d 132 56 lv st h r ↔ gm_Go E d 132 58 lv (.int (122 : Int32) :: st) h r := gr_pure m132 f132_56 rfl
theorem f132_58 : gm_ft 132 58 = some (.if_icmp .ne 11, 3) := by decide +kernel
theorem r132_58 {E : Nat → Value} {d : Nat} {st : List Value} {h : gm_H} {r : gm_R × gm_H} {lv : List Value} {x y : Int32} : gm_Go E d 132 58 lv (.int y :: .int x :: st) h r ↔ (if x = y then gm_Go E d 132 61 lv st h r else gm_Go E d 132 69 lv st h r) := (gr_br m132 f132_58 rfl rfl rfl rfl).trans gr_ifn
theorem f132_61 : gm_ft 132 61 = some (.aload_n 0, 1) := by decide +kernel
theorem r132_61 {E : Nat → Value} {d : Nat} {st : List Value} {h : gm_H} {r : gm_R × gm_H} {a1 a2 a3 : Value} {x : Nat} : gm_Go E d 132 61 [.ref x, a1, a2, a3] st h r ↔ gm_Go E d 132 62 [.ref x, a1, a2, a3] (.ref x :: st) h r := gr_loc m132 f132_61 rfl rfl
theorem r132_61n {E : Nat → Value} {d : Nat} {st : List Value} {h : gm_H} {r : gm_R × gm_H} {a1 a2 a3 : Value}  : gm_Go E d 132 61 [.null, a1, a2, a3] st h r ↔ gm_Go E d 132 62 [.null, a1, a2, a3] (.null :: st) h r := gr_loc m132 f132_61 rfl rfl
theorem f132_62 : gm_ft 132 62 = some (.invokevirtual 277, 3) := by decide +kernel
theorem n132_62 {st : List Value} {h : gm_H} {E : Nat → Value} {lv : List Value} {a : Nat} (hs : (st.map fun v => v.category).sum ≤ 8) (he : (gm_en1 [.ref a]).length ≤ 2) {vs : List Value} (hr : gm_rd h a = some (5, vs)) : gm_next E 132 62 lv (.ref a :: st) h = some (.inr (.inl (0, 133, [.ref a], st))) := gn_call m132 f132_62 rfl rfl rfl rfl rfl rfl rfl (gc_virt (bs := []) (w := 989) rfl rfl rfl rfl hs he hr) (by decide)
theorem f132_65 : gm_ft 132 65 = some (.istore_n 3, 1) := by decide +kernel
theorem r132_65 {E : Nat → Value} {d : Nat} {st : List Value} {h : gm_H} {r : gm_R × gm_H} {a0 a1 a2 a3 : Value} {x : Int32} : gm_Go E d 132 65 [a0, a1, a2, a3] (.int x :: st) h r ↔ gm_Go E d 132 66 [a0, a1, gm_k a2, .int x] st h r := gr_loc m132 f132_65 rfl rfl
theorem f132_66 : gm_ft 132 66 = some (.goto 18, 3) := by decide +kernel
theorem r132_66 {E : Nat → Value} {d : Nat} {st : List Value} {h : gm_H} {r : gm_R × gm_H} {lv : List Value} : gm_Go E d 132 66 lv st h r ↔ gm_Go E d 132 84 lv st h r := gr_brT m132 f132_66 rfl rfl rfl rfl
theorem f132_69 : gm_ft 132 69 = some (.aload_n 0, 1) := by decide +kernel
theorem r132_69 {E : Nat → Value} {d : Nat} {st : List Value} {h : gm_H} {r : gm_R × gm_H} {a1 a2 a3 : Value} {x : Nat} : gm_Go E d 132 69 [.ref x, a1, a2, a3] st h r ↔ gm_Go E d 132 70 [.ref x, a1, a2, a3] (.ref x :: st) h r := gr_loc m132 f132_69 rfl rfl
theorem r132_69n {E : Nat → Value} {d : Nat} {st : List Value} {h : gm_H} {r : gm_R × gm_H} {a1 a2 a3 : Value}  : gm_Go E d 132 69 [.null, a1, a2, a3] st h r ↔ gm_Go E d 132 70 [.null, a1, a2, a3] (.null :: st) h r := gr_loc m132 f132_69 rfl rfl
theorem f132_70 : gm_ft 132 70 = some (.iconst 1, 1) := by decide +kernel
theorem r132_70 {E : Nat → Value} {d : Nat} {st : List Value} {h : gm_H} {r : gm_R × gm_H} {lv : List Value} : gm_Go E d 132 70 lv st h r ↔ gm_Go E d 132 71 lv (.int (1 : Int32) :: st) h r := gr_pure m132 f132_70 rfl
theorem f132_71 : gm_ft 132 71 = some (.aload_n 0, 1) := by decide +kernel
theorem r132_71 {E : Nat → Value} {d : Nat} {st : List Value} {h : gm_H} {r : gm_R × gm_H} {a1 a2 a3 : Value} {x : Nat} : gm_Go E d 132 71 [.ref x, a1, a2, a3] st h r ↔ gm_Go E d 132 72 [.ref x, a1, a2, a3] (.ref x :: st) h r := gr_loc m132 f132_71 rfl rfl
theorem r132_71n {E : Nat → Value} {d : Nat} {st : List Value} {h : gm_H} {r : gm_R × gm_H} {a1 a2 a3 : Value}  : gm_Go E d 132 71 [.null, a1, a2, a3] st h r ↔ gm_Go E d 132 72 [.null, a1, a2, a3] (.null :: st) h r := gr_loc m132 f132_71 rfl rfl
theorem f132_72 : gm_ft 132 72 = some (.getfield 99, 3) := by decide +kernel
theorem r132_72 {E : Nat → Value} {d : Nat} {st : List Value} {h : gm_H} {r : gm_R × gm_H} {lv : List Value} {a : Nat} {vs : List Value} {v : Value} (hr : gm_rd h a = some (5, vs)) (hv : vs[42]? = some v) : gm_Go E d 132 72 lv (.ref a :: st) h r ↔ gm_Go E d 132 75 lv (v :: st) h r := gr_rd m132 f132_72 rfl rfl rfl rfl (gf_get k5_99 hr hv)
theorem f132_75 : gm_ft 132 75 = some (.iload_n 1, 1) := by decide +kernel
theorem r132_75 {E : Nat → Value} {d : Nat} {st : List Value} {h : gm_H} {r : gm_R × gm_H} {a0 a2 a3 : Value} {x : Int32} : gm_Go E d 132 75 [a0, .int x, a2, a3] st h r ↔ gm_Go E d 132 76 [a0, .int x, a2, a3] (.int x :: st) h r := gr_loc m132 f132_75 rfl rfl
theorem f132_76 : gm_ft 132 76 = some (.iaload, 1) := by decide +kernel
theorem r132_76 {E : Nat → Value} {d : Nat} {st : List Value} {h : gm_H} {r : gm_R × gm_H} {lv : List Value} {a k j : Nat} {vs : List Value} {v : Value} (hr : gm_rd h a = some (k, vs)) (hk : 100 ≤ k ∧ (fun t => t == 0) (k % 100) = true) (hj : j < 2 ^ 31) (hv : vs[j]? = some v) : gm_Go E d 132 76 lv (.int (nI j) :: .ref a :: st) h r ↔ gm_Go E d 132 77 lv (v :: st) h r := gr_rd m132 f132_76 rfl rfl rfl rfl (ga_ld (P := fun t => t == 0) hr hk hj hv)
theorem f132_77 : gm_ft 132 77 = some (.iconst 1, 1) := by decide +kernel
theorem r132_77 {E : Nat → Value} {d : Nat} {st : List Value} {h : gm_H} {r : gm_R × gm_H} {lv : List Value} : gm_Go E d 132 77 lv st h r ↔ gm_Go E d 132 78 lv (.int (1 : Int32) :: st) h r := gr_pure m132 f132_77 rfl
theorem f132_78 : gm_ft 132 78 = some (.iadd, 1) := by decide +kernel
theorem r132_78 {E : Nat → Value} {d : Nat} {st : List Value} {h : gm_H} {r : gm_R × gm_H} {lv : List Value} {x y : Int32} : gm_Go E d 132 78 lv (.int y :: .int x :: st) h r ↔ gm_Go E d 132 79 lv (.int (x + y) :: st) h r := gr_pure m132 f132_78 rfl
theorem f132_79 : gm_ft 132 79 = some (.iconst 0, 1) := by decide +kernel
theorem r132_79 {E : Nat → Value} {d : Nat} {st : List Value} {h : gm_H} {r : gm_R × gm_H} {lv : List Value} : gm_Go E d 132 79 lv st h r ↔ gm_Go E d 132 80 lv (.int (0 : Int32) :: st) h r := gr_pure m132 f132_79 rfl
theorem f132_80 : gm_ft 132 80 = some (.iconst 0, 1) := by decide +kernel
theorem r132_80 {E : Nat → Value} {d : Nat} {st : List Value} {h : gm_H} {r : gm_R × gm_H} {lv : List Value} : gm_Go E d 132 80 lv st h r ↔ gm_Go E d 132 81 lv (.int (0 : Int32) :: st) h r := gr_pure m132 f132_80 rfl
theorem f132_81 : gm_ft 132 81 = some (.invokevirtual 200, 3) := by decide +kernel
theorem n132_81 {st : List Value} {h : gm_H} {E : Nat → Value} {lv : List Value} {b0 b1 b2 b3 : Value} {a : Nat} (hs : (st.map fun v => v.category).sum ≤ 8) (he : (gm_en1 [.ref a, b0, b1, b2, b3]).length ≤ 5) {vs : List Value} (hr : gm_rd h a = some (5, vs)) : gm_next E 132 81 lv (b3 :: b2 :: b1 :: b0 :: .ref a :: st) h = some (.inr (.inl (0, 101, [.ref a, b0, b1, b2, b3], st))) := gn_call m132 f132_81 rfl rfl rfl rfl rfl rfl rfl (gc_virt (bs := [b3, b2, b1, b0]) (w := 856) rfl rfl rfl rfl hs he hr) (by decide)
theorem f132_84 : gm_ft 132 84 = some (.return_, 1) := by decide +kernel
theorem r132_84 {E : Nat → Value} {d : Nat} {h : gm_H} {r : gm_R × gm_H} {lv : List Value} : gm_Go E d 132 84 lv [] h r ↔ r = (.inl none, h) := gr_ret m132 f132_84 rfl rfl rfl rfl rfl rfl rfl rfl rfl
/-! GraphReaderModel.block()I -/
theorem m133 : gm_mt[133]? = some (⟨"GraphReaderModel", "block", "()I"⟩, prog_7_method_42_code, 2, (some .int), [], 5, 2) := rfl
theorem f133_0 : gm_ft 133 0 = some (.aload_n 0, 1) := by decide +kernel
theorem r133_0 {E : Nat → Value} {d : Nat} {st : List Value} {h : gm_H} {r : gm_R × gm_H} {a1 : Value} {x : Nat} : gm_Go E d 133 0 [.ref x, a1] st h r ↔ gm_Go E d 133 1 [.ref x, a1] (.ref x :: st) h r := gr_loc m133 f133_0 rfl rfl
theorem r133_0n {E : Nat → Value} {d : Nat} {st : List Value} {h : gm_H} {r : gm_R × gm_H} {a1 : Value}  : gm_Go E d 133 0 [.null, a1] st h r ↔ gm_Go E d 133 1 [.null, a1] (.null :: st) h r := gr_loc m133 f133_0 rfl rfl
theorem f133_1 : gm_ft 133 1 = some (.invokevirtual 155, 3) := by decide +kernel
theorem n133_1 {st : List Value} {h : gm_H} {E : Nat → Value} {lv : List Value} {a : Nat} (hs : (st.map fun v => v.category).sum ≤ 8) (he : (gm_en1 [.ref a]).length ≤ 1) {vs : List Value} (hr : gm_rd h a = some (5, vs)) : gm_next E 133 1 lv (.ref a :: st) h = some (.inr (.inl (0, 99, [.ref a], st))) := gn_call m133 f133_1 rfl rfl rfl rfl rfl rfl rfl (gc_virt (bs := []) (w := 848) rfl rfl rfl rfl hs he hr) (by decide)
theorem f133_4 : gm_ft 133 4 = some (.bipush 119, 2) := by decide +kernel
theorem r133_4 {E : Nat → Value} {d : Nat} {st : List Value} {h : gm_H} {r : gm_R × gm_H} {lv : List Value} : gm_Go E d 133 4 lv st h r ↔ gm_Go E d 133 6 lv (.int (119 : Int32) :: st) h r := gr_pure m133 f133_4 rfl
theorem f133_6 : gm_ft 133 6 = some (.if_icmp .ne 12, 3) := by decide +kernel
theorem r133_6 {E : Nat → Value} {d : Nat} {st : List Value} {h : gm_H} {r : gm_R × gm_H} {lv : List Value} {x y : Int32} : gm_Go E d 133 6 lv (.int y :: .int x :: st) h r ↔ (if x = y then gm_Go E d 133 9 lv st h r else gm_Go E d 133 18 lv st h r) := (gr_br m133 f133_6 rfl rfl rfl rfl).trans gr_ifn
theorem f133_9 : gm_ft 133 9 = some (.aload_n 0, 1) := by decide +kernel
theorem r133_9 {E : Nat → Value} {d : Nat} {st : List Value} {h : gm_H} {r : gm_R × gm_H} {a1 : Value} {x : Nat} : gm_Go E d 133 9 [.ref x, a1] st h r ↔ gm_Go E d 133 10 [.ref x, a1] (.ref x :: st) h r := gr_loc m133 f133_9 rfl rfl
theorem r133_9n {E : Nat → Value} {d : Nat} {st : List Value} {h : gm_H} {r : gm_R × gm_H} {a1 : Value}  : gm_Go E d 133 9 [.null, a1] st h r ↔ gm_Go E d 133 10 [.null, a1] (.null :: st) h r := gr_loc m133 f133_9 rfl rfl
theorem f133_10 : gm_ft 133 10 = some (.iconst 1, 1) := by decide +kernel
theorem r133_10 {E : Nat → Value} {d : Nat} {st : List Value} {h : gm_H} {r : gm_R × gm_H} {lv : List Value} : gm_Go E d 133 10 lv st h r ↔ gm_Go E d 133 11 lv (.int (1 : Int32) :: st) h r := gr_pure m133 f133_10 rfl
theorem f133_11 : gm_ft 133 11 = some (.invokevirtual 159, 3) := by decide +kernel
theorem n133_11 {st : List Value} {h : gm_H} {E : Nat → Value} {lv : List Value} {b0 : Value} {a : Nat} (hs : (st.map fun v => v.category).sum ≤ 8) (he : (gm_en1 [.ref a, b0]).length ≤ 5) {vs : List Value} (hr : gm_rd h a = some (5, vs)) : gm_next E 133 11 lv (b0 :: .ref a :: st) h = some (.inr (.inl (0, 107, [.ref a, b0], st))) := gn_call m133 f133_11 rfl rfl rfl rfl rfl rfl rfl (gc_virt (bs := [b0]) (w := 880) rfl rfl rfl rfl hs he hr) (by decide)
theorem f133_14 : gm_ft 133 14 = some (.l2i, 1) := by decide +kernel
theorem r133_14 {E : Nat → Value} {d : Nat} {st : List Value} {h : gm_H} {r : gm_R × gm_H} {lv : List Value} {x : Int64} : gm_Go E d 133 14 lv (.long x :: st) h r ↔ gm_Go E d 133 15 lv (.int (x.toInt32) :: st) h r := gr_pure m133 f133_14 rfl
theorem f133_15 : gm_ft 133 15 = some (.goto 9, 3) := by decide +kernel
theorem r133_15 {E : Nat → Value} {d : Nat} {st : List Value} {h : gm_H} {r : gm_R × gm_H} {lv : List Value} : gm_Go E d 133 15 lv st h r ↔ gm_Go E d 133 24 lv st h r := gr_brT m133 f133_15 rfl rfl rfl rfl
theorem f133_18 : gm_ft 133 18 = some (.aload_n 0, 1) := by decide +kernel
theorem r133_18 {E : Nat → Value} {d : Nat} {st : List Value} {h : gm_H} {r : gm_R × gm_H} {a1 : Value} {x : Nat} : gm_Go E d 133 18 [.ref x, a1] st h r ↔ gm_Go E d 133 19 [.ref x, a1] (.ref x :: st) h r := gr_loc m133 f133_18 rfl rfl
theorem r133_18n {E : Nat → Value} {d : Nat} {st : List Value} {h : gm_H} {r : gm_R × gm_H} {a1 : Value}  : gm_Go E d 133 18 [.null, a1] st h r ↔ gm_Go E d 133 19 [.null, a1] (.null :: st) h r := gr_loc m133 f133_18 rfl rfl
theorem f133_19 : gm_ft 133 19 = some (.iconst 4, 1) := by decide +kernel
theorem r133_19 {E : Nat → Value} {d : Nat} {st : List Value} {h : gm_H} {r : gm_R × gm_H} {lv : List Value} : gm_Go E d 133 19 lv st h r ↔ gm_Go E d 133 20 lv (.int (4 : Int32) :: st) h r := gr_pure m133 f133_19 rfl
theorem f133_20 : gm_ft 133 20 = some (.invokevirtual 159, 3) := by decide +kernel
theorem n133_20 {st : List Value} {h : gm_H} {E : Nat → Value} {lv : List Value} {b0 : Value} {a : Nat} (hs : (st.map fun v => v.category).sum ≤ 8) (he : (gm_en1 [.ref a, b0]).length ≤ 5) {vs : List Value} (hr : gm_rd h a = some (5, vs)) : gm_next E 133 20 lv (b0 :: .ref a :: st) h = some (.inr (.inl (0, 107, [.ref a, b0], st))) := gn_call m133 f133_20 rfl rfl rfl rfl rfl rfl rfl (gc_virt (bs := [b0]) (w := 880) rfl rfl rfl rfl hs he hr) (by decide)
theorem f133_23 : gm_ft 133 23 = some (.l2i, 1) := by decide +kernel
theorem r133_23 {E : Nat → Value} {d : Nat} {st : List Value} {h : gm_H} {r : gm_R × gm_H} {lv : List Value} {x : Int64} : gm_Go E d 133 23 lv (.long x :: st) h r ↔ gm_Go E d 133 24 lv (.int (x.toInt32) :: st) h r := gr_pure m133 f133_23 rfl
theorem f133_24 : gm_ft 133 24 = some (.istore_n 1, 1) := by decide +kernel
theorem r133_24 {E : Nat → Value} {d : Nat} {st : List Value} {h : gm_H} {r : gm_R × gm_H} {a0 a1 : Value} {x : Int32} : gm_Go E d 133 24 [a0, a1] (.int x :: st) h r ↔ gm_Go E d 133 25 [gm_k a0, .int x] st h r := gr_loc m133 f133_24 rfl rfl
theorem f133_25 : gm_ft 133 25 = some (.aload_n 0, 1) := by decide +kernel
theorem r133_25 {E : Nat → Value} {d : Nat} {st : List Value} {h : gm_H} {r : gm_R × gm_H} {a1 : Value} {x : Nat} : gm_Go E d 133 25 [.ref x, a1] st h r ↔ gm_Go E d 133 26 [.ref x, a1] (.ref x :: st) h r := gr_loc m133 f133_25 rfl rfl
theorem r133_25n {E : Nat → Value} {d : Nat} {st : List Value} {h : gm_H} {r : gm_R × gm_H} {a1 : Value}  : gm_Go E d 133 25 [.null, a1] st h r ↔ gm_Go E d 133 26 [.null, a1] (.null :: st) h r := gr_loc m133 f133_25 rfl rfl
theorem f133_26 : gm_ft 133 26 = some (.getfield 145, 3) := by decide +kernel
theorem r133_26 {E : Nat → Value} {d : Nat} {st : List Value} {h : gm_H} {r : gm_R × gm_H} {lv : List Value} {a : Nat} {vs : List Value} {v : Value} (hr : gm_rd h a = some (5, vs)) (hv : vs[8]? = some v) : gm_Go E d 133 26 lv (.ref a :: st) h r ↔ gm_Go E d 133 29 lv (v :: st) h r := gr_rd m133 f133_26 rfl rfl rfl rfl (gf_get k5_145 hr hv)
theorem f133_29 : gm_ft 133 29 = some (.ifCond .ne 13, 3) := by decide +kernel
theorem r133_29 {E : Nat → Value} {d : Nat} {st : List Value} {h : gm_H} {r : gm_R × gm_H} {lv : List Value} {x : Int32} : gm_Go E d 133 29 lv (.int x :: st) h r ↔ (if x = 0 then gm_Go E d 133 32 lv st h r else gm_Go E d 133 42 lv st h r) := (gr_br m133 f133_29 rfl rfl rfl rfl).trans gr_ifn
theorem f133_32 : gm_ft 133 32 = some (.iload_n 1, 1) := by decide +kernel
theorem r133_32 {E : Nat → Value} {d : Nat} {st : List Value} {h : gm_H} {r : gm_R × gm_H} {a0 : Value} {x : Int32} : gm_Go E d 133 32 [a0, .int x] st h r ↔ gm_Go E d 133 33 [a0, .int x] (.int x :: st) h r := gr_loc m133 f133_32 rfl rfl
theorem f133_33 : gm_ft 133 33 = some (.ifCond .ge 9, 3) := by decide +kernel
theorem r133_33 {E : Nat → Value} {d : Nat} {st : List Value} {h : gm_H} {r : gm_R × gm_H} {lv : List Value} {x : Int32} : gm_Go E d 133 33 lv (.int x :: st) h r ↔ (if 0 ≤ x then gm_Go E d 133 42 lv st h r else gm_Go E d 133 36 lv st h r) := (gr_br m133 f133_33 rfl rfl rfl rfl).trans gr_if
theorem f133_36 : gm_ft 133 36 = some (.aload_n 0, 1) := by decide +kernel
theorem r133_36 {E : Nat → Value} {d : Nat} {st : List Value} {h : gm_H} {r : gm_R × gm_H} {a1 : Value} {x : Nat} : gm_Go E d 133 36 [.ref x, a1] st h r ↔ gm_Go E d 133 37 [.ref x, a1] (.ref x :: st) h r := gr_loc m133 f133_36 rfl rfl
theorem r133_36n {E : Nat → Value} {d : Nat} {st : List Value} {h : gm_H} {r : gm_R × gm_H} {a1 : Value}  : gm_Go E d 133 36 [.null, a1] st h r ↔ gm_Go E d 133 37 [.null, a1] (.null :: st) h r := gr_loc m133 f133_36 rfl rfl
theorem f133_37 : gm_ft 133 37 = some (.bipush (-4), 2) := by decide +kernel
theorem r133_37 {E : Nat → Value} {d : Nat} {st : List Value} {h : gm_H} {r : gm_R × gm_H} {lv : List Value} : gm_Go E d 133 37 lv st h r ↔ gm_Go E d 133 39 lv (.int (-4 : Int32) :: st) h r := gr_pure m133 f133_37 rfl
theorem f133_39 : gm_ft 133 39 = some (.invokevirtual 151, 3) := by decide +kernel
theorem n133_39 {st : List Value} {h : gm_H} {E : Nat → Value} {lv : List Value} {b0 : Value} {a : Nat} (hs : (st.map fun v => v.category).sum ≤ 8) (he : (gm_en1 [.ref a, b0]).length ≤ 2) {vs : List Value} (hr : gm_rd h a = some (5, vs)) : gm_next E 133 39 lv (b0 :: .ref a :: st) h = some (.inr (.inl (0, 98, [.ref a, b0], st))) := gn_call m133 f133_39 rfl rfl rfl rfl rfl rfl rfl (gc_virt (bs := [b0]) (w := 844) rfl rfl rfl rfl hs he hr) (by decide)
theorem f133_42 : gm_ft 133 42 = some (.aload_n 0, 1) := by decide +kernel
theorem r133_42 {E : Nat → Value} {d : Nat} {st : List Value} {h : gm_H} {r : gm_R × gm_H} {a1 : Value} {x : Nat} : gm_Go E d 133 42 [.ref x, a1] st h r ↔ gm_Go E d 133 43 [.ref x, a1] (.ref x :: st) h r := gr_loc m133 f133_42 rfl rfl
theorem r133_42n {E : Nat → Value} {d : Nat} {st : List Value} {h : gm_H} {r : gm_R × gm_H} {a1 : Value}  : gm_Go E d 133 42 [.null, a1] st h r ↔ gm_Go E d 133 43 [.null, a1] (.null :: st) h r := gr_loc m133 f133_42 rfl rfl
theorem f133_43 : gm_ft 133 43 = some (.getfield 145, 3) := by decide +kernel
theorem r133_43 {E : Nat → Value} {d : Nat} {st : List Value} {h : gm_H} {r : gm_R × gm_H} {lv : List Value} {a : Nat} {vs : List Value} {v : Value} (hr : gm_rd h a = some (5, vs)) (hv : vs[8]? = some v) : gm_Go E d 133 43 lv (.ref a :: st) h r ↔ gm_Go E d 133 46 lv (v :: st) h r := gr_rd m133 f133_43 rfl rfl rfl rfl (gf_get k5_145 hr hv)
theorem f133_46 : gm_ft 133 46 = some (.ifCond .ne 22, 3) := by decide +kernel
theorem r133_46 {E : Nat → Value} {d : Nat} {st : List Value} {h : gm_H} {r : gm_R × gm_H} {lv : List Value} {x : Int32} : gm_Go E d 133 46 lv (.int x :: st) h r ↔ (if x = 0 then gm_Go E d 133 49 lv st h r else gm_Go E d 133 68 lv st h r) := (gr_br m133 f133_46 rfl rfl rfl rfl).trans gr_ifn
theorem f133_49 : gm_ft 133 49 = some (.iload_n 1, 1) := by decide +kernel
theorem r133_49 {E : Nat → Value} {d : Nat} {st : List Value} {h : gm_H} {r : gm_R × gm_H} {a0 : Value} {x : Int32} : gm_Go E d 133 49 [a0, .int x] st h r ↔ gm_Go E d 133 50 [a0, .int x] (.int x :: st) h r := gr_loc m133 f133_49 rfl rfl
theorem f133_50 : gm_ft 133 50 = some (.aload_n 0, 1) := by decide +kernel
theorem r133_50 {E : Nat → Value} {d : Nat} {st : List Value} {h : gm_H} {r : gm_R × gm_H} {a1 : Value} {x : Nat} : gm_Go E d 133 50 [.ref x, a1] st h r ↔ gm_Go E d 133 51 [.ref x, a1] (.ref x :: st) h r := gr_loc m133 f133_50 rfl rfl
theorem r133_50n {E : Nat → Value} {d : Nat} {st : List Value} {h : gm_H} {r : gm_R × gm_H} {a1 : Value}  : gm_Go E d 133 50 [.null, a1] st h r ↔ gm_Go E d 133 51 [.null, a1] (.null :: st) h r := gr_loc m133 f133_50 rfl rfl
theorem f133_51 : gm_ft 133 51 = some (.getfield 142, 3) := by decide +kernel
theorem r133_51 {E : Nat → Value} {d : Nat} {st : List Value} {h : gm_H} {r : gm_R × gm_H} {lv : List Value} {a : Nat} {vs : List Value} {v : Value} (hr : gm_rd h a = some (5, vs)) (hv : vs[5]? = some v) : gm_Go E d 133 51 lv (.ref a :: st) h r ↔ gm_Go E d 133 54 lv (v :: st) h r := gr_rd m133 f133_51 rfl rfl rfl rfl (gf_get k5_142 hr hv)
theorem f133_54 : gm_ft 133 54 = some (.aload_n 0, 1) := by decide +kernel
theorem r133_54 {E : Nat → Value} {d : Nat} {st : List Value} {h : gm_H} {r : gm_R × gm_H} {a1 : Value} {x : Nat} : gm_Go E d 133 54 [.ref x, a1] st h r ↔ gm_Go E d 133 55 [.ref x, a1] (.ref x :: st) h r := gr_loc m133 f133_54 rfl rfl
theorem r133_54n {E : Nat → Value} {d : Nat} {st : List Value} {h : gm_H} {r : gm_R × gm_H} {a1 : Value}  : gm_Go E d 133 54 [.null, a1] st h r ↔ gm_Go E d 133 55 [.null, a1] (.null :: st) h r := gr_loc m133 f133_54 rfl rfl
theorem f133_55 : gm_ft 133 55 = some (.getfield 148, 3) := by decide +kernel
theorem r133_55 {E : Nat → Value} {d : Nat} {st : List Value} {h : gm_H} {r : gm_R × gm_H} {lv : List Value} {a : Nat} {vs : List Value} {v : Value} (hr : gm_rd h a = some (5, vs)) (hv : vs[6]? = some v) : gm_Go E d 133 55 lv (.ref a :: st) h r ↔ gm_Go E d 133 58 lv (v :: st) h r := gr_rd m133 f133_55 rfl rfl rfl rfl (gf_get k5_148 hr hv)
theorem f133_58 : gm_ft 133 58 = some (.isub, 1) := by decide +kernel
theorem r133_58 {E : Nat → Value} {d : Nat} {st : List Value} {h : gm_H} {r : gm_R × gm_H} {lv : List Value} {x y : Int32} : gm_Go E d 133 58 lv (.int y :: .int x :: st) h r ↔ gm_Go E d 133 59 lv (.int (x - y) :: st) h r := gr_pure m133 f133_58 rfl
theorem f133_59 : gm_ft 133 59 = some (.if_icmp .le 9, 3) := by decide +kernel
theorem r133_59 {E : Nat → Value} {d : Nat} {st : List Value} {h : gm_H} {r : gm_R × gm_H} {lv : List Value} {x y : Int32} : gm_Go E d 133 59 lv (.int y :: .int x :: st) h r ↔ (if x ≤ y then gm_Go E d 133 68 lv st h r else gm_Go E d 133 62 lv st h r) := (gr_br m133 f133_59 rfl rfl rfl rfl).trans gr_if
theorem f133_62 : gm_ft 133 62 = some (.aload_n 0, 1) := by decide +kernel
theorem r133_62 {E : Nat → Value} {d : Nat} {st : List Value} {h : gm_H} {r : gm_R × gm_H} {a1 : Value} {x : Nat} : gm_Go E d 133 62 [.ref x, a1] st h r ↔ gm_Go E d 133 63 [.ref x, a1] (.ref x :: st) h r := gr_loc m133 f133_62 rfl rfl
theorem r133_62n {E : Nat → Value} {d : Nat} {st : List Value} {h : gm_H} {r : gm_R × gm_H} {a1 : Value}  : gm_Go E d 133 62 [.null, a1] st h r ↔ gm_Go E d 133 63 [.null, a1] (.null :: st) h r := gr_loc m133 f133_62 rfl rfl
theorem f133_63 : gm_ft 133 63 = some (.bipush (-3), 2) := by decide +kernel
theorem r133_63 {E : Nat → Value} {d : Nat} {st : List Value} {h : gm_H} {r : gm_R × gm_H} {lv : List Value} : gm_Go E d 133 63 lv st h r ↔ gm_Go E d 133 65 lv (.int (-3 : Int32) :: st) h r := gr_pure m133 f133_63 rfl
theorem f133_65 : gm_ft 133 65 = some (.invokevirtual 151, 3) := by decide +kernel
theorem n133_65 {st : List Value} {h : gm_H} {E : Nat → Value} {lv : List Value} {b0 : Value} {a : Nat} (hs : (st.map fun v => v.category).sum ≤ 8) (he : (gm_en1 [.ref a, b0]).length ≤ 2) {vs : List Value} (hr : gm_rd h a = some (5, vs)) : gm_next E 133 65 lv (b0 :: .ref a :: st) h = some (.inr (.inl (0, 98, [.ref a, b0], st))) := gn_call m133 f133_65 rfl rfl rfl rfl rfl rfl rfl (gc_virt (bs := [b0]) (w := 844) rfl rfl rfl rfl hs he hr) (by decide)
theorem f133_68 : gm_ft 133 68 = some (.aload_n 0, 1) := by decide +kernel
theorem r133_68 {E : Nat → Value} {d : Nat} {st : List Value} {h : gm_H} {r : gm_R × gm_H} {a1 : Value} {x : Nat} : gm_Go E d 133 68 [.ref x, a1] st h r ↔ gm_Go E d 133 69 [.ref x, a1] (.ref x :: st) h r := gr_loc m133 f133_68 rfl rfl
theorem r133_68n {E : Nat → Value} {d : Nat} {st : List Value} {h : gm_H} {r : gm_R × gm_H} {a1 : Value}  : gm_Go E d 133 68 [.null, a1] st h r ↔ gm_Go E d 133 69 [.null, a1] (.null :: st) h r := gr_loc m133 f133_68 rfl rfl
theorem f133_69 : gm_ft 133 69 = some (.getfield 145, 3) := by decide +kernel
theorem r133_69 {E : Nat → Value} {d : Nat} {st : List Value} {h : gm_H} {r : gm_R × gm_H} {lv : List Value} {a : Nat} {vs : List Value} {v : Value} (hr : gm_rd h a = some (5, vs)) (hv : vs[8]? = some v) : gm_Go E d 133 69 lv (.ref a :: st) h r ↔ gm_Go E d 133 72 lv (v :: st) h r := gr_rd m133 f133_69 rfl rfl rfl rfl (gf_get k5_145 hr hv)
theorem f133_72 : gm_ft 133 72 = some (.ifCond .ne 13, 3) := by decide +kernel
theorem r133_72 {E : Nat → Value} {d : Nat} {st : List Value} {h : gm_H} {r : gm_R × gm_H} {lv : List Value} {x : Int32} : gm_Go E d 133 72 lv (.int x :: st) h r ↔ (if x = 0 then gm_Go E d 133 75 lv st h r else gm_Go E d 133 85 lv st h r) := (gr_br m133 f133_72 rfl rfl rfl rfl).trans gr_ifn
theorem f133_75 : gm_ft 133 75 = some (.aload_n 0, 1) := by decide +kernel
theorem r133_75 {E : Nat → Value} {d : Nat} {st : List Value} {h : gm_H} {r : gm_R × gm_H} {a1 : Value} {x : Nat} : gm_Go E d 133 75 [.ref x, a1] st h r ↔ gm_Go E d 133 76 [.ref x, a1] (.ref x :: st) h r := gr_loc m133 f133_75 rfl rfl
theorem r133_75n {E : Nat → Value} {d : Nat} {st : List Value} {h : gm_H} {r : gm_R × gm_H} {a1 : Value}  : gm_Go E d 133 75 [.null, a1] st h r ↔ gm_Go E d 133 76 [.null, a1] (.null :: st) h r := gr_loc m133 f133_75 rfl rfl
theorem f133_76 : gm_ft 133 76 = some (.dup, 1) := by decide +kernel
theorem r133_76 {E : Nat → Value} {d : Nat} {st : List Value} {h : gm_H} {r : gm_R × gm_H} {lv : List Value} {a : Nat} : gm_Go E d 133 76 lv (.ref a :: st) h r ↔ gm_Go E d 133 77 lv (.ref a :: .ref a :: st) h r := gr_pure m133 f133_76 rfl
theorem r133_76i {E : Nat → Value} {d : Nat} {st : List Value} {h : gm_H} {r : gm_R × gm_H} {lv : List Value} {x : Int32} : gm_Go E d 133 76 lv (.int x :: st) h r ↔ gm_Go E d 133 77 lv (.int x :: .int x :: st) h r := gr_pure m133 f133_76 rfl
theorem f133_77 : gm_ft 133 77 = some (.getfield 148, 3) := by decide +kernel
theorem r133_77 {E : Nat → Value} {d : Nat} {st : List Value} {h : gm_H} {r : gm_R × gm_H} {lv : List Value} {a : Nat} {vs : List Value} {v : Value} (hr : gm_rd h a = some (5, vs)) (hv : vs[6]? = some v) : gm_Go E d 133 77 lv (.ref a :: st) h r ↔ gm_Go E d 133 80 lv (v :: st) h r := gr_rd m133 f133_77 rfl rfl rfl rfl (gf_get k5_148 hr hv)
theorem f133_80 : gm_ft 133 80 = some (.iload_n 1, 1) := by decide +kernel
theorem r133_80 {E : Nat → Value} {d : Nat} {st : List Value} {h : gm_H} {r : gm_R × gm_H} {a0 : Value} {x : Int32} : gm_Go E d 133 80 [a0, .int x] st h r ↔ gm_Go E d 133 81 [a0, .int x] (.int x :: st) h r := gr_loc m133 f133_80 rfl rfl
theorem f133_81 : gm_ft 133 81 = some (.iadd, 1) := by decide +kernel
theorem r133_81 {E : Nat → Value} {d : Nat} {st : List Value} {h : gm_H} {r : gm_R × gm_H} {lv : List Value} {x y : Int32} : gm_Go E d 133 81 lv (.int y :: .int x :: st) h r ↔ gm_Go E d 133 82 lv (.int (x + y) :: st) h r := gr_pure m133 f133_81 rfl
theorem f133_82 : gm_ft 133 82 = some (.putfield 148, 3) := by decide +kernel
theorem r133_82 {E : Nat → Value} {d : Nat} {st : List Value} {h : gm_H} {r : gm_R × gm_H} {lv : List Value} {a : Nat} {vs : List Value} {v : Value} (hr : gm_rd h a = some (5, vs)) (hk : 6 < vs.length) (hn : narrow (gm_ty 5 6) v = v ∧ fits (gm_ty 5 6) v = true) : gm_Go E d 133 82 lv (v :: .ref a :: st) h r ↔ gm_Go E d 133 85 lv st (gm_wr h a (5, vs.set 6 v)) r := gr_wr m133 f133_82 rfl rfl rfl rfl rfl (gf_put k5_148 hr (by decide) hk hn (by decide))
theorem f133_85 : gm_ft 133 85 = some (.iload_n 1, 1) := by decide +kernel
theorem r133_85 {E : Nat → Value} {d : Nat} {st : List Value} {h : gm_H} {r : gm_R × gm_H} {a0 : Value} {x : Int32} : gm_Go E d 133 85 [a0, .int x] st h r ↔ gm_Go E d 133 86 [a0, .int x] (.int x :: st) h r := gr_loc m133 f133_85 rfl rfl
theorem f133_86 : gm_ft 133 86 = some (.ireturn, 1) := by decide +kernel
theorem r133_86 {E : Nat → Value} {d : Nat} {h : gm_H} {r : gm_R × gm_H} {lv : List Value} {x : Int32} : gm_Go E d 133 86 lv [.int x] h r ↔ r = (.inl (some (.int x)), h) := gr_ret m133 f133_86 rfl rfl rfl rfl rfl rfl rfl rfl (by unfold gm_rt; dsimp only; rw [if_pos ⟨rfl, rfl⟩])
/-! GraphReaderModel.passBlock()I -/
theorem m134 : gm_mt[134]? = some (⟨"GraphReaderModel", "passBlock", "()I"⟩, prog_7_method_46_code, 3, (some .int), [], 5, 2) := rfl
theorem f134_0 : gm_ft 134 0 = some (.aload_n 0, 1) := by decide +kernel
theorem r134_0 {E : Nat → Value} {d : Nat} {st : List Value} {h : gm_H} {r : gm_R × gm_H} {a1 a2 : Value} {x : Nat} : gm_Go E d 134 0 [.ref x, a1, a2] st h r ↔ gm_Go E d 134 1 [.ref x, a1, a2] (.ref x :: st) h r := gr_loc m134 f134_0 rfl rfl
theorem r134_0n {E : Nat → Value} {d : Nat} {st : List Value} {h : gm_H} {r : gm_R × gm_H} {a1 a2 : Value}  : gm_Go E d 134 0 [.null, a1, a2] st h r ↔ gm_Go E d 134 1 [.null, a1, a2] (.null :: st) h r := gr_loc m134 f134_0 rfl rfl
theorem f134_1 : gm_ft 134 1 = some (.getfield 172, 3) := by decide +kernel
theorem r134_1 {E : Nat → Value} {d : Nat} {st : List Value} {h : gm_H} {r : gm_R × gm_H} {lv : List Value} {a : Nat} {vs : List Value} {v : Value} (hr : gm_rd h a = some (5, vs)) (hv : vs[7]? = some v) : gm_Go E d 134 1 lv (.ref a :: st) h r ↔ gm_Go E d 134 4 lv (v :: st) h r := gr_rd m134 f134_1 rfl rfl rfl rfl (gf_get k5_172 hr hv)
theorem f134_4 : gm_ft 134 4 = some (.ifCond .eq 8, 3) := by decide +kernel
theorem r134_4 {E : Nat → Value} {d : Nat} {st : List Value} {h : gm_H} {r : gm_R × gm_H} {lv : List Value} {x : Int32} : gm_Go E d 134 4 lv (.int x :: st) h r ↔ (if x = 0 then gm_Go E d 134 12 lv st h r else gm_Go E d 134 7 lv st h r) := (gr_br m134 f134_4 rfl rfl rfl rfl).trans gr_if
theorem f134_7 : gm_ft 134 7 = some (.aload_n 0, 1) := by decide +kernel
theorem r134_7 {E : Nat → Value} {d : Nat} {st : List Value} {h : gm_H} {r : gm_R × gm_H} {a1 a2 : Value} {x : Nat} : gm_Go E d 134 7 [.ref x, a1, a2] st h r ↔ gm_Go E d 134 8 [.ref x, a1, a2] (.ref x :: st) h r := gr_loc m134 f134_7 rfl rfl
theorem r134_7n {E : Nat → Value} {d : Nat} {st : List Value} {h : gm_H} {r : gm_R × gm_H} {a1 a2 : Value}  : gm_Go E d 134 7 [.null, a1, a2] st h r ↔ gm_Go E d 134 8 [.null, a1, a2] (.null :: st) h r := gr_loc m134 f134_7 rfl rfl
theorem f134_8 : gm_ft 134 8 = some (.getfield 172, 3) := by decide +kernel
theorem r134_8 {E : Nat → Value} {d : Nat} {st : List Value} {h : gm_H} {r : gm_R × gm_H} {lv : List Value} {a : Nat} {vs : List Value} {v : Value} (hr : gm_rd h a = some (5, vs)) (hv : vs[7]? = some v) : gm_Go E d 134 8 lv (.ref a :: st) h r ↔ gm_Go E d 134 11 lv (v :: st) h r := gr_rd m134 f134_8 rfl rfl rfl rfl (gf_get k5_172 hr hv)
theorem f134_11 : gm_ft 134 11 = some (.ireturn, 1) := by decide +kernel
theorem r134_11 {E : Nat → Value} {d : Nat} {h : gm_H} {r : gm_R × gm_H} {lv : List Value} {x : Int32} : gm_Go E d 134 11 lv [.int x] h r ↔ r = (.inl (some (.int x)), h) := gr_ret m134 f134_11 rfl rfl rfl rfl rfl rfl rfl rfl (by unfold gm_rt; dsimp only; rw [if_pos ⟨rfl, rfl⟩])
theorem f134_12 : gm_ft 134 12 = some (.aload_n 0, 1) := by decide +kernel
theorem r134_12 {E : Nat → Value} {d : Nat} {st : List Value} {h : gm_H} {r : gm_R × gm_H} {a1 a2 : Value} {x : Nat} : gm_Go E d 134 12 [.ref x, a1, a2] st h r ↔ gm_Go E d 134 13 [.ref x, a1, a2] (.ref x :: st) h r := gr_loc m134 f134_12 rfl rfl
theorem r134_12n {E : Nat → Value} {d : Nat} {st : List Value} {h : gm_H} {r : gm_R × gm_H} {a1 a2 : Value}  : gm_Go E d 134 12 [.null, a1, a2] st h r ↔ gm_Go E d 134 13 [.null, a1, a2] (.null :: st) h r := gr_loc m134 f134_12 rfl rfl
theorem f134_13 : gm_ft 134 13 = some (.getfield 148, 3) := by decide +kernel
theorem r134_13 {E : Nat → Value} {d : Nat} {st : List Value} {h : gm_H} {r : gm_R × gm_H} {lv : List Value} {a : Nat} {vs : List Value} {v : Value} (hr : gm_rd h a = some (5, vs)) (hv : vs[6]? = some v) : gm_Go E d 134 13 lv (.ref a :: st) h r ↔ gm_Go E d 134 16 lv (v :: st) h r := gr_rd m134 f134_13 rfl rfl rfl rfl (gf_get k5_148 hr hv)
theorem f134_16 : gm_ft 134 16 = some (.aload_n 0, 1) := by decide +kernel
theorem r134_16 {E : Nat → Value} {d : Nat} {st : List Value} {h : gm_H} {r : gm_R × gm_H} {a1 a2 : Value} {x : Nat} : gm_Go E d 134 16 [.ref x, a1, a2] st h r ↔ gm_Go E d 134 17 [.ref x, a1, a2] (.ref x :: st) h r := gr_loc m134 f134_16 rfl rfl
theorem r134_16n {E : Nat → Value} {d : Nat} {st : List Value} {h : gm_H} {r : gm_R × gm_H} {a1 a2 : Value}  : gm_Go E d 134 16 [.null, a1, a2] st h r ↔ gm_Go E d 134 17 [.null, a1, a2] (.null :: st) h r := gr_loc m134 f134_16 rfl rfl
theorem f134_17 : gm_ft 134 17 = some (.getfield 142, 3) := by decide +kernel
theorem r134_17 {E : Nat → Value} {d : Nat} {st : List Value} {h : gm_H} {r : gm_R × gm_H} {lv : List Value} {a : Nat} {vs : List Value} {v : Value} (hr : gm_rd h a = some (5, vs)) (hv : vs[5]? = some v) : gm_Go E d 134 17 lv (.ref a :: st) h r ↔ gm_Go E d 134 20 lv (v :: st) h r := gr_rd m134 f134_17 rfl rfl rfl rfl (gf_get k5_142 hr hv)
theorem f134_20 : gm_ft 134 20 = some (.if_icmp .ge 31, 3) := by decide +kernel
theorem r134_20 {E : Nat → Value} {d : Nat} {st : List Value} {h : gm_H} {r : gm_R × gm_H} {lv : List Value} {x y : Int32} : gm_Go E d 134 20 lv (.int y :: .int x :: st) h r ↔ (if y ≤ x then gm_Go E d 134 51 lv st h r else gm_Go E d 134 23 lv st h r) := (gr_br m134 f134_20 rfl rfl rfl rfl).trans gr_if
theorem f134_23 : gm_ft 134 23 = some (.aload_n 0, 1) := by decide +kernel
theorem r134_23 {E : Nat → Value} {d : Nat} {st : List Value} {h : gm_H} {r : gm_R × gm_H} {a1 a2 : Value} {x : Nat} : gm_Go E d 134 23 [.ref x, a1, a2] st h r ↔ gm_Go E d 134 24 [.ref x, a1, a2] (.ref x :: st) h r := gr_loc m134 f134_23 rfl rfl
theorem r134_23n {E : Nat → Value} {d : Nat} {st : List Value} {h : gm_H} {r : gm_R × gm_H} {a1 a2 : Value}  : gm_Go E d 134 23 [.null, a1, a2] st h r ↔ gm_Go E d 134 24 [.null, a1, a2] (.null :: st) h r := gr_loc m134 f134_23 rfl rfl
theorem f134_24 : gm_ft 134 24 = some (.getfield 7, 3) := by decide +kernel
theorem r134_24 {E : Nat → Value} {d : Nat} {st : List Value} {h : gm_H} {r : gm_R × gm_H} {lv : List Value} {a : Nat} {vs : List Value} {v : Value} (hr : gm_rd h a = some (5, vs)) (hv : vs[4]? = some v) : gm_Go E d 134 24 lv (.ref a :: st) h r ↔ gm_Go E d 134 27 lv (v :: st) h r := gr_rd m134 f134_24 rfl rfl rfl rfl (gf_get k5_7 hr hv)
theorem f134_27 : gm_ft 134 27 = some (.aload_n 0, 1) := by decide +kernel
theorem r134_27 {E : Nat → Value} {d : Nat} {st : List Value} {h : gm_H} {r : gm_R × gm_H} {a1 a2 : Value} {x : Nat} : gm_Go E d 134 27 [.ref x, a1, a2] st h r ↔ gm_Go E d 134 28 [.ref x, a1, a2] (.ref x :: st) h r := gr_loc m134 f134_27 rfl rfl
theorem r134_27n {E : Nat → Value} {d : Nat} {st : List Value} {h : gm_H} {r : gm_R × gm_H} {a1 a2 : Value}  : gm_Go E d 134 27 [.null, a1, a2] st h r ↔ gm_Go E d 134 28 [.null, a1, a2] (.null :: st) h r := gr_loc m134 f134_27 rfl rfl
theorem f134_28 : gm_ft 134 28 = some (.getfield 148, 3) := by decide +kernel
theorem r134_28 {E : Nat → Value} {d : Nat} {st : List Value} {h : gm_H} {r : gm_R × gm_H} {lv : List Value} {a : Nat} {vs : List Value} {v : Value} (hr : gm_rd h a = some (5, vs)) (hv : vs[6]? = some v) : gm_Go E d 134 28 lv (.ref a :: st) h r ↔ gm_Go E d 134 31 lv (v :: st) h r := gr_rd m134 f134_28 rfl rfl rfl rfl (gf_get k5_148 hr hv)
theorem f134_31 : gm_ft 134 31 = some (.iaload, 1) := by decide +kernel
theorem r134_31 {E : Nat → Value} {d : Nat} {st : List Value} {h : gm_H} {r : gm_R × gm_H} {lv : List Value} {a k j : Nat} {vs : List Value} {v : Value} (hr : gm_rd h a = some (k, vs)) (hk : 100 ≤ k ∧ (fun t => t == 0) (k % 100) = true) (hj : j < 2 ^ 31) (hv : vs[j]? = some v) : gm_Go E d 134 31 lv (.int (nI j) :: .ref a :: st) h r ↔ gm_Go E d 134 32 lv (v :: st) h r := gr_rd m134 f134_31 rfl rfl rfl rfl (ga_ld (P := fun t => t == 0) hr hk hj hv)
theorem f134_32 : gm_ft 134 32 = some (.bipush 119, 2) := by decide +kernel
theorem r134_32 {E : Nat → Value} {d : Nat} {st : List Value} {h : gm_H} {r : gm_R × gm_H} {lv : List Value} : gm_Go E d 134 32 lv st h r ↔ gm_Go E d 134 34 lv (.int (119 : Int32) :: st) h r := gr_pure m134 f134_32 rfl
theorem f134_34 : gm_ft 134 34 = some (.if_icmp .eq 19, 3) := by decide +kernel
theorem r134_34 {E : Nat → Value} {d : Nat} {st : List Value} {h : gm_H} {r : gm_R × gm_H} {lv : List Value} {x y : Int32} : gm_Go E d 134 34 lv (.int y :: .int x :: st) h r ↔ (if x = y then gm_Go E d 134 53 lv st h r else gm_Go E d 134 37 lv st h r) := (gr_br m134 f134_34 rfl rfl rfl rfl).trans gr_if
theorem f134_37 : gm_ft 134 37 = some (.aload_n 0, 1) := by decide +kernel
theorem r134_37 {E : Nat → Value} {d : Nat} {st : List Value} {h : gm_H} {r : gm_R × gm_H} {a1 a2 : Value} {x : Nat} : gm_Go E d 134 37 [.ref x, a1, a2] st h r ↔ gm_Go E d 134 38 [.ref x, a1, a2] (.ref x :: st) h r := gr_loc m134 f134_37 rfl rfl
theorem r134_37n {E : Nat → Value} {d : Nat} {st : List Value} {h : gm_H} {r : gm_R × gm_H} {a1 a2 : Value}  : gm_Go E d 134 37 [.null, a1, a2] st h r ↔ gm_Go E d 134 38 [.null, a1, a2] (.null :: st) h r := gr_loc m134 f134_37 rfl rfl
theorem f134_38 : gm_ft 134 38 = some (.getfield 7, 3) := by decide +kernel
theorem r134_38 {E : Nat → Value} {d : Nat} {st : List Value} {h : gm_H} {r : gm_R × gm_H} {lv : List Value} {a : Nat} {vs : List Value} {v : Value} (hr : gm_rd h a = some (5, vs)) (hv : vs[4]? = some v) : gm_Go E d 134 38 lv (.ref a :: st) h r ↔ gm_Go E d 134 41 lv (v :: st) h r := gr_rd m134 f134_38 rfl rfl rfl rfl (gf_get k5_7 hr hv)
theorem f134_41 : gm_ft 134 41 = some (.aload_n 0, 1) := by decide +kernel
theorem r134_41 {E : Nat → Value} {d : Nat} {st : List Value} {h : gm_H} {r : gm_R × gm_H} {a1 a2 : Value} {x : Nat} : gm_Go E d 134 41 [.ref x, a1, a2] st h r ↔ gm_Go E d 134 42 [.ref x, a1, a2] (.ref x :: st) h r := gr_loc m134 f134_41 rfl rfl
theorem r134_41n {E : Nat → Value} {d : Nat} {st : List Value} {h : gm_H} {r : gm_R × gm_H} {a1 a2 : Value}  : gm_Go E d 134 41 [.null, a1, a2] st h r ↔ gm_Go E d 134 42 [.null, a1, a2] (.null :: st) h r := gr_loc m134 f134_41 rfl rfl
theorem f134_42 : gm_ft 134 42 = some (.getfield 148, 3) := by decide +kernel
theorem r134_42 {E : Nat → Value} {d : Nat} {st : List Value} {h : gm_H} {r : gm_R × gm_H} {lv : List Value} {a : Nat} {vs : List Value} {v : Value} (hr : gm_rd h a = some (5, vs)) (hv : vs[6]? = some v) : gm_Go E d 134 42 lv (.ref a :: st) h r ↔ gm_Go E d 134 45 lv (v :: st) h r := gr_rd m134 f134_42 rfl rfl rfl rfl (gf_get k5_148 hr hv)
theorem f134_45 : gm_ft 134 45 = some (.iaload, 1) := by decide +kernel
theorem r134_45 {E : Nat → Value} {d : Nat} {st : List Value} {h : gm_H} {r : gm_R × gm_H} {lv : List Value} {a k j : Nat} {vs : List Value} {v : Value} (hr : gm_rd h a = some (k, vs)) (hk : 100 ≤ k ∧ (fun t => t == 0) (k % 100) = true) (hj : j < 2 ^ 31) (hv : vs[j]? = some v) : gm_Go E d 134 45 lv (.int (nI j) :: .ref a :: st) h r ↔ gm_Go E d 134 46 lv (v :: st) h r := gr_rd m134 f134_45 rfl rfl rfl rfl (ga_ld (P := fun t => t == 0) hr hk hj hv)
theorem f134_46 : gm_ft 134 46 = some (.bipush 122, 2) := by decide +kernel
theorem r134_46 {E : Nat → Value} {d : Nat} {st : List Value} {h : gm_H} {r : gm_R × gm_H} {lv : List Value} : gm_Go E d 134 46 lv st h r ↔ gm_Go E d 134 48 lv (.int (122 : Int32) :: st) h r := gr_pure m134 f134_46 rfl
theorem f134_48 : gm_ft 134 48 = some (.if_icmp .eq 5, 3) := by decide +kernel
theorem r134_48 {E : Nat → Value} {d : Nat} {st : List Value} {h : gm_H} {r : gm_R × gm_H} {lv : List Value} {x y : Int32} : gm_Go E d 134 48 lv (.int y :: .int x :: st) h r ↔ (if x = y then gm_Go E d 134 53 lv st h r else gm_Go E d 134 51 lv st h r) := (gr_br m134 f134_48 rfl rfl rfl rfl).trans gr_if
theorem f134_51 : gm_ft 134 51 = some (.iconst (-1), 1) := by decide +kernel
theorem r134_51 {E : Nat → Value} {d : Nat} {st : List Value} {h : gm_H} {r : gm_R × gm_H} {lv : List Value} : gm_Go E d 134 51 lv st h r ↔ gm_Go E d 134 52 lv (.int (-1 : Int32) :: st) h r := gr_pure m134 f134_51 rfl
theorem f134_52 : gm_ft 134 52 = some (.ireturn, 1) := by decide +kernel
theorem r134_52 {E : Nat → Value} {d : Nat} {h : gm_H} {r : gm_R × gm_H} {lv : List Value} {x : Int32} : gm_Go E d 134 52 lv [.int x] h r ↔ r = (.inl (some (.int x)), h) := gr_ret m134 f134_52 rfl rfl rfl rfl rfl rfl rfl rfl (by unfold gm_rt; dsimp only; rw [if_pos ⟨rfl, rfl⟩])
theorem f134_53 : gm_ft 134 53 = some (.aload_n 0, 1) := by decide +kernel
theorem r134_53 {E : Nat → Value} {d : Nat} {st : List Value} {h : gm_H} {r : gm_R × gm_H} {a1 a2 : Value} {x : Nat} : gm_Go E d 134 53 [.ref x, a1, a2] st h r ↔ gm_Go E d 134 54 [.ref x, a1, a2] (.ref x :: st) h r := gr_loc m134 f134_53 rfl rfl
theorem r134_53n {E : Nat → Value} {d : Nat} {st : List Value} {h : gm_H} {r : gm_R × gm_H} {a1 a2 : Value}  : gm_Go E d 134 53 [.null, a1, a2] st h r ↔ gm_Go E d 134 54 [.null, a1, a2] (.null :: st) h r := gr_loc m134 f134_53 rfl rfl
theorem f134_54 : gm_ft 134 54 = some (.getfield 148, 3) := by decide +kernel
theorem r134_54 {E : Nat → Value} {d : Nat} {st : List Value} {h : gm_H} {r : gm_R × gm_H} {lv : List Value} {a : Nat} {vs : List Value} {v : Value} (hr : gm_rd h a = some (5, vs)) (hv : vs[6]? = some v) : gm_Go E d 134 54 lv (.ref a :: st) h r ↔ gm_Go E d 134 57 lv (v :: st) h r := gr_rd m134 f134_54 rfl rfl rfl rfl (gf_get k5_148 hr hv)
theorem f134_57 : gm_ft 134 57 = some (.istore_n 1, 1) := by decide +kernel
theorem r134_57 {E : Nat → Value} {d : Nat} {st : List Value} {h : gm_H} {r : gm_R × gm_H} {a0 a1 a2 : Value} {x : Int32} : gm_Go E d 134 57 [a0, a1, a2] (.int x :: st) h r ↔ gm_Go E d 134 58 [gm_k a0, .int x, a2] st h r := gr_loc m134 f134_57 rfl rfl
theorem f134_58 : gm_ft 134 58 = some (.aload_n 0, 1) := by decide +kernel
theorem r134_58 {E : Nat → Value} {d : Nat} {st : List Value} {h : gm_H} {r : gm_R × gm_H} {a1 a2 : Value} {x : Nat} : gm_Go E d 134 58 [.ref x, a1, a2] st h r ↔ gm_Go E d 134 59 [.ref x, a1, a2] (.ref x :: st) h r := gr_loc m134 f134_58 rfl rfl
theorem r134_58n {E : Nat → Value} {d : Nat} {st : List Value} {h : gm_H} {r : gm_R × gm_H} {a1 a2 : Value}  : gm_Go E d 134 58 [.null, a1, a2] st h r ↔ gm_Go E d 134 59 [.null, a1, a2] (.null :: st) h r := gr_loc m134 f134_58 rfl rfl
theorem f134_59 : gm_ft 134 59 = some (.iconst 0, 1) := by decide +kernel
theorem r134_59 {E : Nat → Value} {d : Nat} {st : List Value} {h : gm_H} {r : gm_R × gm_H} {lv : List Value} : gm_Go E d 134 59 lv st h r ↔ gm_Go E d 134 60 lv (.int (0 : Int32) :: st) h r := gr_pure m134 f134_59 rfl
theorem f134_60 : gm_ft 134 60 = some (.putfield 145, 3) := by decide +kernel
theorem r134_60 {E : Nat → Value} {d : Nat} {st : List Value} {h : gm_H} {r : gm_R × gm_H} {lv : List Value} {a : Nat} {vs : List Value} {v : Value} (hr : gm_rd h a = some (5, vs)) (hk : 8 < vs.length) (hn : narrow (gm_ty 5 8) v = v ∧ fits (gm_ty 5 8) v = true) : gm_Go E d 134 60 lv (v :: .ref a :: st) h r ↔ gm_Go E d 134 63 lv st (gm_wr h a (5, vs.set 8 v)) r := gr_wr m134 f134_60 rfl rfl rfl rfl rfl (gf_put k5_145 hr (by decide) hk hn (by decide))
theorem f134_63 : gm_ft 134 63 = some (.aload_n 0, 1) := by decide +kernel
theorem r134_63 {E : Nat → Value} {d : Nat} {st : List Value} {h : gm_H} {r : gm_R × gm_H} {a1 a2 : Value} {x : Nat} : gm_Go E d 134 63 [.ref x, a1, a2] st h r ↔ gm_Go E d 134 64 [.ref x, a1, a2] (.ref x :: st) h r := gr_loc m134 f134_63 rfl rfl
theorem r134_63n {E : Nat → Value} {d : Nat} {st : List Value} {h : gm_H} {r : gm_R × gm_H} {a1 a2 : Value}  : gm_Go E d 134 63 [.null, a1, a2] st h r ↔ gm_Go E d 134 64 [.null, a1, a2] (.null :: st) h r := gr_loc m134 f134_63 rfl rfl
theorem f134_64 : gm_ft 134 64 = some (.invokevirtual 277, 3) := by decide +kernel
theorem n134_64 {st : List Value} {h : gm_H} {E : Nat → Value} {lv : List Value} {a : Nat} (hs : (st.map fun v => v.category).sum ≤ 8) (he : (gm_en1 [.ref a]).length ≤ 2) {vs : List Value} (hr : gm_rd h a = some (5, vs)) : gm_next E 134 64 lv (.ref a :: st) h = some (.inr (.inl (0, 133, [.ref a], st))) := gn_call m134 f134_64 rfl rfl rfl rfl rfl rfl rfl (gc_virt (bs := []) (w := 989) rfl rfl rfl rfl hs he hr) (by decide)
theorem f134_67 : gm_ft 134 67 = some (.istore_n 2, 1) := by decide +kernel
theorem r134_67 {E : Nat → Value} {d : Nat} {st : List Value} {h : gm_H} {r : gm_R × gm_H} {a0 a1 a2 : Value} {x : Int32} : gm_Go E d 134 67 [a0, a1, a2] (.int x :: st) h r ↔ gm_Go E d 134 68 [a0, gm_k a1, .int x] st h r := gr_loc m134 f134_67 rfl rfl
theorem f134_68 : gm_ft 134 68 = some (.aload_n 0, 1) := by decide +kernel
theorem r134_68 {E : Nat → Value} {d : Nat} {st : List Value} {h : gm_H} {r : gm_R × gm_H} {a1 a2 : Value} {x : Nat} : gm_Go E d 134 68 [.ref x, a1, a2] st h r ↔ gm_Go E d 134 69 [.ref x, a1, a2] (.ref x :: st) h r := gr_loc m134 f134_68 rfl rfl
theorem r134_68n {E : Nat → Value} {d : Nat} {st : List Value} {h : gm_H} {r : gm_R × gm_H} {a1 a2 : Value}  : gm_Go E d 134 68 [.null, a1, a2] st h r ↔ gm_Go E d 134 69 [.null, a1, a2] (.null :: st) h r := gr_loc m134 f134_68 rfl rfl
theorem f134_69 : gm_ft 134 69 = some (.getfield 145, 3) := by decide +kernel
theorem r134_69 {E : Nat → Value} {d : Nat} {st : List Value} {h : gm_H} {r : gm_R × gm_H} {lv : List Value} {a : Nat} {vs : List Value} {v : Value} (hr : gm_rd h a = some (5, vs)) (hv : vs[8]? = some v) : gm_Go E d 134 69 lv (.ref a :: st) h r ↔ gm_Go E d 134 72 lv (v :: st) h r := gr_rd m134 f134_69 rfl rfl rfl rfl (gf_get k5_145 hr hv)
theorem f134_72 : gm_ft 134 72 = some (.ifCond .ne 5, 3) := by decide +kernel
theorem r134_72 {E : Nat → Value} {d : Nat} {st : List Value} {h : gm_H} {r : gm_R × gm_H} {lv : List Value} {x : Int32} : gm_Go E d 134 72 lv (.int x :: st) h r ↔ (if x = 0 then gm_Go E d 134 75 lv st h r else gm_Go E d 134 77 lv st h r) := (gr_br m134 f134_72 rfl rfl rfl rfl).trans gr_ifn
theorem f134_75 : gm_ft 134 75 = some (.iload_n 2, 1) := by decide +kernel
theorem r134_75 {E : Nat → Value} {d : Nat} {st : List Value} {h : gm_H} {r : gm_R × gm_H} {a0 a1 : Value} {x : Int32} : gm_Go E d 134 75 [a0, a1, .int x] st h r ↔ gm_Go E d 134 76 [a0, a1, .int x] (.int x :: st) h r := gr_loc m134 f134_75 rfl rfl
theorem f134_76 : gm_ft 134 76 = some (.ireturn, 1) := by decide +kernel
theorem r134_76 {E : Nat → Value} {d : Nat} {h : gm_H} {r : gm_R × gm_H} {lv : List Value} {x : Int32} : gm_Go E d 134 76 lv [.int x] h r ↔ r = (.inl (some (.int x)), h) := gr_ret m134 f134_76 rfl rfl rfl rfl rfl rfl rfl rfl (by unfold gm_rt; dsimp only; rw [if_pos ⟨rfl, rfl⟩])
theorem f134_77 : gm_ft 134 77 = some (.aload_n 0, 1) := by decide +kernel
theorem r134_77 {E : Nat → Value} {d : Nat} {st : List Value} {h : gm_H} {r : gm_R × gm_H} {a1 a2 : Value} {x : Nat} : gm_Go E d 134 77 [.ref x, a1, a2] st h r ↔ gm_Go E d 134 78 [.ref x, a1, a2] (.ref x :: st) h r := gr_loc m134 f134_77 rfl rfl
theorem r134_77n {E : Nat → Value} {d : Nat} {st : List Value} {h : gm_H} {r : gm_R × gm_H} {a1 a2 : Value}  : gm_Go E d 134 77 [.null, a1, a2] st h r ↔ gm_Go E d 134 78 [.null, a1, a2] (.null :: st) h r := gr_loc m134 f134_77 rfl rfl
theorem f134_78 : gm_ft 134 78 = some (.iload_n 1, 1) := by decide +kernel
theorem r134_78 {E : Nat → Value} {d : Nat} {st : List Value} {h : gm_H} {r : gm_R × gm_H} {a0 a2 : Value} {x : Int32} : gm_Go E d 134 78 [a0, .int x, a2] st h r ↔ gm_Go E d 134 79 [a0, .int x, a2] (.int x :: st) h r := gr_loc m134 f134_78 rfl rfl
theorem f134_79 : gm_ft 134 79 = some (.putfield 148, 3) := by decide +kernel
theorem r134_79 {E : Nat → Value} {d : Nat} {st : List Value} {h : gm_H} {r : gm_R × gm_H} {lv : List Value} {a : Nat} {vs : List Value} {v : Value} (hr : gm_rd h a = some (5, vs)) (hk : 6 < vs.length) (hn : narrow (gm_ty 5 6) v = v ∧ fits (gm_ty 5 6) v = true) : gm_Go E d 134 79 lv (v :: .ref a :: st) h r ↔ gm_Go E d 134 82 lv st (gm_wr h a (5, vs.set 6 v)) r := gr_wr m134 f134_79 rfl rfl rfl rfl rfl (gf_put k5_148 hr (by decide) hk hn (by decide))
theorem f134_82 : gm_ft 134 82 = some (.aload_n 0, 1) := by decide +kernel
theorem r134_82 {E : Nat → Value} {d : Nat} {st : List Value} {h : gm_H} {r : gm_R × gm_H} {a1 a2 : Value} {x : Nat} : gm_Go E d 134 82 [.ref x, a1, a2] st h r ↔ gm_Go E d 134 83 [.ref x, a1, a2] (.ref x :: st) h r := gr_loc m134 f134_82 rfl rfl
theorem r134_82n {E : Nat → Value} {d : Nat} {st : List Value} {h : gm_H} {r : gm_R × gm_H} {a1 a2 : Value}  : gm_Go E d 134 82 [.null, a1, a2] st h r ↔ gm_Go E d 134 83 [.null, a1, a2] (.null :: st) h r := gr_loc m134 f134_82 rfl rfl
theorem f134_83 : gm_ft 134 83 = some (.aload_n 0, 1) := by decide +kernel
theorem r134_83 {E : Nat → Value} {d : Nat} {st : List Value} {h : gm_H} {r : gm_R × gm_H} {a1 a2 : Value} {x : Nat} : gm_Go E d 134 83 [.ref x, a1, a2] st h r ↔ gm_Go E d 134 84 [.ref x, a1, a2] (.ref x :: st) h r := gr_loc m134 f134_83 rfl rfl
theorem r134_83n {E : Nat → Value} {d : Nat} {st : List Value} {h : gm_H} {r : gm_R × gm_H} {a1 a2 : Value}  : gm_Go E d 134 83 [.null, a1, a2] st h r ↔ gm_Go E d 134 84 [.null, a1, a2] (.null :: st) h r := gr_loc m134 f134_83 rfl rfl
theorem f134_84 : gm_ft 134 84 = some (.getfield 145, 3) := by decide +kernel
theorem r134_84 {E : Nat → Value} {d : Nat} {st : List Value} {h : gm_H} {r : gm_R × gm_H} {lv : List Value} {a : Nat} {vs : List Value} {v : Value} (hr : gm_rd h a = some (5, vs)) (hv : vs[8]? = some v) : gm_Go E d 134 84 lv (.ref a :: st) h r ↔ gm_Go E d 134 87 lv (v :: st) h r := gr_rd m134 f134_84 rfl rfl rfl rfl (gf_get k5_145 hr hv)
theorem f134_87 : gm_ft 134 87 = some (.putfield 172, 3) := by decide +kernel
theorem r134_87 {E : Nat → Value} {d : Nat} {st : List Value} {h : gm_H} {r : gm_R × gm_H} {lv : List Value} {a : Nat} {vs : List Value} {v : Value} (hr : gm_rd h a = some (5, vs)) (hk : 7 < vs.length) (hn : narrow (gm_ty 5 7) v = v ∧ fits (gm_ty 5 7) v = true) : gm_Go E d 134 87 lv (v :: .ref a :: st) h r ↔ gm_Go E d 134 90 lv st (gm_wr h a (5, vs.set 7 v)) r := gr_wr m134 f134_87 rfl rfl rfl rfl rfl (gf_put k5_172 hr (by decide) hk hn (by decide))
theorem f134_90 : gm_ft 134 90 = some (.aload_n 0, 1) := by decide +kernel
theorem r134_90 {E : Nat → Value} {d : Nat} {st : List Value} {h : gm_H} {r : gm_R × gm_H} {a1 a2 : Value} {x : Nat} : gm_Go E d 134 90 [.ref x, a1, a2] st h r ↔ gm_Go E d 134 91 [.ref x, a1, a2] (.ref x :: st) h r := gr_loc m134 f134_90 rfl rfl
theorem r134_90n {E : Nat → Value} {d : Nat} {st : List Value} {h : gm_H} {r : gm_R × gm_H} {a1 a2 : Value}  : gm_Go E d 134 90 [.null, a1, a2] st h r ↔ gm_Go E d 134 91 [.null, a1, a2] (.null :: st) h r := gr_loc m134 f134_90 rfl rfl
theorem f134_91 : gm_ft 134 91 = some (.getfield 145, 3) := by decide +kernel
theorem r134_91 {E : Nat → Value} {d : Nat} {st : List Value} {h : gm_H} {r : gm_R × gm_H} {lv : List Value} {a : Nat} {vs : List Value} {v : Value} (hr : gm_rd h a = some (5, vs)) (hv : vs[8]? = some v) : gm_Go E d 134 91 lv (.ref a :: st) h r ↔ gm_Go E d 134 94 lv (v :: st) h r := gr_rd m134 f134_91 rfl rfl rfl rfl (gf_get k5_145 hr hv)
theorem f134_94 : gm_ft 134 94 = some (.ireturn, 1) := by decide +kernel
theorem r134_94 {E : Nat → Value} {d : Nat} {h : gm_H} {r : gm_R × gm_H} {lv : List Value} {x : Int32} : gm_Go E d 134 94 lv [.int x] h r ↔ r = (.inl (some (.int x)), h) := gr_ret m134 f134_94 rfl rfl rfl rfl rfl rfl rfl rfl (by unfold gm_rt; dsimp only; rw [if_pos ⟨rfl, rfl⟩])
/-! GraphReaderModel.object(II)I -/
theorem m135 : gm_mt[135]? = some (⟨"GraphReaderModel", "object", "(II)I"⟩, prog_7_method_47_code, 3, (some .int), [], 5, 2) := rfl
theorem f135_0 : gm_ft 135 0 = some (.aload_n 0, 1) := by decide +kernel
theorem r135_0 {E : Nat → Value} {d : Nat} {st : List Value} {h : gm_H} {r : gm_R × gm_H} {a1 a2 : Value} {x : Nat} : gm_Go E d 135 0 [.ref x, a1, a2] st h r ↔ gm_Go E d 135 1 [.ref x, a1, a2] (.ref x :: st) h r := gr_loc m135 f135_0 rfl rfl
theorem r135_0n {E : Nat → Value} {d : Nat} {st : List Value} {h : gm_H} {r : gm_R × gm_H} {a1 a2 : Value}  : gm_Go E d 135 0 [.null, a1, a2] st h r ↔ gm_Go E d 135 1 [.null, a1, a2] (.null :: st) h r := gr_loc m135 f135_0 rfl rfl
theorem f135_1 : gm_ft 135 1 = some (.iload_n 1, 1) := by decide +kernel
theorem r135_1 {E : Nat → Value} {d : Nat} {st : List Value} {h : gm_H} {r : gm_R × gm_H} {a0 a2 : Value} {x : Int32} : gm_Go E d 135 1 [a0, .int x, a2] st h r ↔ gm_Go E d 135 2 [a0, .int x, a2] (.int x :: st) h r := gr_loc m135 f135_1 rfl rfl
theorem f135_2 : gm_ft 135 2 = some (.aload_n 0, 1) := by decide +kernel
theorem r135_2 {E : Nat → Value} {d : Nat} {st : List Value} {h : gm_H} {r : gm_R × gm_H} {a1 a2 : Value} {x : Nat} : gm_Go E d 135 2 [.ref x, a1, a2] st h r ↔ gm_Go E d 135 3 [.ref x, a1, a2] (.ref x :: st) h r := gr_loc m135 f135_2 rfl rfl
theorem r135_2n {E : Nat → Value} {d : Nat} {st : List Value} {h : gm_H} {r : gm_R × gm_H} {a1 a2 : Value}  : gm_Go E d 135 2 [.null, a1, a2] st h r ↔ gm_Go E d 135 3 [.null, a1, a2] (.null :: st) h r := gr_loc m135 f135_2 rfl rfl
theorem f135_3 : gm_ft 135 3 = some (.getfield 139, 3) := by decide +kernel
theorem r135_3 {E : Nat → Value} {d : Nat} {st : List Value} {h : gm_H} {r : gm_R × gm_H} {lv : List Value} {a : Nat} {vs : List Value} {v : Value} (hr : gm_rd h a = some (5, vs)) (hv : vs[23]? = some v) : gm_Go E d 135 3 lv (.ref a :: st) h r ↔ gm_Go E d 135 6 lv (v :: st) h r := gr_rd m135 f135_3 rfl rfl rfl rfl (gf_get k5_139 hr hv)
theorem f135_6 : gm_ft 135 6 = some (.invokevirtual 131, 3) := by decide +kernel
theorem n135_6 {st : List Value} {h : gm_H} {E : Nat → Value} {lv : List Value} {b0 b1 : Value} {a : Nat} (hs : (st.map fun v => v.category).sum ≤ 8) (he : (gm_en1 [.ref a, b0, b1]).length ≤ 3) {vs : List Value} (hr : gm_rd h a = some (5, vs)) : gm_next E 135 6 lv (b1 :: b0 :: .ref a :: st) h = some (.inr (.inl (0, 92, [.ref a, b0, b1], st))) := gn_call m135 f135_6 rfl rfl rfl rfl rfl rfl rfl (gc_virt (bs := [b1, b0]) (w := 820) rfl rfl rfl rfl hs he hr) (by decide)
theorem f135_9 : gm_ft 135 9 = some (.ifCond .ne 12, 3) := by decide +kernel
theorem r135_9 {E : Nat → Value} {d : Nat} {st : List Value} {h : gm_H} {r : gm_R × gm_H} {lv : List Value} {x : Int32} : gm_Go E d 135 9 lv (.int x :: st) h r ↔ (if x = 0 then gm_Go E d 135 12 lv st h r else gm_Go E d 135 21 lv st h r) := (gr_br m135 f135_9 rfl rfl rfl rfl).trans gr_ifn
theorem f135_12 : gm_ft 135 12 = some (.aload_n 0, 1) := by decide +kernel
theorem r135_12 {E : Nat → Value} {d : Nat} {st : List Value} {h : gm_H} {r : gm_R × gm_H} {a1 a2 : Value} {x : Nat} : gm_Go E d 135 12 [.ref x, a1, a2] st h r ↔ gm_Go E d 135 13 [.ref x, a1, a2] (.ref x :: st) h r := gr_loc m135 f135_12 rfl rfl
theorem r135_12n {E : Nat → Value} {d : Nat} {st : List Value} {h : gm_H} {r : gm_R × gm_H} {a1 a2 : Value}  : gm_Go E d 135 12 [.null, a1, a2] st h r ↔ gm_Go E d 135 13 [.null, a1, a2] (.null :: st) h r := gr_loc m135 f135_12 rfl rfl
theorem f135_13 : gm_ft 135 13 = some (.iload_n 2, 1) := by decide +kernel
theorem r135_13 {E : Nat → Value} {d : Nat} {st : List Value} {h : gm_H} {r : gm_R × gm_H} {a0 a1 : Value} {x : Int32} : gm_Go E d 135 13 [a0, a1, .int x] st h r ↔ gm_Go E d 135 14 [a0, a1, .int x] (.int x :: st) h r := gr_loc m135 f135_13 rfl rfl
theorem f135_14 : gm_ft 135 14 = some (.iconst 4, 1) := by decide +kernel
theorem r135_14 {E : Nat → Value} {d : Nat} {st : List Value} {h : gm_H} {r : gm_R × gm_H} {lv : List Value} : gm_Go E d 135 14 lv st h r ↔ gm_Go E d 135 15 lv (.int (4 : Int32) :: st) h r := gr_pure m135 f135_14 rfl
theorem f135_15 : gm_ft 135 15 = some (.invokevirtual 131, 3) := by decide +kernel
theorem n135_15 {st : List Value} {h : gm_H} {E : Nat → Value} {lv : List Value} {b0 b1 : Value} {a : Nat} (hs : (st.map fun v => v.category).sum ≤ 8) (he : (gm_en1 [.ref a, b0, b1]).length ≤ 3) {vs : List Value} (hr : gm_rd h a = some (5, vs)) : gm_next E 135 15 lv (b1 :: b0 :: .ref a :: st) h = some (.inr (.inl (0, 92, [.ref a, b0, b1], st))) := gn_call m135 f135_15 rfl rfl rfl rfl rfl rfl rfl (gc_virt (bs := [b1, b0]) (w := 820) rfl rfl rfl rfl hs he hr) (by decide)
theorem f135_18 : gm_ft 135 18 = some (.ifCond .eq 5, 3) := by decide +kernel
theorem r135_18 {E : Nat → Value} {d : Nat} {st : List Value} {h : gm_H} {r : gm_R × gm_H} {lv : List Value} {x : Int32} : gm_Go E d 135 18 lv (.int x :: st) h r ↔ (if x = 0 then gm_Go E d 135 23 lv st h r else gm_Go E d 135 21 lv st h r) := (gr_br m135 f135_18 rfl rfl rfl rfl).trans gr_if
theorem f135_21 : gm_ft 135 21 = some (.iconst (-1), 1) := by decide +kernel
theorem r135_21 {E : Nat → Value} {d : Nat} {st : List Value} {h : gm_H} {r : gm_R × gm_H} {lv : List Value} : gm_Go E d 135 21 lv st h r ↔ gm_Go E d 135 22 lv (.int (-1 : Int32) :: st) h r := gr_pure m135 f135_21 rfl
theorem f135_22 : gm_ft 135 22 = some (.ireturn, 1) := by decide +kernel
theorem r135_22 {E : Nat → Value} {d : Nat} {h : gm_H} {r : gm_R × gm_H} {lv : List Value} {x : Int32} : gm_Go E d 135 22 lv [.int x] h r ↔ r = (.inl (some (.int x)), h) := gr_ret m135 f135_22 rfl rfl rfl rfl rfl rfl rfl rfl (by unfold gm_rt; dsimp only; rw [if_pos ⟨rfl, rfl⟩])
theorem f135_23 : gm_ft 135 23 = some (.iload_n 2, 1) := by decide +kernel
theorem r135_23 {E : Nat → Value} {d : Nat} {st : List Value} {h : gm_H} {r : gm_R × gm_H} {a0 a1 : Value} {x : Int32} : gm_Go E d 135 23 [a0, a1, .int x] st h r ↔ gm_Go E d 135 24 [a0, a1, .int x] (.int x :: st) h r := gr_loc m135 f135_23 rfl rfl
theorem f135_24 : gm_ft 135 24 = some (.ifCond .ne 10, 3) := by decide +kernel
theorem r135_24 {E : Nat → Value} {d : Nat} {st : List Value} {h : gm_H} {r : gm_R × gm_H} {lv : List Value} {x : Int32} : gm_Go E d 135 24 lv (.int x :: st) h r ↔ (if x = 0 then gm_Go E d 135 27 lv st h r else gm_Go E d 135 34 lv st h r) := (gr_br m135 f135_24 rfl rfl rfl rfl).trans gr_ifn
theorem f135_27 : gm_ft 135 27 = some (.aload_n 0, 1) := by decide +kernel
theorem r135_27 {E : Nat → Value} {d : Nat} {st : List Value} {h : gm_H} {r : gm_R × gm_H} {a1 a2 : Value} {x : Nat} : gm_Go E d 135 27 [.ref x, a1, a2] st h r ↔ gm_Go E d 135 28 [.ref x, a1, a2] (.ref x :: st) h r := gr_loc m135 f135_27 rfl rfl
theorem r135_27n {E : Nat → Value} {d : Nat} {st : List Value} {h : gm_H} {r : gm_R × gm_H} {a1 a2 : Value}  : gm_Go E d 135 27 [.null, a1, a2] st h r ↔ gm_Go E d 135 28 [.null, a1, a2] (.null :: st) h r := gr_loc m135 f135_27 rfl rfl
theorem f135_28 : gm_ft 135 28 = some (.getfield 39, 3) := by decide +kernel
theorem r135_28 {E : Nat → Value} {d : Nat} {st : List Value} {h : gm_H} {r : gm_R × gm_H} {lv : List Value} {a : Nat} {vs : List Value} {v : Value} (hr : gm_rd h a = some (5, vs)) (hv : vs[18]? = some v) : gm_Go E d 135 28 lv (.ref a :: st) h r ↔ gm_Go E d 135 31 lv (v :: st) h r := gr_rd m135 f135_28 rfl rfl rfl rfl (gf_get k5_39 hr hv)
theorem f135_31 : gm_ft 135 31 = some (.iload_n 1, 1) := by decide +kernel
theorem r135_31 {E : Nat → Value} {d : Nat} {st : List Value} {h : gm_H} {r : gm_R × gm_H} {a0 a2 : Value} {x : Int32} : gm_Go E d 135 31 [a0, .int x, a2] st h r ↔ gm_Go E d 135 32 [a0, .int x, a2] (.int x :: st) h r := gr_loc m135 f135_31 rfl rfl
theorem f135_32 : gm_ft 135 32 = some (.iaload, 1) := by decide +kernel
theorem r135_32 {E : Nat → Value} {d : Nat} {st : List Value} {h : gm_H} {r : gm_R × gm_H} {lv : List Value} {a k j : Nat} {vs : List Value} {v : Value} (hr : gm_rd h a = some (k, vs)) (hk : 100 ≤ k ∧ (fun t => t == 0) (k % 100) = true) (hj : j < 2 ^ 31) (hv : vs[j]? = some v) : gm_Go E d 135 32 lv (.int (nI j) :: .ref a :: st) h r ↔ gm_Go E d 135 33 lv (v :: st) h r := gr_rd m135 f135_32 rfl rfl rfl rfl (ga_ld (P := fun t => t == 0) hr hk hj hv)
theorem f135_33 : gm_ft 135 33 = some (.ireturn, 1) := by decide +kernel
theorem r135_33 {E : Nat → Value} {d : Nat} {h : gm_H} {r : gm_R × gm_H} {lv : List Value} {x : Int32} : gm_Go E d 135 33 lv [.int x] h r ↔ r = (.inl (some (.int x)), h) := gr_ret m135 f135_33 rfl rfl rfl rfl rfl rfl rfl rfl (by unfold gm_rt; dsimp only; rw [if_pos ⟨rfl, rfl⟩])
theorem f135_34 : gm_ft 135 34 = some (.iload_n 2, 1) := by decide +kernel
theorem r135_34 {E : Nat → Value} {d : Nat} {st : List Value} {h : gm_H} {r : gm_R × gm_H} {a0 a1 : Value} {x : Int32} : gm_Go E d 135 34 [a0, a1, .int x] st h r ↔ gm_Go E d 135 35 [a0, a1, .int x] (.int x :: st) h r := gr_loc m135 f135_34 rfl rfl
theorem f135_35 : gm_ft 135 35 = some (.iconst 1, 1) := by decide +kernel
theorem r135_35 {E : Nat → Value} {d : Nat} {st : List Value} {h : gm_H} {r : gm_R × gm_H} {lv : List Value} : gm_Go E d 135 35 lv st h r ↔ gm_Go E d 135 36 lv (.int (1 : Int32) :: st) h r := gr_pure m135 f135_35 rfl
theorem f135_36 : gm_ft 135 36 = some (.if_icmp .ne 23, 3) := by decide +kernel
theorem r135_36 {E : Nat → Value} {d : Nat} {st : List Value} {h : gm_H} {r : gm_R × gm_H} {lv : List Value} {x y : Int32} : gm_Go E d 135 36 lv (.int y :: .int x :: st) h r ↔ (if x = y then gm_Go E d 135 39 lv st h r else gm_Go E d 135 59 lv st h r) := (gr_br m135 f135_36 rfl rfl rfl rfl).trans gr_ifn
theorem f135_39 : gm_ft 135 39 = some (.aload_n 0, 1) := by decide +kernel
theorem r135_39 {E : Nat → Value} {d : Nat} {st : List Value} {h : gm_H} {r : gm_R × gm_H} {a1 a2 : Value} {x : Nat} : gm_Go E d 135 39 [.ref x, a1, a2] st h r ↔ gm_Go E d 135 40 [.ref x, a1, a2] (.ref x :: st) h r := gr_loc m135 f135_39 rfl rfl
theorem r135_39n {E : Nat → Value} {d : Nat} {st : List Value} {h : gm_H} {r : gm_R × gm_H} {a1 a2 : Value}  : gm_Go E d 135 39 [.null, a1, a2] st h r ↔ gm_Go E d 135 40 [.null, a1, a2] (.null :: st) h r := gr_loc m135 f135_39 rfl rfl
theorem f135_40 : gm_ft 135 40 = some (.getfield 42, 3) := by decide +kernel
theorem r135_40 {E : Nat → Value} {d : Nat} {st : List Value} {h : gm_H} {r : gm_R × gm_H} {lv : List Value} {a : Nat} {vs : List Value} {v : Value} (hr : gm_rd h a = some (5, vs)) (hv : vs[19]? = some v) : gm_Go E d 135 40 lv (.ref a :: st) h r ↔ gm_Go E d 135 43 lv (v :: st) h r := gr_rd m135 f135_40 rfl rfl rfl rfl (gf_get k5_42 hr hv)
theorem f135_43 : gm_ft 135 43 = some (.iload_n 1, 1) := by decide +kernel
theorem r135_43 {E : Nat → Value} {d : Nat} {st : List Value} {h : gm_H} {r : gm_R × gm_H} {a0 a2 : Value} {x : Int32} : gm_Go E d 135 43 [a0, .int x, a2] st h r ↔ gm_Go E d 135 44 [a0, .int x, a2] (.int x :: st) h r := gr_loc m135 f135_43 rfl rfl
theorem f135_44 : gm_ft 135 44 = some (.iaload, 1) := by decide +kernel
theorem r135_44 {E : Nat → Value} {d : Nat} {st : List Value} {h : gm_H} {r : gm_R × gm_H} {lv : List Value} {a k j : Nat} {vs : List Value} {v : Value} (hr : gm_rd h a = some (k, vs)) (hk : 100 ≤ k ∧ (fun t => t == 0) (k % 100) = true) (hj : j < 2 ^ 31) (hv : vs[j]? = some v) : gm_Go E d 135 44 lv (.int (nI j) :: .ref a :: st) h r ↔ gm_Go E d 135 45 lv (v :: st) h r := gr_rd m135 f135_44 rfl rfl rfl rfl (ga_ld (P := fun t => t == 0) hr hk hj hv)
theorem f135_45 : gm_ft 135 45 = some (.ifCond .ge 7, 3) := by decide +kernel
theorem r135_45 {E : Nat → Value} {d : Nat} {st : List Value} {h : gm_H} {r : gm_R × gm_H} {lv : List Value} {x : Int32} : gm_Go E d 135 45 lv (.int x :: st) h r ↔ (if 0 ≤ x then gm_Go E d 135 52 lv st h r else gm_Go E d 135 48 lv st h r) := (gr_br m135 f135_45 rfl rfl rfl rfl).trans gr_if
theorem f135_48 : gm_ft 135 48 = some (.iconst (-1), 1) := by decide +kernel
theorem r135_48 {E : Nat → Value} {d : Nat} {st : List Value} {h : gm_H} {r : gm_R × gm_H} {lv : List Value} : gm_Go E d 135 48 lv st h r ↔ gm_Go E d 135 49 lv (.int (-1 : Int32) :: st) h r := gr_pure m135 f135_48 rfl
theorem f135_49 : gm_ft 135 49 = some (.goto 9, 3) := by decide +kernel
theorem r135_49 {E : Nat → Value} {d : Nat} {st : List Value} {h : gm_H} {r : gm_R × gm_H} {lv : List Value} : gm_Go E d 135 49 lv st h r ↔ gm_Go E d 135 58 lv st h r := gr_brT m135 f135_49 rfl rfl rfl rfl
theorem f135_52 : gm_ft 135 52 = some (.aload_n 0, 1) := by decide +kernel
theorem r135_52 {E : Nat → Value} {d : Nat} {st : List Value} {h : gm_H} {r : gm_R × gm_H} {a1 a2 : Value} {x : Nat} : gm_Go E d 135 52 [.ref x, a1, a2] st h r ↔ gm_Go E d 135 53 [.ref x, a1, a2] (.ref x :: st) h r := gr_loc m135 f135_52 rfl rfl
theorem r135_52n {E : Nat → Value} {d : Nat} {st : List Value} {h : gm_H} {r : gm_R × gm_H} {a1 a2 : Value}  : gm_Go E d 135 52 [.null, a1, a2] st h r ↔ gm_Go E d 135 53 [.null, a1, a2] (.null :: st) h r := gr_loc m135 f135_52 rfl rfl
theorem f135_53 : gm_ft 135 53 = some (.getfield 42, 3) := by decide +kernel
theorem r135_53 {E : Nat → Value} {d : Nat} {st : List Value} {h : gm_H} {r : gm_R × gm_H} {lv : List Value} {a : Nat} {vs : List Value} {v : Value} (hr : gm_rd h a = some (5, vs)) (hv : vs[19]? = some v) : gm_Go E d 135 53 lv (.ref a :: st) h r ↔ gm_Go E d 135 56 lv (v :: st) h r := gr_rd m135 f135_53 rfl rfl rfl rfl (gf_get k5_42 hr hv)
theorem f135_56 : gm_ft 135 56 = some (.iload_n 1, 1) := by decide +kernel
theorem r135_56 {E : Nat → Value} {d : Nat} {st : List Value} {h : gm_H} {r : gm_R × gm_H} {a0 a2 : Value} {x : Int32} : gm_Go E d 135 56 [a0, .int x, a2] st h r ↔ gm_Go E d 135 57 [a0, .int x, a2] (.int x :: st) h r := gr_loc m135 f135_56 rfl rfl
theorem f135_57 : gm_ft 135 57 = some (.iaload, 1) := by decide +kernel
theorem r135_57 {E : Nat → Value} {d : Nat} {st : List Value} {h : gm_H} {r : gm_R × gm_H} {lv : List Value} {a k j : Nat} {vs : List Value} {v : Value} (hr : gm_rd h a = some (k, vs)) (hk : 100 ≤ k ∧ (fun t => t == 0) (k % 100) = true) (hj : j < 2 ^ 31) (hv : vs[j]? = some v) : gm_Go E d 135 57 lv (.int (nI j) :: .ref a :: st) h r ↔ gm_Go E d 135 58 lv (v :: st) h r := gr_rd m135 f135_57 rfl rfl rfl rfl (ga_ld (P := fun t => t == 0) hr hk hj hv)
theorem f135_58 : gm_ft 135 58 = some (.ireturn, 1) := by decide +kernel
theorem r135_58 {E : Nat → Value} {d : Nat} {h : gm_H} {r : gm_R × gm_H} {lv : List Value} {x : Int32} : gm_Go E d 135 58 lv [.int x] h r ↔ r = (.inl (some (.int x)), h) := gr_ret m135 f135_58 rfl rfl rfl rfl rfl rfl rfl rfl (by unfold gm_rt; dsimp only; rw [if_pos ⟨rfl, rfl⟩])
theorem f135_59 : gm_ft 135 59 = some (.iload_n 2, 1) := by decide +kernel
theorem r135_59 {E : Nat → Value} {d : Nat} {st : List Value} {h : gm_H} {r : gm_R × gm_H} {a0 a1 : Value} {x : Int32} : gm_Go E d 135 59 [a0, a1, .int x] st h r ↔ gm_Go E d 135 60 [a0, a1, .int x] (.int x :: st) h r := gr_loc m135 f135_59 rfl rfl
theorem f135_60 : gm_ft 135 60 = some (.iconst 2, 1) := by decide +kernel
theorem r135_60 {E : Nat → Value} {d : Nat} {st : List Value} {h : gm_H} {r : gm_R × gm_H} {lv : List Value} : gm_Go E d 135 60 lv st h r ↔ gm_Go E d 135 61 lv (.int (2 : Int32) :: st) h r := gr_pure m135 f135_60 rfl
theorem f135_61 : gm_ft 135 61 = some (.if_icmp .ne 12, 3) := by decide +kernel
theorem r135_61 {E : Nat → Value} {d : Nat} {st : List Value} {h : gm_H} {r : gm_R × gm_H} {lv : List Value} {x y : Int32} : gm_Go E d 135 61 lv (.int y :: .int x :: st) h r ↔ (if x = y then gm_Go E d 135 64 lv st h r else gm_Go E d 135 73 lv st h r) := (gr_br m135 f135_61 rfl rfl rfl rfl).trans gr_ifn
theorem f135_64 : gm_ft 135 64 = some (.aload_n 0, 1) := by decide +kernel
theorem r135_64 {E : Nat → Value} {d : Nat} {st : List Value} {h : gm_H} {r : gm_R × gm_H} {a1 a2 : Value} {x : Nat} : gm_Go E d 135 64 [.ref x, a1, a2] st h r ↔ gm_Go E d 135 65 [.ref x, a1, a2] (.ref x :: st) h r := gr_loc m135 f135_64 rfl rfl
theorem r135_64n {E : Nat → Value} {d : Nat} {st : List Value} {h : gm_H} {r : gm_R × gm_H} {a1 a2 : Value}  : gm_Go E d 135 64 [.null, a1, a2] st h r ↔ gm_Go E d 135 65 [.null, a1, a2] (.null :: st) h r := gr_loc m135 f135_64 rfl rfl
theorem f135_65 : gm_ft 135 65 = some (.getfield 45, 3) := by decide +kernel
theorem r135_65 {E : Nat → Value} {d : Nat} {st : List Value} {h : gm_H} {r : gm_R × gm_H} {lv : List Value} {a : Nat} {vs : List Value} {v : Value} (hr : gm_rd h a = some (5, vs)) (hv : vs[20]? = some v) : gm_Go E d 135 65 lv (.ref a :: st) h r ↔ gm_Go E d 135 68 lv (v :: st) h r := gr_rd m135 f135_65 rfl rfl rfl rfl (gf_get k5_45 hr hv)
theorem f135_68 : gm_ft 135 68 = some (.iload_n 1, 1) := by decide +kernel
theorem r135_68 {E : Nat → Value} {d : Nat} {st : List Value} {h : gm_H} {r : gm_R × gm_H} {a0 a2 : Value} {x : Int32} : gm_Go E d 135 68 [a0, .int x, a2] st h r ↔ gm_Go E d 135 69 [a0, .int x, a2] (.int x :: st) h r := gr_loc m135 f135_68 rfl rfl
theorem f135_69 : gm_ft 135 69 = some (.iaload, 1) := by decide +kernel
theorem r135_69 {E : Nat → Value} {d : Nat} {st : List Value} {h : gm_H} {r : gm_R × gm_H} {lv : List Value} {a k j : Nat} {vs : List Value} {v : Value} (hr : gm_rd h a = some (k, vs)) (hk : 100 ≤ k ∧ (fun t => t == 0) (k % 100) = true) (hj : j < 2 ^ 31) (hv : vs[j]? = some v) : gm_Go E d 135 69 lv (.int (nI j) :: .ref a :: st) h r ↔ gm_Go E d 135 70 lv (v :: st) h r := gr_rd m135 f135_69 rfl rfl rfl rfl (ga_ld (P := fun t => t == 0) hr hk hj hv)
theorem f135_70 : gm_ft 135 70 = some (.goto 9, 3) := by decide +kernel
theorem r135_70 {E : Nat → Value} {d : Nat} {st : List Value} {h : gm_H} {r : gm_R × gm_H} {lv : List Value} : gm_Go E d 135 70 lv st h r ↔ gm_Go E d 135 79 lv st h r := gr_brT m135 f135_70 rfl rfl rfl rfl
theorem f135_73 : gm_ft 135 73 = some (.aload_n 0, 1) := by decide +kernel
theorem r135_73 {E : Nat → Value} {d : Nat} {st : List Value} {h : gm_H} {r : gm_R × gm_H} {a1 a2 : Value} {x : Nat} : gm_Go E d 135 73 [.ref x, a1, a2] st h r ↔ gm_Go E d 135 74 [.ref x, a1, a2] (.ref x :: st) h r := gr_loc m135 f135_73 rfl rfl
theorem r135_73n {E : Nat → Value} {d : Nat} {st : List Value} {h : gm_H} {r : gm_R × gm_H} {a1 a2 : Value}  : gm_Go E d 135 73 [.null, a1, a2] st h r ↔ gm_Go E d 135 74 [.null, a1, a2] (.null :: st) h r := gr_loc m135 f135_73 rfl rfl
theorem f135_74 : gm_ft 135 74 = some (.getfield 51, 3) := by decide +kernel
theorem r135_74 {E : Nat → Value} {d : Nat} {st : List Value} {h : gm_H} {r : gm_R × gm_H} {lv : List Value} {a : Nat} {vs : List Value} {v : Value} (hr : gm_rd h a = some (5, vs)) (hv : vs[22]? = some v) : gm_Go E d 135 74 lv (.ref a :: st) h r ↔ gm_Go E d 135 77 lv (v :: st) h r := gr_rd m135 f135_74 rfl rfl rfl rfl (gf_get k5_51 hr hv)
theorem f135_77 : gm_ft 135 77 = some (.iload_n 1, 1) := by decide +kernel
theorem r135_77 {E : Nat → Value} {d : Nat} {st : List Value} {h : gm_H} {r : gm_R × gm_H} {a0 a2 : Value} {x : Int32} : gm_Go E d 135 77 [a0, .int x, a2] st h r ↔ gm_Go E d 135 78 [a0, .int x, a2] (.int x :: st) h r := gr_loc m135 f135_77 rfl rfl
theorem f135_78 : gm_ft 135 78 = some (.iaload, 1) := by decide +kernel
theorem r135_78 {E : Nat → Value} {d : Nat} {st : List Value} {h : gm_H} {r : gm_R × gm_H} {lv : List Value} {a k j : Nat} {vs : List Value} {v : Value} (hr : gm_rd h a = some (k, vs)) (hk : 100 ≤ k ∧ (fun t => t == 0) (k % 100) = true) (hj : j < 2 ^ 31) (hv : vs[j]? = some v) : gm_Go E d 135 78 lv (.int (nI j) :: .ref a :: st) h r ↔ gm_Go E d 135 79 lv (v :: st) h r := gr_rd m135 f135_78 rfl rfl rfl rfl (ga_ld (P := fun t => t == 0) hr hk hj hv)
theorem f135_79 : gm_ft 135 79 = some (.ireturn, 1) := by decide +kernel
theorem r135_79 {E : Nat → Value} {d : Nat} {h : gm_H} {r : gm_R × gm_H} {lv : List Value} {x : Int32} : gm_Go E d 135 79 lv [.int x] h r ↔ r = (.inl (some (.int x)), h) := gr_ret m135 f135_79 rfl rfl rfl rfl rfl rfl rfl rfl (by unfold gm_rt; dsimp only; rw [if_pos ⟨rfl, rfl⟩])
/-! GraphReaderModel.value(II)J -/
theorem m136 : gm_mt[136]? = some (⟨"GraphReaderModel", "value", "(II)J"⟩, prog_7_method_48_code, 6, (some .long), [], 5, 2) := rfl
theorem f136_0 : gm_ft 136 0 = some (.aload_n 0, 1) := by decide +kernel
theorem r136_0 {E : Nat → Value} {d : Nat} {st : List Value} {h : gm_H} {r : gm_R × gm_H} {a1 a2 a3 a4 a5 : Value} {x : Nat} : gm_Go E d 136 0 [.ref x, a1, a2, a3, a4, a5] st h r ↔ gm_Go E d 136 1 [.ref x, a1, a2, a3, a4, a5] (.ref x :: st) h r := gr_loc m136 f136_0 rfl rfl
theorem r136_0n {E : Nat → Value} {d : Nat} {st : List Value} {h : gm_H} {r : gm_R × gm_H} {a1 a2 a3 a4 a5 : Value}  : gm_Go E d 136 0 [.null, a1, a2, a3, a4, a5] st h r ↔ gm_Go E d 136 1 [.null, a1, a2, a3, a4, a5] (.null :: st) h r := gr_loc m136 f136_0 rfl rfl
theorem f136_1 : gm_ft 136 1 = some (.iload_n 1, 1) := by decide +kernel
theorem r136_1 {E : Nat → Value} {d : Nat} {st : List Value} {h : gm_H} {r : gm_R × gm_H} {a0 a2 a3 a4 a5 : Value} {x : Int32} : gm_Go E d 136 1 [a0, .int x, a2, a3, a4, a5] st h r ↔ gm_Go E d 136 2 [a0, .int x, a2, a3, a4, a5] (.int x :: st) h r := gr_loc m136 f136_1 rfl rfl
theorem f136_2 : gm_ft 136 2 = some (.aload_n 0, 1) := by decide +kernel
theorem r136_2 {E : Nat → Value} {d : Nat} {st : List Value} {h : gm_H} {r : gm_R × gm_H} {a1 a2 a3 a4 a5 : Value} {x : Nat} : gm_Go E d 136 2 [.ref x, a1, a2, a3, a4, a5] st h r ↔ gm_Go E d 136 3 [.ref x, a1, a2, a3, a4, a5] (.ref x :: st) h r := gr_loc m136 f136_2 rfl rfl
theorem r136_2n {E : Nat → Value} {d : Nat} {st : List Value} {h : gm_H} {r : gm_R × gm_H} {a1 a2 a3 a4 a5 : Value}  : gm_Go E d 136 2 [.null, a1, a2, a3, a4, a5] st h r ↔ gm_Go E d 136 3 [.null, a1, a2, a3, a4, a5] (.null :: st) h r := gr_loc m136 f136_2 rfl rfl
theorem f136_3 : gm_ft 136 3 = some (.getfield 139, 3) := by decide +kernel
theorem r136_3 {E : Nat → Value} {d : Nat} {st : List Value} {h : gm_H} {r : gm_R × gm_H} {lv : List Value} {a : Nat} {vs : List Value} {v : Value} (hr : gm_rd h a = some (5, vs)) (hv : vs[23]? = some v) : gm_Go E d 136 3 lv (.ref a :: st) h r ↔ gm_Go E d 136 6 lv (v :: st) h r := gr_rd m136 f136_3 rfl rfl rfl rfl (gf_get k5_139 hr hv)
theorem f136_6 : gm_ft 136 6 = some (.invokevirtual 131, 3) := by decide +kernel
theorem n136_6 {st : List Value} {h : gm_H} {E : Nat → Value} {lv : List Value} {b0 b1 : Value} {a : Nat} (hs : (st.map fun v => v.category).sum ≤ 8) (he : (gm_en1 [.ref a, b0, b1]).length ≤ 3) {vs : List Value} (hr : gm_rd h a = some (5, vs)) : gm_next E 136 6 lv (b1 :: b0 :: .ref a :: st) h = some (.inr (.inl (0, 92, [.ref a, b0, b1], st))) := gn_call m136 f136_6 rfl rfl rfl rfl rfl rfl rfl (gc_virt (bs := [b1, b0]) (w := 820) rfl rfl rfl rfl hs he hr) (by decide)
theorem f136_9 : gm_ft 136 9 = some (.ifCond .ne 27, 3) := by decide +kernel
theorem r136_9 {E : Nat → Value} {d : Nat} {st : List Value} {h : gm_H} {r : gm_R × gm_H} {lv : List Value} {x : Int32} : gm_Go E d 136 9 lv (.int x :: st) h r ↔ (if x = 0 then gm_Go E d 136 12 lv st h r else gm_Go E d 136 36 lv st h r) := (gr_br m136 f136_9 rfl rfl rfl rfl).trans gr_ifn
theorem f136_12 : gm_ft 136 12 = some (.aload_n 0, 1) := by decide +kernel
theorem r136_12 {E : Nat → Value} {d : Nat} {st : List Value} {h : gm_H} {r : gm_R × gm_H} {a1 a2 a3 a4 a5 : Value} {x : Nat} : gm_Go E d 136 12 [.ref x, a1, a2, a3, a4, a5] st h r ↔ gm_Go E d 136 13 [.ref x, a1, a2, a3, a4, a5] (.ref x :: st) h r := gr_loc m136 f136_12 rfl rfl
theorem r136_12n {E : Nat → Value} {d : Nat} {st : List Value} {h : gm_H} {r : gm_R × gm_H} {a1 a2 a3 a4 a5 : Value}  : gm_Go E d 136 12 [.null, a1, a2, a3, a4, a5] st h r ↔ gm_Go E d 136 13 [.null, a1, a2, a3, a4, a5] (.null :: st) h r := gr_loc m136 f136_12 rfl rfl
theorem f136_13 : gm_ft 136 13 = some (.getfield 39, 3) := by decide +kernel
theorem r136_13 {E : Nat → Value} {d : Nat} {st : List Value} {h : gm_H} {r : gm_R × gm_H} {lv : List Value} {a : Nat} {vs : List Value} {v : Value} (hr : gm_rd h a = some (5, vs)) (hv : vs[18]? = some v) : gm_Go E d 136 13 lv (.ref a :: st) h r ↔ gm_Go E d 136 16 lv (v :: st) h r := gr_rd m136 f136_13 rfl rfl rfl rfl (gf_get k5_39 hr hv)
theorem f136_16 : gm_ft 136 16 = some (.iload_n 1, 1) := by decide +kernel
theorem r136_16 {E : Nat → Value} {d : Nat} {st : List Value} {h : gm_H} {r : gm_R × gm_H} {a0 a2 a3 a4 a5 : Value} {x : Int32} : gm_Go E d 136 16 [a0, .int x, a2, a3, a4, a5] st h r ↔ gm_Go E d 136 17 [a0, .int x, a2, a3, a4, a5] (.int x :: st) h r := gr_loc m136 f136_16 rfl rfl
theorem f136_17 : gm_ft 136 17 = some (.iaload, 1) := by decide +kernel
theorem r136_17 {E : Nat → Value} {d : Nat} {st : List Value} {h : gm_H} {r : gm_R × gm_H} {lv : List Value} {a k j : Nat} {vs : List Value} {v : Value} (hr : gm_rd h a = some (k, vs)) (hk : 100 ≤ k ∧ (fun t => t == 0) (k % 100) = true) (hj : j < 2 ^ 31) (hv : vs[j]? = some v) : gm_Go E d 136 17 lv (.int (nI j) :: .ref a :: st) h r ↔ gm_Go E d 136 18 lv (v :: st) h r := gr_rd m136 f136_17 rfl rfl rfl rfl (ga_ld (P := fun t => t == 0) hr hk hj hv)
theorem f136_18 : gm_ft 136 18 = some (.iconst 4, 1) := by decide +kernel
theorem r136_18 {E : Nat → Value} {d : Nat} {st : List Value} {h : gm_H} {r : gm_R × gm_H} {lv : List Value} : gm_Go E d 136 18 lv st h r ↔ gm_Go E d 136 19 lv (.int (4 : Int32) :: st) h r := gr_pure m136 f136_18 rfl
theorem f136_19 : gm_ft 136 19 = some (.if_icmp .eq 17, 3) := by decide +kernel
theorem r136_19 {E : Nat → Value} {d : Nat} {st : List Value} {h : gm_H} {r : gm_R × gm_H} {lv : List Value} {x y : Int32} : gm_Go E d 136 19 lv (.int y :: .int x :: st) h r ↔ (if x = y then gm_Go E d 136 36 lv st h r else gm_Go E d 136 22 lv st h r) := (gr_br m136 f136_19 rfl rfl rfl rfl).trans gr_if
theorem f136_22 : gm_ft 136 22 = some (.aload_n 0, 1) := by decide +kernel
theorem r136_22 {E : Nat → Value} {d : Nat} {st : List Value} {h : gm_H} {r : gm_R × gm_H} {a1 a2 a3 a4 a5 : Value} {x : Nat} : gm_Go E d 136 22 [.ref x, a1, a2, a3, a4, a5] st h r ↔ gm_Go E d 136 23 [.ref x, a1, a2, a3, a4, a5] (.ref x :: st) h r := gr_loc m136 f136_22 rfl rfl
theorem r136_22n {E : Nat → Value} {d : Nat} {st : List Value} {h : gm_H} {r : gm_R × gm_H} {a1 a2 a3 a4 a5 : Value}  : gm_Go E d 136 22 [.null, a1, a2, a3, a4, a5] st h r ↔ gm_Go E d 136 23 [.null, a1, a2, a3, a4, a5] (.null :: st) h r := gr_loc m136 f136_22 rfl rfl
theorem f136_23 : gm_ft 136 23 = some (.iload_n 2, 1) := by decide +kernel
theorem r136_23 {E : Nat → Value} {d : Nat} {st : List Value} {h : gm_H} {r : gm_R × gm_H} {a0 a1 a3 a4 a5 : Value} {x : Int32} : gm_Go E d 136 23 [a0, a1, .int x, a3, a4, a5] st h r ↔ gm_Go E d 136 24 [a0, a1, .int x, a3, a4, a5] (.int x :: st) h r := gr_loc m136 f136_23 rfl rfl
theorem f136_24 : gm_ft 136 24 = some (.aload_n 0, 1) := by decide +kernel
theorem r136_24 {E : Nat → Value} {d : Nat} {st : List Value} {h : gm_H} {r : gm_R × gm_H} {a1 a2 a3 a4 a5 : Value} {x : Nat} : gm_Go E d 136 24 [.ref x, a1, a2, a3, a4, a5] st h r ↔ gm_Go E d 136 25 [.ref x, a1, a2, a3, a4, a5] (.ref x :: st) h r := gr_loc m136 f136_24 rfl rfl
theorem r136_24n {E : Nat → Value} {d : Nat} {st : List Value} {h : gm_H} {r : gm_R × gm_H} {a1 a2 a3 a4 a5 : Value}  : gm_Go E d 136 24 [.null, a1, a2, a3, a4, a5] st h r ↔ gm_Go E d 136 25 [.null, a1, a2, a3, a4, a5] (.null :: st) h r := gr_loc m136 f136_24 rfl rfl
theorem f136_25 : gm_ft 136 25 = some (.getfield 45, 3) := by decide +kernel
theorem r136_25 {E : Nat → Value} {d : Nat} {st : List Value} {h : gm_H} {r : gm_R × gm_H} {lv : List Value} {a : Nat} {vs : List Value} {v : Value} (hr : gm_rd h a = some (5, vs)) (hv : vs[20]? = some v) : gm_Go E d 136 25 lv (.ref a :: st) h r ↔ gm_Go E d 136 28 lv (v :: st) h r := gr_rd m136 f136_25 rfl rfl rfl rfl (gf_get k5_45 hr hv)
theorem f136_28 : gm_ft 136 28 = some (.iload_n 1, 1) := by decide +kernel
theorem r136_28 {E : Nat → Value} {d : Nat} {st : List Value} {h : gm_H} {r : gm_R × gm_H} {a0 a2 a3 a4 a5 : Value} {x : Int32} : gm_Go E d 136 28 [a0, .int x, a2, a3, a4, a5] st h r ↔ gm_Go E d 136 29 [a0, .int x, a2, a3, a4, a5] (.int x :: st) h r := gr_loc m136 f136_28 rfl rfl
theorem f136_29 : gm_ft 136 29 = some (.iaload, 1) := by decide +kernel
theorem r136_29 {E : Nat → Value} {d : Nat} {st : List Value} {h : gm_H} {r : gm_R × gm_H} {lv : List Value} {a k j : Nat} {vs : List Value} {v : Value} (hr : gm_rd h a = some (k, vs)) (hk : 100 ≤ k ∧ (fun t => t == 0) (k % 100) = true) (hj : j < 2 ^ 31) (hv : vs[j]? = some v) : gm_Go E d 136 29 lv (.int (nI j) :: .ref a :: st) h r ↔ gm_Go E d 136 30 lv (v :: st) h r := gr_rd m136 f136_29 rfl rfl rfl rfl (ga_ld (P := fun t => t == 0) hr hk hj hv)
theorem f136_30 : gm_ft 136 30 = some (.invokevirtual 131, 3) := by decide +kernel
theorem n136_30 {st : List Value} {h : gm_H} {E : Nat → Value} {lv : List Value} {b0 b1 : Value} {a : Nat} (hs : (st.map fun v => v.category).sum ≤ 8) (he : (gm_en1 [.ref a, b0, b1]).length ≤ 3) {vs : List Value} (hr : gm_rd h a = some (5, vs)) : gm_next E 136 30 lv (b1 :: b0 :: .ref a :: st) h = some (.inr (.inl (0, 92, [.ref a, b0, b1], st))) := gn_call m136 f136_30 rfl rfl rfl rfl rfl rfl rfl (gc_virt (bs := [b1, b0]) (w := 820) rfl rfl rfl rfl hs he hr) (by decide)
theorem f136_33 : gm_ft 136 33 = some (.ifCond .eq 7, 3) := by decide +kernel
theorem r136_33 {E : Nat → Value} {d : Nat} {st : List Value} {h : gm_H} {r : gm_R × gm_H} {lv : List Value} {x : Int32} : gm_Go E d 136 33 lv (.int x :: st) h r ↔ (if x = 0 then gm_Go E d 136 40 lv st h r else gm_Go E d 136 36 lv st h r) := (gr_br m136 f136_33 rfl rfl rfl rfl).trans gr_if
theorem f136_36 : gm_ft 136 36 = some (.ldc2_w 295, 3) := by decide +kernel
theorem r136_36 {E : Nat → Value} {d : Nat} {st : List Value} {h : gm_H} {r : gm_R × gm_H} {lv : List Value} : gm_Go E d 136 36 lv st h r ↔ gm_Go E d 136 39 lv (.long (-9000000000000000000 : Int64) :: st) h r := gr_rd m136 f136_36 rfl rfl rfl rfl rfl
theorem f136_39 : gm_ft 136 39 = some (.lreturn, 1) := by decide +kernel
theorem r136_39 {E : Nat → Value} {d : Nat} {h : gm_H} {r : gm_R × gm_H} {lv : List Value} {x : Int64} : gm_Go E d 136 39 lv [.long x] h r ↔ r = (.inl (some (.long x)), h) := gr_ret m136 f136_39 rfl rfl rfl rfl rfl rfl rfl rfl rfl
theorem f136_40 : gm_ft 136 40 = some (.aload_n 0, 1) := by decide +kernel
theorem r136_40 {E : Nat → Value} {d : Nat} {st : List Value} {h : gm_H} {r : gm_R × gm_H} {a1 a2 a3 a4 a5 : Value} {x : Nat} : gm_Go E d 136 40 [.ref x, a1, a2, a3, a4, a5] st h r ↔ gm_Go E d 136 41 [.ref x, a1, a2, a3, a4, a5] (.ref x :: st) h r := gr_loc m136 f136_40 rfl rfl
theorem r136_40n {E : Nat → Value} {d : Nat} {st : List Value} {h : gm_H} {r : gm_R × gm_H} {a1 a2 a3 a4 a5 : Value}  : gm_Go E d 136 40 [.null, a1, a2, a3, a4, a5] st h r ↔ gm_Go E d 136 41 [.null, a1, a2, a3, a4, a5] (.null :: st) h r := gr_loc m136 f136_40 rfl rfl
theorem f136_41 : gm_ft 136 41 = some (.getfield 48, 3) := by decide +kernel
theorem r136_41 {E : Nat → Value} {d : Nat} {st : List Value} {h : gm_H} {r : gm_R × gm_H} {lv : List Value} {a : Nat} {vs : List Value} {v : Value} (hr : gm_rd h a = some (5, vs)) (hv : vs[21]? = some v) : gm_Go E d 136 41 lv (.ref a :: st) h r ↔ gm_Go E d 136 44 lv (v :: st) h r := gr_rd m136 f136_41 rfl rfl rfl rfl (gf_get k5_48 hr hv)
theorem f136_44 : gm_ft 136 44 = some (.iload_n 1, 1) := by decide +kernel
theorem r136_44 {E : Nat → Value} {d : Nat} {st : List Value} {h : gm_H} {r : gm_R × gm_H} {a0 a2 a3 a4 a5 : Value} {x : Int32} : gm_Go E d 136 44 [a0, .int x, a2, a3, a4, a5] st h r ↔ gm_Go E d 136 45 [a0, .int x, a2, a3, a4, a5] (.int x :: st) h r := gr_loc m136 f136_44 rfl rfl
theorem f136_45 : gm_ft 136 45 = some (.iaload, 1) := by decide +kernel
theorem r136_45 {E : Nat → Value} {d : Nat} {st : List Value} {h : gm_H} {r : gm_R × gm_H} {lv : List Value} {a k j : Nat} {vs : List Value} {v : Value} (hr : gm_rd h a = some (k, vs)) (hk : 100 ≤ k ∧ (fun t => t == 0) (k % 100) = true) (hj : j < 2 ^ 31) (hv : vs[j]? = some v) : gm_Go E d 136 45 lv (.int (nI j) :: .ref a :: st) h r ↔ gm_Go E d 136 46 lv (v :: st) h r := gr_rd m136 f136_45 rfl rfl rfl rfl (ga_ld (P := fun t => t == 0) hr hk hj hv)
theorem f136_46 : gm_ft 136 46 = some (.istore_n 3, 1) := by decide +kernel
theorem r136_46 {E : Nat → Value} {d : Nat} {st : List Value} {h : gm_H} {r : gm_R × gm_H} {a0 a1 a2 a3 a4 a5 : Value} {x : Int32} : gm_Go E d 136 46 [a0, a1, a2, a3, a4, a5] (.int x :: st) h r ↔ gm_Go E d 136 47 [a0, a1, gm_k a2, .int x, a4, a5] st h r := gr_loc m136 f136_46 rfl rfl
theorem f136_47 : gm_ft 136 47 = some (.aload_n 0, 1) := by decide +kernel
theorem r136_47 {E : Nat → Value} {d : Nat} {st : List Value} {h : gm_H} {r : gm_R × gm_H} {a1 a2 a3 a4 a5 : Value} {x : Nat} : gm_Go E d 136 47 [.ref x, a1, a2, a3, a4, a5] st h r ↔ gm_Go E d 136 48 [.ref x, a1, a2, a3, a4, a5] (.ref x :: st) h r := gr_loc m136 f136_47 rfl rfl
theorem r136_47n {E : Nat → Value} {d : Nat} {st : List Value} {h : gm_H} {r : gm_R × gm_H} {a1 a2 a3 a4 a5 : Value}  : gm_Go E d 136 47 [.null, a1, a2, a3, a4, a5] st h r ↔ gm_Go E d 136 48 [.null, a1, a2, a3, a4, a5] (.null :: st) h r := gr_loc m136 f136_47 rfl rfl
theorem f136_48 : gm_ft 136 48 = some (.getfield 39, 3) := by decide +kernel
theorem r136_48 {E : Nat → Value} {d : Nat} {st : List Value} {h : gm_H} {r : gm_R × gm_H} {lv : List Value} {a : Nat} {vs : List Value} {v : Value} (hr : gm_rd h a = some (5, vs)) (hv : vs[18]? = some v) : gm_Go E d 136 48 lv (.ref a :: st) h r ↔ gm_Go E d 136 51 lv (v :: st) h r := gr_rd m136 f136_48 rfl rfl rfl rfl (gf_get k5_39 hr hv)
theorem f136_51 : gm_ft 136 51 = some (.iload_n 1, 1) := by decide +kernel
theorem r136_51 {E : Nat → Value} {d : Nat} {st : List Value} {h : gm_H} {r : gm_R × gm_H} {a0 a2 a3 a4 a5 : Value} {x : Int32} : gm_Go E d 136 51 [a0, .int x, a2, a3, a4, a5] st h r ↔ gm_Go E d 136 52 [a0, .int x, a2, a3, a4, a5] (.int x :: st) h r := gr_loc m136 f136_51 rfl rfl
theorem f136_52 : gm_ft 136 52 = some (.iaload, 1) := by decide +kernel
theorem r136_52 {E : Nat → Value} {d : Nat} {st : List Value} {h : gm_H} {r : gm_R × gm_H} {lv : List Value} {a k j : Nat} {vs : List Value} {v : Value} (hr : gm_rd h a = some (k, vs)) (hk : 100 ≤ k ∧ (fun t => t == 0) (k % 100) = true) (hj : j < 2 ^ 31) (hv : vs[j]? = some v) : gm_Go E d 136 52 lv (.int (nI j) :: .ref a :: st) h r ↔ gm_Go E d 136 53 lv (v :: st) h r := gr_rd m136 f136_52 rfl rfl rfl rfl (ga_ld (P := fun t => t == 0) hr hk hj hv)
theorem f136_53 : gm_ft 136 53 = some (.iconst 1, 1) := by decide +kernel
theorem r136_53 {E : Nat → Value} {d : Nat} {st : List Value} {h : gm_H} {r : gm_R × gm_H} {lv : List Value} : gm_Go E d 136 53 lv st h r ↔ gm_Go E d 136 54 lv (.int (1 : Int32) :: st) h r := gr_pure m136 f136_53 rfl
theorem f136_54 : gm_ft 136 54 = some (.if_icmp .ne 13, 3) := by decide +kernel
theorem r136_54 {E : Nat → Value} {d : Nat} {st : List Value} {h : gm_H} {r : gm_R × gm_H} {lv : List Value} {x y : Int32} : gm_Go E d 136 54 lv (.int y :: .int x :: st) h r ↔ (if x = y then gm_Go E d 136 57 lv st h r else gm_Go E d 136 67 lv st h r) := (gr_br m136 f136_54 rfl rfl rfl rfl).trans gr_ifn
theorem f136_57 : gm_ft 136 57 = some (.aload_n 0, 1) := by decide +kernel
theorem r136_57 {E : Nat → Value} {d : Nat} {st : List Value} {h : gm_H} {r : gm_R × gm_H} {a1 a2 a3 a4 a5 : Value} {x : Nat} : gm_Go E d 136 57 [.ref x, a1, a2, a3, a4, a5] st h r ↔ gm_Go E d 136 58 [.ref x, a1, a2, a3, a4, a5] (.ref x :: st) h r := gr_loc m136 f136_57 rfl rfl
theorem r136_57n {E : Nat → Value} {d : Nat} {st : List Value} {h : gm_H} {r : gm_R × gm_H} {a1 a2 a3 a4 a5 : Value}  : gm_Go E d 136 57 [.null, a1, a2, a3, a4, a5] st h r ↔ gm_Go E d 136 58 [.null, a1, a2, a3, a4, a5] (.null :: st) h r := gr_loc m136 f136_57 rfl rfl
theorem f136_58 : gm_ft 136 58 = some (.getfield 7, 3) := by decide +kernel
theorem r136_58 {E : Nat → Value} {d : Nat} {st : List Value} {h : gm_H} {r : gm_R × gm_H} {lv : List Value} {a : Nat} {vs : List Value} {v : Value} (hr : gm_rd h a = some (5, vs)) (hv : vs[4]? = some v) : gm_Go E d 136 58 lv (.ref a :: st) h r ↔ gm_Go E d 136 61 lv (v :: st) h r := gr_rd m136 f136_58 rfl rfl rfl rfl (gf_get k5_7 hr hv)
theorem f136_61 : gm_ft 136 61 = some (.iload_n 3, 1) := by decide +kernel
theorem r136_61 {E : Nat → Value} {d : Nat} {st : List Value} {h : gm_H} {r : gm_R × gm_H} {a0 a1 a2 a4 a5 : Value} {x : Int32} : gm_Go E d 136 61 [a0, a1, a2, .int x, a4, a5] st h r ↔ gm_Go E d 136 62 [a0, a1, a2, .int x, a4, a5] (.int x :: st) h r := gr_loc m136 f136_61 rfl rfl
theorem f136_62 : gm_ft 136 62 = some (.iload_n 2, 1) := by decide +kernel
theorem r136_62 {E : Nat → Value} {d : Nat} {st : List Value} {h : gm_H} {r : gm_R × gm_H} {a0 a1 a3 a4 a5 : Value} {x : Int32} : gm_Go E d 136 62 [a0, a1, .int x, a3, a4, a5] st h r ↔ gm_Go E d 136 63 [a0, a1, .int x, a3, a4, a5] (.int x :: st) h r := gr_loc m136 f136_62 rfl rfl
theorem f136_63 : gm_ft 136 63 = some (.iadd, 1) := by decide +kernel
theorem r136_63 {E : Nat → Value} {d : Nat} {st : List Value} {h : gm_H} {r : gm_R × gm_H} {lv : List Value} {x y : Int32} : gm_Go E d 136 63 lv (.int y :: .int x :: st) h r ↔ gm_Go E d 136 64 lv (.int (x + y) :: st) h r := gr_pure m136 f136_63 rfl
theorem f136_64 : gm_ft 136 64 = some (.iaload, 1) := by decide +kernel
theorem r136_64 {E : Nat → Value} {d : Nat} {st : List Value} {h : gm_H} {r : gm_R × gm_H} {lv : List Value} {a k j : Nat} {vs : List Value} {v : Value} (hr : gm_rd h a = some (k, vs)) (hk : 100 ≤ k ∧ (fun t => t == 0) (k % 100) = true) (hj : j < 2 ^ 31) (hv : vs[j]? = some v) : gm_Go E d 136 64 lv (.int (nI j) :: .ref a :: st) h r ↔ gm_Go E d 136 65 lv (v :: st) h r := gr_rd m136 f136_64 rfl rfl rfl rfl (ga_ld (P := fun t => t == 0) hr hk hj hv)
theorem f136_65 : gm_ft 136 65 = some (.i2l, 1) := by decide +kernel
theorem r136_65 {E : Nat → Value} {d : Nat} {st : List Value} {h : gm_H} {r : gm_R × gm_H} {lv : List Value} {x : Int32} : gm_Go E d 136 65 lv (.int x :: st) h r ↔ gm_Go E d 136 66 lv (.long (x.toInt64) :: st) h r := gr_pure m136 f136_65 rfl
theorem f136_66 : gm_ft 136 66 = some (.lreturn, 1) := by decide +kernel
theorem r136_66 {E : Nat → Value} {d : Nat} {h : gm_H} {r : gm_R × gm_H} {lv : List Value} {x : Int64} : gm_Go E d 136 66 lv [.long x] h r ↔ r = (.inl (some (.long x)), h) := gr_ret m136 f136_66 rfl rfl rfl rfl rfl rfl rfl rfl rfl
theorem f136_67 : gm_ft 136 67 = some (.aload_n 0, 1) := by decide +kernel
theorem r136_67 {E : Nat → Value} {d : Nat} {st : List Value} {h : gm_H} {r : gm_R × gm_H} {a1 a2 a3 a4 a5 : Value} {x : Nat} : gm_Go E d 136 67 [.ref x, a1, a2, a3, a4, a5] st h r ↔ gm_Go E d 136 68 [.ref x, a1, a2, a3, a4, a5] (.ref x :: st) h r := gr_loc m136 f136_67 rfl rfl
theorem r136_67n {E : Nat → Value} {d : Nat} {st : List Value} {h : gm_H} {r : gm_R × gm_H} {a1 a2 a3 a4 a5 : Value}  : gm_Go E d 136 67 [.null, a1, a2, a3, a4, a5] st h r ↔ gm_Go E d 136 68 [.null, a1, a2, a3, a4, a5] (.null :: st) h r := gr_loc m136 f136_67 rfl rfl
theorem f136_68 : gm_ft 136 68 = some (.getfield 39, 3) := by decide +kernel
theorem r136_68 {E : Nat → Value} {d : Nat} {st : List Value} {h : gm_H} {r : gm_R × gm_H} {lv : List Value} {a : Nat} {vs : List Value} {v : Value} (hr : gm_rd h a = some (5, vs)) (hv : vs[18]? = some v) : gm_Go E d 136 68 lv (.ref a :: st) h r ↔ gm_Go E d 136 71 lv (v :: st) h r := gr_rd m136 f136_68 rfl rfl rfl rfl (gf_get k5_39 hr hv)
theorem f136_71 : gm_ft 136 71 = some (.iload_n 1, 1) := by decide +kernel
theorem r136_71 {E : Nat → Value} {d : Nat} {st : List Value} {h : gm_H} {r : gm_R × gm_H} {a0 a2 a3 a4 a5 : Value} {x : Int32} : gm_Go E d 136 71 [a0, .int x, a2, a3, a4, a5] st h r ↔ gm_Go E d 136 72 [a0, .int x, a2, a3, a4, a5] (.int x :: st) h r := gr_loc m136 f136_71 rfl rfl
theorem f136_72 : gm_ft 136 72 = some (.iaload, 1) := by decide +kernel
theorem r136_72 {E : Nat → Value} {d : Nat} {st : List Value} {h : gm_H} {r : gm_R × gm_H} {lv : List Value} {a k j : Nat} {vs : List Value} {v : Value} (hr : gm_rd h a = some (k, vs)) (hk : 100 ≤ k ∧ (fun t => t == 0) (k % 100) = true) (hj : j < 2 ^ 31) (hv : vs[j]? = some v) : gm_Go E d 136 72 lv (.int (nI j) :: .ref a :: st) h r ↔ gm_Go E d 136 73 lv (v :: st) h r := gr_rd m136 f136_72 rfl rfl rfl rfl (ga_ld (P := fun t => t == 0) hr hk hj hv)
theorem f136_73 : gm_ft 136 73 = some (.iconst 2, 1) := by decide +kernel
theorem r136_73 {E : Nat → Value} {d : Nat} {st : List Value} {h : gm_H} {r : gm_R × gm_H} {lv : List Value} : gm_Go E d 136 73 lv st h r ↔ gm_Go E d 136 74 lv (.int (2 : Int32) :: st) h r := gr_pure m136 f136_73 rfl
theorem f136_74 : gm_ft 136 74 = some (.if_icmp .eq 12, 3) := by decide +kernel
theorem r136_74 {E : Nat → Value} {d : Nat} {st : List Value} {h : gm_H} {r : gm_R × gm_H} {lv : List Value} {x y : Int32} : gm_Go E d 136 74 lv (.int y :: .int x :: st) h r ↔ (if x = y then gm_Go E d 136 86 lv st h r else gm_Go E d 136 77 lv st h r) := (gr_br m136 f136_74 rfl rfl rfl rfl).trans gr_if
theorem f136_77 : gm_ft 136 77 = some (.aload_n 0, 1) := by decide +kernel
theorem r136_77 {E : Nat → Value} {d : Nat} {st : List Value} {h : gm_H} {r : gm_R × gm_H} {a1 a2 a3 a4 a5 : Value} {x : Nat} : gm_Go E d 136 77 [.ref x, a1, a2, a3, a4, a5] st h r ↔ gm_Go E d 136 78 [.ref x, a1, a2, a3, a4, a5] (.ref x :: st) h r := gr_loc m136 f136_77 rfl rfl
theorem r136_77n {E : Nat → Value} {d : Nat} {st : List Value} {h : gm_H} {r : gm_R × gm_H} {a1 a2 a3 a4 a5 : Value}  : gm_Go E d 136 77 [.null, a1, a2, a3, a4, a5] st h r ↔ gm_Go E d 136 78 [.null, a1, a2, a3, a4, a5] (.null :: st) h r := gr_loc m136 f136_77 rfl rfl
theorem f136_78 : gm_ft 136 78 = some (.getfield 54, 3) := by decide +kernel
theorem r136_78 {E : Nat → Value} {d : Nat} {st : List Value} {h : gm_H} {r : gm_R × gm_H} {lv : List Value} {a : Nat} {vs : List Value} {v : Value} (hr : gm_rd h a = some (5, vs)) (hv : vs[24]? = some v) : gm_Go E d 136 78 lv (.ref a :: st) h r ↔ gm_Go E d 136 81 lv (v :: st) h r := gr_rd m136 f136_78 rfl rfl rfl rfl (gf_get k5_54 hr hv)
theorem f136_81 : gm_ft 136 81 = some (.iload_n 3, 1) := by decide +kernel
theorem r136_81 {E : Nat → Value} {d : Nat} {st : List Value} {h : gm_H} {r : gm_R × gm_H} {a0 a1 a2 a4 a5 : Value} {x : Int32} : gm_Go E d 136 81 [a0, a1, a2, .int x, a4, a5] st h r ↔ gm_Go E d 136 82 [a0, a1, a2, .int x, a4, a5] (.int x :: st) h r := gr_loc m136 f136_81 rfl rfl
theorem f136_82 : gm_ft 136 82 = some (.iload_n 2, 1) := by decide +kernel
theorem r136_82 {E : Nat → Value} {d : Nat} {st : List Value} {h : gm_H} {r : gm_R × gm_H} {a0 a1 a3 a4 a5 : Value} {x : Int32} : gm_Go E d 136 82 [a0, a1, .int x, a3, a4, a5] st h r ↔ gm_Go E d 136 83 [a0, a1, .int x, a3, a4, a5] (.int x :: st) h r := gr_loc m136 f136_82 rfl rfl
theorem f136_83 : gm_ft 136 83 = some (.iadd, 1) := by decide +kernel
theorem r136_83 {E : Nat → Value} {d : Nat} {st : List Value} {h : gm_H} {r : gm_R × gm_H} {lv : List Value} {x y : Int32} : gm_Go E d 136 83 lv (.int y :: .int x :: st) h r ↔ gm_Go E d 136 84 lv (.int (x + y) :: st) h r := gr_pure m136 f136_83 rfl
theorem f136_84 : gm_ft 136 84 = some (.laload, 1) := by decide +kernel
theorem r136_84 {E : Nat → Value} {d : Nat} {st : List Value} {h : gm_H} {r : gm_R × gm_H} {lv : List Value} {a k j : Nat} {vs : List Value} {v : Value} (hr : gm_rd h a = some (k, vs)) (hk : 100 ≤ k ∧ (fun t => t == 1) (k % 100) = true) (hj : j < 2 ^ 31) (hv : vs[j]? = some v) : gm_Go E d 136 84 lv (.int (nI j) :: .ref a :: st) h r ↔ gm_Go E d 136 85 lv (v :: st) h r := gr_rd m136 f136_84 rfl rfl rfl rfl (ga_ld (P := fun t => t == 1) hr hk hj hv)
theorem f136_85 : gm_ft 136 85 = some (.lreturn, 1) := by decide +kernel
theorem r136_85 {E : Nat → Value} {d : Nat} {h : gm_H} {r : gm_R × gm_H} {lv : List Value} {x : Int64} : gm_Go E d 136 85 lv [.long x] h r ↔ r = (.inl (some (.long x)), h) := gr_ret m136 f136_85 rfl rfl rfl rfl rfl rfl rfl rfl rfl
theorem f136_86 : gm_ft 136 86 = some (.iconst 0, 1) := by decide +kernel
theorem r136_86 {E : Nat → Value} {d : Nat} {st : List Value} {h : gm_H} {r : gm_R × gm_H} {lv : List Value} : gm_Go E d 136 86 lv st h r ↔ gm_Go E d 136 87 lv (.int (0 : Int32) :: st) h r := gr_pure m136 f136_86 rfl
theorem f136_87 : gm_ft 136 87 = some (.istore 4, 2) := by decide +kernel
theorem r136_87 {E : Nat → Value} {d : Nat} {st : List Value} {h : gm_H} {r : gm_R × gm_H} {a0 a1 a2 a3 a4 a5 : Value} {x : Int32} : gm_Go E d 136 87 [a0, a1, a2, a3, a4, a5] (.int x :: st) h r ↔ gm_Go E d 136 89 [a0, a1, a2, gm_k a3, .int x, a5] st h r := gr_loc m136 f136_87 rfl rfl
theorem f136_89 : gm_ft 136 89 = some (.iconst 0, 1) := by decide +kernel
theorem r136_89 {E : Nat → Value} {d : Nat} {st : List Value} {h : gm_H} {r : gm_R × gm_H} {lv : List Value} : gm_Go E d 136 89 lv st h r ↔ gm_Go E d 136 90 lv (.int (0 : Int32) :: st) h r := gr_pure m136 f136_89 rfl
theorem f136_90 : gm_ft 136 90 = some (.istore 5, 2) := by decide +kernel
theorem r136_90 {E : Nat → Value} {d : Nat} {st : List Value} {h : gm_H} {r : gm_R × gm_H} {a0 a1 a2 a3 a4 a5 : Value} {x : Int32} : gm_Go E d 136 90 [a0, a1, a2, a3, a4, a5] (.int x :: st) h r ↔ gm_Go E d 136 92 [a0, a1, a2, a3, gm_k a4, .int x] st h r := gr_loc m136 f136_90 rfl rfl
theorem f136_92 : gm_ft 136 92 = some (.iload 5, 2) := by decide +kernel
theorem r136_92 {E : Nat → Value} {d : Nat} {st : List Value} {h : gm_H} {r : gm_R × gm_H} {a0 a1 a2 a3 a4 : Value} {x : Int32} : gm_Go E d 136 92 [a0, a1, a2, a3, a4, .int x] st h r ↔ gm_Go E d 136 94 [a0, a1, a2, a3, a4, .int x] (.int x :: st) h r := gr_loc m136 f136_92 rfl rfl
theorem f136_94 : gm_ft 136 94 = some (.iconst 4, 1) := by decide +kernel
theorem r136_94 {E : Nat → Value} {d : Nat} {st : List Value} {h : gm_H} {r : gm_R × gm_H} {lv : List Value} : gm_Go E d 136 94 lv st h r ↔ gm_Go E d 136 95 lv (.int (4 : Int32) :: st) h r := gr_pure m136 f136_94 rfl
theorem f136_95 : gm_ft 136 95 = some (.if_icmp .ge 30, 3) := by decide +kernel
theorem r136_95 {E : Nat → Value} {d : Nat} {st : List Value} {h : gm_H} {r : gm_R × gm_H} {lv : List Value} {x y : Int32} : gm_Go E d 136 95 lv (.int y :: .int x :: st) h r ↔ (if y ≤ x then gm_Go E d 136 125 lv st h r else gm_Go E d 136 98 lv st h r) := (gr_br m136 f136_95 rfl rfl rfl rfl).trans gr_if
theorem f136_98 : gm_ft 136 98 = some (.iload 4, 2) := by decide +kernel
theorem r136_98 {E : Nat → Value} {d : Nat} {st : List Value} {h : gm_H} {r : gm_R × gm_H} {a0 a1 a2 a3 a5 : Value} {x : Int32} : gm_Go E d 136 98 [a0, a1, a2, a3, .int x, a5] st h r ↔ gm_Go E d 136 100 [a0, a1, a2, a3, .int x, a5] (.int x :: st) h r := gr_loc m136 f136_98 rfl rfl
theorem f136_100 : gm_ft 136 100 = some (.bipush 8, 2) := by decide +kernel
theorem r136_100 {E : Nat → Value} {d : Nat} {st : List Value} {h : gm_H} {r : gm_R × gm_H} {lv : List Value} : gm_Go E d 136 100 lv st h r ↔ gm_Go E d 136 102 lv (.int (8 : Int32) :: st) h r := gr_pure m136 f136_100 rfl
theorem f136_102 : gm_ft 136 102 = some (.ishl, 1) := by decide +kernel
theorem r136_102 {E : Nat → Value} {d : Nat} {st : List Value} {h : gm_H} {r : gm_R × gm_H} {lv : List Value} {x y : Int32} : gm_Go E d 136 102 lv (.int y :: .int x :: st) h r ↔ gm_Go E d 136 103 lv (.int (x <<< (y &&& 31)) :: st) h r := gr_pure m136 f136_102 rfl
theorem f136_103 : gm_ft 136 103 = some (.aload_n 0, 1) := by decide +kernel
theorem r136_103 {E : Nat → Value} {d : Nat} {st : List Value} {h : gm_H} {r : gm_R × gm_H} {a1 a2 a3 a4 a5 : Value} {x : Nat} : gm_Go E d 136 103 [.ref x, a1, a2, a3, a4, a5] st h r ↔ gm_Go E d 136 104 [.ref x, a1, a2, a3, a4, a5] (.ref x :: st) h r := gr_loc m136 f136_103 rfl rfl
theorem r136_103n {E : Nat → Value} {d : Nat} {st : List Value} {h : gm_H} {r : gm_R × gm_H} {a1 a2 a3 a4 a5 : Value}  : gm_Go E d 136 103 [.null, a1, a2, a3, a4, a5] st h r ↔ gm_Go E d 136 104 [.null, a1, a2, a3, a4, a5] (.null :: st) h r := gr_loc m136 f136_103 rfl rfl
theorem f136_104 : gm_ft 136 104 = some (.getfield 7, 3) := by decide +kernel
theorem r136_104 {E : Nat → Value} {d : Nat} {st : List Value} {h : gm_H} {r : gm_R × gm_H} {lv : List Value} {a : Nat} {vs : List Value} {v : Value} (hr : gm_rd h a = some (5, vs)) (hv : vs[4]? = some v) : gm_Go E d 136 104 lv (.ref a :: st) h r ↔ gm_Go E d 136 107 lv (v :: st) h r := gr_rd m136 f136_104 rfl rfl rfl rfl (gf_get k5_7 hr hv)
theorem f136_107 : gm_ft 136 107 = some (.iload_n 3, 1) := by decide +kernel
theorem r136_107 {E : Nat → Value} {d : Nat} {st : List Value} {h : gm_H} {r : gm_R × gm_H} {a0 a1 a2 a4 a5 : Value} {x : Int32} : gm_Go E d 136 107 [a0, a1, a2, .int x, a4, a5] st h r ↔ gm_Go E d 136 108 [a0, a1, a2, .int x, a4, a5] (.int x :: st) h r := gr_loc m136 f136_107 rfl rfl
theorem f136_108 : gm_ft 136 108 = some (.iconst 4, 1) := by decide +kernel
theorem r136_108 {E : Nat → Value} {d : Nat} {st : List Value} {h : gm_H} {r : gm_R × gm_H} {lv : List Value} : gm_Go E d 136 108 lv st h r ↔ gm_Go E d 136 109 lv (.int (4 : Int32) :: st) h r := gr_pure m136 f136_108 rfl
theorem f136_109 : gm_ft 136 109 = some (.iload_n 2, 1) := by decide +kernel
theorem r136_109 {E : Nat → Value} {d : Nat} {st : List Value} {h : gm_H} {r : gm_R × gm_H} {a0 a1 a3 a4 a5 : Value} {x : Int32} : gm_Go E d 136 109 [a0, a1, .int x, a3, a4, a5] st h r ↔ gm_Go E d 136 110 [a0, a1, .int x, a3, a4, a5] (.int x :: st) h r := gr_loc m136 f136_109 rfl rfl
theorem f136_110 : gm_ft 136 110 = some (.imul, 1) := by decide +kernel
theorem r136_110 {E : Nat → Value} {d : Nat} {st : List Value} {h : gm_H} {r : gm_R × gm_H} {lv : List Value} {x y : Int32} : gm_Go E d 136 110 lv (.int y :: .int x :: st) h r ↔ gm_Go E d 136 111 lv (.int (x * y) :: st) h r := gr_pure m136 f136_110 rfl
theorem f136_111 : gm_ft 136 111 = some (.iadd, 1) := by decide +kernel
theorem r136_111 {E : Nat → Value} {d : Nat} {st : List Value} {h : gm_H} {r : gm_R × gm_H} {lv : List Value} {x y : Int32} : gm_Go E d 136 111 lv (.int y :: .int x :: st) h r ↔ gm_Go E d 136 112 lv (.int (x + y) :: st) h r := gr_pure m136 f136_111 rfl
theorem f136_112 : gm_ft 136 112 = some (.iload 5, 2) := by decide +kernel
theorem r136_112 {E : Nat → Value} {d : Nat} {st : List Value} {h : gm_H} {r : gm_R × gm_H} {a0 a1 a2 a3 a4 : Value} {x : Int32} : gm_Go E d 136 112 [a0, a1, a2, a3, a4, .int x] st h r ↔ gm_Go E d 136 114 [a0, a1, a2, a3, a4, .int x] (.int x :: st) h r := gr_loc m136 f136_112 rfl rfl
theorem f136_114 : gm_ft 136 114 = some (.iadd, 1) := by decide +kernel
theorem r136_114 {E : Nat → Value} {d : Nat} {st : List Value} {h : gm_H} {r : gm_R × gm_H} {lv : List Value} {x y : Int32} : gm_Go E d 136 114 lv (.int y :: .int x :: st) h r ↔ gm_Go E d 136 115 lv (.int (x + y) :: st) h r := gr_pure m136 f136_114 rfl
theorem f136_115 : gm_ft 136 115 = some (.iaload, 1) := by decide +kernel
theorem r136_115 {E : Nat → Value} {d : Nat} {st : List Value} {h : gm_H} {r : gm_R × gm_H} {lv : List Value} {a k j : Nat} {vs : List Value} {v : Value} (hr : gm_rd h a = some (k, vs)) (hk : 100 ≤ k ∧ (fun t => t == 0) (k % 100) = true) (hj : j < 2 ^ 31) (hv : vs[j]? = some v) : gm_Go E d 136 115 lv (.int (nI j) :: .ref a :: st) h r ↔ gm_Go E d 136 116 lv (v :: st) h r := gr_rd m136 f136_115 rfl rfl rfl rfl (ga_ld (P := fun t => t == 0) hr hk hj hv)
theorem f136_116 : gm_ft 136 116 = some (.ior, 1) := by decide +kernel
theorem r136_116 {E : Nat → Value} {d : Nat} {st : List Value} {h : gm_H} {r : gm_R × gm_H} {lv : List Value} {x y : Int32} : gm_Go E d 136 116 lv (.int y :: .int x :: st) h r ↔ gm_Go E d 136 117 lv (.int (x ||| y) :: st) h r := gr_pure m136 f136_116 rfl
theorem f136_117 : gm_ft 136 117 = some (.istore 4, 2) := by decide +kernel
theorem r136_117 {E : Nat → Value} {d : Nat} {st : List Value} {h : gm_H} {r : gm_R × gm_H} {a0 a1 a2 a3 a4 a5 : Value} {x : Int32} : gm_Go E d 136 117 [a0, a1, a2, a3, a4, a5] (.int x :: st) h r ↔ gm_Go E d 136 119 [a0, a1, a2, gm_k a3, .int x, a5] st h r := gr_loc m136 f136_117 rfl rfl
theorem f136_119 : gm_ft 136 119 = some (.iinc 5 1, 3) := by decide +kernel
theorem r136_119 {E : Nat → Value} {d : Nat} {st : List Value} {h : gm_H} {r : gm_R × gm_H} {a0 a1 a2 a3 a4 : Value} {x : Int32} : gm_Go E d 136 119 [a0, a1, a2, a3, a4, .int x] st h r ↔ gm_Go E d 136 122 [a0, a1, a2, a3, gm_k a4, .int (x + (1 : Int32))] st h r := gr_loc m136 f136_119 rfl rfl
theorem f136_122 : gm_ft 136 122 = some (.goto (-30), 3) := by decide +kernel
theorem r136_122 {E : Nat → Value} {d : Nat} {st : List Value} {h : gm_H} {r : gm_R × gm_H} {lv : List Value} : gm_Go E d 136 122 lv st h r ↔ gm_Go E d 136 92 lv st h r := gr_brT m136 f136_122 rfl rfl rfl rfl
theorem f136_125 : gm_ft 136 125 = some (.iload 4, 2) := by decide +kernel
theorem r136_125 {E : Nat → Value} {d : Nat} {st : List Value} {h : gm_H} {r : gm_R × gm_H} {a0 a1 a2 a3 a5 : Value} {x : Int32} : gm_Go E d 136 125 [a0, a1, a2, a3, .int x, a5] st h r ↔ gm_Go E d 136 127 [a0, a1, a2, a3, .int x, a5] (.int x :: st) h r := gr_loc m136 f136_125 rfl rfl
theorem f136_127 : gm_ft 136 127 = some (.i2l, 1) := by decide +kernel
theorem r136_127 {E : Nat → Value} {d : Nat} {st : List Value} {h : gm_H} {r : gm_R × gm_H} {lv : List Value} {x : Int32} : gm_Go E d 136 127 lv (.int x :: st) h r ↔ gm_Go E d 136 128 lv (.long (x.toInt64) :: st) h r := gr_pure m136 f136_127 rfl
theorem f136_128 : gm_ft 136 128 = some (.lreturn, 1) := by decide +kernel
theorem r136_128 {E : Nat → Value} {d : Nat} {h : gm_H} {r : gm_R × gm_H} {lv : List Value} {x : Int64} : gm_Go E d 136 128 lv [.long x] h r ↔ r = (.inl (some (.long x)), h) := gr_ret m136 f136_128 rfl rfl rfl rfl rfl rfl rfl rfl rfl
/-! GraphReaderModel.count(I)I -/
theorem m137 : gm_mt[137]? = some (⟨"GraphReaderModel", "count", "(I)I"⟩, prog_7_method_49_code, 2, (some .int), [], 5, 2) := rfl
theorem f137_0 : gm_ft 137 0 = some (.iload_n 1, 1) := by decide +kernel
theorem r137_0 {E : Nat → Value} {d : Nat} {st : List Value} {h : gm_H} {r : gm_R × gm_H} {a0 : Value} {x : Int32} : gm_Go E d 137 0 [a0, .int x] st h r ↔ gm_Go E d 137 1 [a0, .int x] (.int x :: st) h r := gr_loc m137 f137_0 rfl rfl
theorem f137_1 : gm_ft 137 1 = some (.tableswitch 60 0 4 #[35, 40, 45, 50, 55], 35) := by decide +kernel
theorem r137_1d {E : Nat → Value} {d : Nat} {st : List Value} {h : gm_H} {r : gm_R × gm_H} {lv : List Value} {x : Int32} (hx : x.toInt < 0 ∨ 4 < x.toInt) : gm_Go E d 137 1 lv (.int x :: st) h r ↔ gm_Go E d 137 61 lv st h r := gr_sw m137 f137_1 rfl rfl rfl (by unfold gm_sw; dsimp only; rw [if_pos hx]) rfl
theorem r137_1_0 {E : Nat → Value} {d : Nat} {st : List Value} {h : gm_H} {r : gm_R × gm_H} {lv : List Value} : gm_Go E d 137 1 lv (.int (0 : Int32) :: st) h r ↔ gm_Go E d 137 36 lv st h r := gr_sw m137 f137_1 rfl rfl rfl rfl rfl
theorem r137_1_1 {E : Nat → Value} {d : Nat} {st : List Value} {h : gm_H} {r : gm_R × gm_H} {lv : List Value} : gm_Go E d 137 1 lv (.int (1 : Int32) :: st) h r ↔ gm_Go E d 137 41 lv st h r := gr_sw m137 f137_1 rfl rfl rfl rfl rfl
theorem r137_1_2 {E : Nat → Value} {d : Nat} {st : List Value} {h : gm_H} {r : gm_R × gm_H} {lv : List Value} : gm_Go E d 137 1 lv (.int (2 : Int32) :: st) h r ↔ gm_Go E d 137 46 lv st h r := gr_sw m137 f137_1 rfl rfl rfl rfl rfl
theorem r137_1_3 {E : Nat → Value} {d : Nat} {st : List Value} {h : gm_H} {r : gm_R × gm_H} {lv : List Value} : gm_Go E d 137 1 lv (.int (3 : Int32) :: st) h r ↔ gm_Go E d 137 51 lv st h r := gr_sw m137 f137_1 rfl rfl rfl rfl rfl
theorem r137_1_4 {E : Nat → Value} {d : Nat} {st : List Value} {h : gm_H} {r : gm_R × gm_H} {lv : List Value} : gm_Go E d 137 1 lv (.int (4 : Int32) :: st) h r ↔ gm_Go E d 137 56 lv st h r := gr_sw m137 f137_1 rfl rfl rfl rfl rfl
theorem f137_36 : gm_ft 137 36 = some (.aload_n 0, 1) := by decide +kernel
theorem r137_36 {E : Nat → Value} {d : Nat} {st : List Value} {h : gm_H} {r : gm_R × gm_H} {a1 : Value} {x : Nat} : gm_Go E d 137 36 [.ref x, a1] st h r ↔ gm_Go E d 137 37 [.ref x, a1] (.ref x :: st) h r := gr_loc m137 f137_36 rfl rfl
theorem r137_36n {E : Nat → Value} {d : Nat} {st : List Value} {h : gm_H} {r : gm_R × gm_H} {a1 : Value}  : gm_Go E d 137 36 [.null, a1] st h r ↔ gm_Go E d 137 37 [.null, a1] (.null :: st) h r := gr_loc m137 f137_36 rfl rfl
theorem f137_37 : gm_ft 137 37 = some (.getfield 148, 3) := by decide +kernel
theorem r137_37 {E : Nat → Value} {d : Nat} {st : List Value} {h : gm_H} {r : gm_R × gm_H} {lv : List Value} {a : Nat} {vs : List Value} {v : Value} (hr : gm_rd h a = some (5, vs)) (hv : vs[6]? = some v) : gm_Go E d 137 37 lv (.ref a :: st) h r ↔ gm_Go E d 137 40 lv (v :: st) h r := gr_rd m137 f137_37 rfl rfl rfl rfl (gf_get k5_148 hr hv)
theorem f137_40 : gm_ft 137 40 = some (.ireturn, 1) := by decide +kernel
theorem r137_40 {E : Nat → Value} {d : Nat} {h : gm_H} {r : gm_R × gm_H} {lv : List Value} {x : Int32} : gm_Go E d 137 40 lv [.int x] h r ↔ r = (.inl (some (.int x)), h) := gr_ret m137 f137_40 rfl rfl rfl rfl rfl rfl rfl rfl (by unfold gm_rt; dsimp only; rw [if_pos ⟨rfl, rfl⟩])
theorem f137_41 : gm_ft 137 41 = some (.aload_n 0, 1) := by decide +kernel
theorem r137_41 {E : Nat → Value} {d : Nat} {st : List Value} {h : gm_H} {r : gm_R × gm_H} {a1 : Value} {x : Nat} : gm_Go E d 137 41 [.ref x, a1] st h r ↔ gm_Go E d 137 42 [.ref x, a1] (.ref x :: st) h r := gr_loc m137 f137_41 rfl rfl
theorem r137_41n {E : Nat → Value} {d : Nat} {st : List Value} {h : gm_H} {r : gm_R × gm_H} {a1 : Value}  : gm_Go E d 137 41 [.null, a1] st h r ↔ gm_Go E d 137 42 [.null, a1] (.null :: st) h r := gr_loc m137 f137_41 rfl rfl
theorem f137_42 : gm_ft 137 42 = some (.getfield 166, 3) := by decide +kernel
theorem r137_42 {E : Nat → Value} {d : Nat} {st : List Value} {h : gm_H} {r : gm_R × gm_H} {lv : List Value} {a : Nat} {vs : List Value} {v : Value} (hr : gm_rd h a = some (5, vs)) (hv : vs[28]? = some v) : gm_Go E d 137 42 lv (.ref a :: st) h r ↔ gm_Go E d 137 45 lv (v :: st) h r := gr_rd m137 f137_42 rfl rfl rfl rfl (gf_get k5_166 hr hv)
theorem f137_45 : gm_ft 137 45 = some (.ireturn, 1) := by decide +kernel
theorem r137_45 {E : Nat → Value} {d : Nat} {h : gm_H} {r : gm_R × gm_H} {lv : List Value} {x : Int32} : gm_Go E d 137 45 lv [.int x] h r ↔ r = (.inl (some (.int x)), h) := gr_ret m137 f137_45 rfl rfl rfl rfl rfl rfl rfl rfl (by unfold gm_rt; dsimp only; rw [if_pos ⟨rfl, rfl⟩])
theorem f137_46 : gm_ft 137 46 = some (.aload_n 0, 1) := by decide +kernel
theorem r137_46 {E : Nat → Value} {d : Nat} {st : List Value} {h : gm_H} {r : gm_R × gm_H} {a1 : Value} {x : Nat} : gm_Go E d 137 46 [.ref x, a1] st h r ↔ gm_Go E d 137 47 [.ref x, a1] (.ref x :: st) h r := gr_loc m137 f137_46 rfl rfl
theorem r137_46n {E : Nat → Value} {d : Nat} {st : List Value} {h : gm_H} {r : gm_R × gm_H} {a1 : Value}  : gm_Go E d 137 46 [.null, a1] st h r ↔ gm_Go E d 137 47 [.null, a1] (.null :: st) h r := gr_loc m137 f137_46 rfl rfl
theorem f137_47 : gm_ft 137 47 = some (.getfield 139, 3) := by decide +kernel
theorem r137_47 {E : Nat → Value} {d : Nat} {st : List Value} {h : gm_H} {r : gm_R × gm_H} {lv : List Value} {a : Nat} {vs : List Value} {v : Value} (hr : gm_rd h a = some (5, vs)) (hv : vs[23]? = some v) : gm_Go E d 137 47 lv (.ref a :: st) h r ↔ gm_Go E d 137 50 lv (v :: st) h r := gr_rd m137 f137_47 rfl rfl rfl rfl (gf_get k5_139 hr hv)
theorem f137_50 : gm_ft 137 50 = some (.ireturn, 1) := by decide +kernel
theorem r137_50 {E : Nat → Value} {d : Nat} {h : gm_H} {r : gm_R × gm_H} {lv : List Value} {x : Int32} : gm_Go E d 137 50 lv [.int x] h r ↔ r = (.inl (some (.int x)), h) := gr_ret m137 f137_50 rfl rfl rfl rfl rfl rfl rfl rfl (by unfold gm_rt; dsimp only; rw [if_pos ⟨rfl, rfl⟩])
theorem f137_51 : gm_ft 137 51 = some (.aload_n 0, 1) := by decide +kernel
theorem r137_51 {E : Nat → Value} {d : Nat} {st : List Value} {h : gm_H} {r : gm_R × gm_H} {a1 : Value} {x : Nat} : gm_Go E d 137 51 [.ref x, a1] st h r ↔ gm_Go E d 137 52 [.ref x, a1] (.ref x :: st) h r := gr_loc m137 f137_51 rfl rfl
theorem r137_51n {E : Nat → Value} {d : Nat} {st : List Value} {h : gm_H} {r : gm_R × gm_H} {a1 : Value}  : gm_Go E d 137 51 [.null, a1] st h r ↔ gm_Go E d 137 52 [.null, a1] (.null :: st) h r := gr_loc m137 f137_51 rfl rfl
theorem f137_52 : gm_ft 137 52 = some (.getfield 172, 3) := by decide +kernel
theorem r137_52 {E : Nat → Value} {d : Nat} {st : List Value} {h : gm_H} {r : gm_R × gm_H} {lv : List Value} {a : Nat} {vs : List Value} {v : Value} (hr : gm_rd h a = some (5, vs)) (hv : vs[7]? = some v) : gm_Go E d 137 52 lv (.ref a :: st) h r ↔ gm_Go E d 137 55 lv (v :: st) h r := gr_rd m137 f137_52 rfl rfl rfl rfl (gf_get k5_172 hr hv)
theorem f137_55 : gm_ft 137 55 = some (.ireturn, 1) := by decide +kernel
theorem r137_55 {E : Nat → Value} {d : Nat} {h : gm_H} {r : gm_R × gm_H} {lv : List Value} {x : Int32} : gm_Go E d 137 55 lv [.int x] h r ↔ r = (.inl (some (.int x)), h) := gr_ret m137 f137_55 rfl rfl rfl rfl rfl rfl rfl rfl (by unfold gm_rt; dsimp only; rw [if_pos ⟨rfl, rfl⟩])
theorem f137_56 : gm_ft 137 56 = some (.aload_n 0, 1) := by decide +kernel
theorem r137_56 {E : Nat → Value} {d : Nat} {st : List Value} {h : gm_H} {r : gm_R × gm_H} {a1 : Value} {x : Nat} : gm_Go E d 137 56 [.ref x, a1] st h r ↔ gm_Go E d 137 57 [.ref x, a1] (.ref x :: st) h r := gr_loc m137 f137_56 rfl rfl
theorem r137_56n {E : Nat → Value} {d : Nat} {st : List Value} {h : gm_H} {r : gm_R × gm_H} {a1 : Value}  : gm_Go E d 137 56 [.null, a1] st h r ↔ gm_Go E d 137 57 [.null, a1] (.null :: st) h r := gr_loc m137 f137_56 rfl rfl
theorem f137_57 : gm_ft 137 57 = some (.getfield 142, 3) := by decide +kernel
theorem r137_57 {E : Nat → Value} {d : Nat} {st : List Value} {h : gm_H} {r : gm_R × gm_H} {lv : List Value} {a : Nat} {vs : List Value} {v : Value} (hr : gm_rd h a = some (5, vs)) (hv : vs[5]? = some v) : gm_Go E d 137 57 lv (.ref a :: st) h r ↔ gm_Go E d 137 60 lv (v :: st) h r := gr_rd m137 f137_57 rfl rfl rfl rfl (gf_get k5_142 hr hv)
theorem f137_60 : gm_ft 137 60 = some (.ireturn, 1) := by decide +kernel
theorem r137_60 {E : Nat → Value} {d : Nat} {h : gm_H} {r : gm_R × gm_H} {lv : List Value} {x : Int32} : gm_Go E d 137 60 lv [.int x] h r ↔ r = (.inl (some (.int x)), h) := gr_ret m137 f137_60 rfl rfl rfl rfl rfl rfl rfl rfl (by unfold gm_rt; dsimp only; rw [if_pos ⟨rfl, rfl⟩])
theorem f137_61 : gm_ft 137 61 = some (.iconst (-1), 1) := by decide +kernel
theorem r137_61 {E : Nat → Value} {d : Nat} {st : List Value} {h : gm_H} {r : gm_R × gm_H} {lv : List Value} : gm_Go E d 137 61 lv st h r ↔ gm_Go E d 137 62 lv (.int (-1 : Int32) :: st) h r := gr_pure m137 f137_61 rfl
theorem f137_62 : gm_ft 137 62 = some (.ireturn, 1) := by decide +kernel
theorem r137_62 {E : Nat → Value} {d : Nat} {h : gm_H} {r : gm_R × gm_H} {lv : List Value} {x : Int32} : gm_Go E d 137 62 lv [.int x] h r ↔ r = (.inl (some (.int x)), h) := gr_ret m137 f137_62 rfl rfl rfl rfl rfl rfl rfl rfl (by unfold gm_rt; dsimp only; rw [if_pos ⟨rfl, rfl⟩])
