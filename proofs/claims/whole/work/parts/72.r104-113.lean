/-! GraphReaderModel.startRead(I)V -/
theorem m104 : gm_mt[104]? = some (⟨"GraphReaderModel", "startRead", "(I)V"⟩, prog_7_method_22_code, 6, none, [], 5, 2) := rfl
theorem f104_0 : gm_ft 104 0 = some (.aload_n 0, 1) := by decide +kernel
theorem r104_0 {E : Nat → Value} {d : Nat} {st : List Value} {h : gm_H} {r : gm_R × gm_H} {a1 a2 a3 a4 a5 : Value} {x : Nat} : gm_Go E d 104 0 [.ref x, a1, a2, a3, a4, a5] st h r ↔ gm_Go E d 104 1 [.ref x, a1, a2, a3, a4, a5] (.ref x :: st) h r := gr_loc m104 f104_0 rfl rfl
theorem r104_0n {E : Nat → Value} {d : Nat} {st : List Value} {h : gm_H} {r : gm_R × gm_H} {a1 a2 a3 a4 a5 : Value}  : gm_Go E d 104 0 [.null, a1, a2, a3, a4, a5] st h r ↔ gm_Go E d 104 1 [.null, a1, a2, a3, a4, a5] (.null :: st) h r := gr_loc m104 f104_0 rfl rfl
theorem f104_1 : gm_ft 104 1 = some (.getfield 99, 3) := by decide +kernel
theorem r104_1 {E : Nat → Value} {d : Nat} {st : List Value} {h : gm_H} {r : gm_R × gm_H} {lv : List Value} {a : Nat} {vs : List Value} {v : Value} (hr : gm_rd h a = some (5, vs)) (hv : vs[42]? = some v) : gm_Go E d 104 1 lv (.ref a :: st) h r ↔ gm_Go E d 104 4 lv (v :: st) h r := gr_rd m104 f104_1 rfl rfl rfl rfl (gf_get k5_99 hr hv)
theorem f104_4 : gm_ft 104 4 = some (.iload_n 1, 1) := by decide +kernel
theorem r104_4 {E : Nat → Value} {d : Nat} {st : List Value} {h : gm_H} {r : gm_R × gm_H} {a0 a2 a3 a4 a5 : Value} {x : Int32} : gm_Go E d 104 4 [a0, .int x, a2, a3, a4, a5] st h r ↔ gm_Go E d 104 5 [a0, .int x, a2, a3, a4, a5] (.int x :: st) h r := gr_loc m104 f104_4 rfl rfl
theorem f104_5 : gm_ft 104 5 = some (.iaload, 1) := by decide +kernel
theorem r104_5 {E : Nat → Value} {d : Nat} {st : List Value} {h : gm_H} {r : gm_R × gm_H} {lv : List Value} {a k j : Nat} {vs : List Value} {v : Value} (hr : gm_rd h a = some (k, vs)) (hk : 100 ≤ k ∧ (fun t => t == 0) (k % 100) = true) (hj : j < 2 ^ 31) (hv : vs[j]? = some v) : gm_Go E d 104 5 lv (.int (nI j) :: .ref a :: st) h r ↔ gm_Go E d 104 6 lv (v :: st) h r := gr_rd m104 f104_5 rfl rfl rfl rfl (ga_ld (P := fun t => t == 0) hr hk hj hv)
theorem f104_6 : gm_ft 104 6 = some (.bipush 8, 2) := by decide +kernel
theorem r104_6 {E : Nat → Value} {d : Nat} {st : List Value} {h : gm_H} {r : gm_R × gm_H} {lv : List Value} : gm_Go E d 104 6 lv st h r ↔ gm_Go E d 104 8 lv (.int (8 : Int32) :: st) h r := gr_pure m104 f104_6 rfl
theorem f104_8 : gm_ft 104 8 = some (.if_icmp .gt 12, 3) := by decide +kernel
theorem r104_8 {E : Nat → Value} {d : Nat} {st : List Value} {h : gm_H} {r : gm_R × gm_H} {lv : List Value} {x y : Int32} : gm_Go E d 104 8 lv (.int y :: .int x :: st) h r ↔ (if y < x then gm_Go E d 104 20 lv st h r else gm_Go E d 104 11 lv st h r) := (gr_br m104 f104_8 rfl rfl rfl rfl).trans gr_if
theorem f104_11 : gm_ft 104 11 = some (.aload_n 0, 1) := by decide +kernel
theorem r104_11 {E : Nat → Value} {d : Nat} {st : List Value} {h : gm_H} {r : gm_R × gm_H} {a1 a2 a3 a4 a5 : Value} {x : Nat} : gm_Go E d 104 11 [.ref x, a1, a2, a3, a4, a5] st h r ↔ gm_Go E d 104 12 [.ref x, a1, a2, a3, a4, a5] (.ref x :: st) h r := gr_loc m104 f104_11 rfl rfl
theorem r104_11n {E : Nat → Value} {d : Nat} {st : List Value} {h : gm_H} {r : gm_R × gm_H} {a1 a2 a3 a4 a5 : Value}  : gm_Go E d 104 11 [.null, a1, a2, a3, a4, a5] st h r ↔ gm_Go E d 104 12 [.null, a1, a2, a3, a4, a5] (.null :: st) h r := gr_loc m104 f104_11 rfl rfl
theorem f104_12 : gm_ft 104 12 = some (.getfield 166, 3) := by decide +kernel
theorem r104_12 {E : Nat → Value} {d : Nat} {st : List Value} {h : gm_H} {r : gm_R × gm_H} {lv : List Value} {a : Nat} {vs : List Value} {v : Value} (hr : gm_rd h a = some (5, vs)) (hv : vs[28]? = some v) : gm_Go E d 104 12 lv (.ref a :: st) h r ↔ gm_Go E d 104 15 lv (v :: st) h r := gr_rd m104 f104_12 rfl rfl rfl rfl (gf_get k5_166 hr hv)
theorem f104_15 : gm_ft 104 15 = some (.bipush 60, 2) := by decide +kernel
theorem r104_15 {E : Nat → Value} {d : Nat} {st : List Value} {h : gm_H} {r : gm_R × gm_H} {lv : List Value} : gm_Go E d 104 15 lv st h r ↔ gm_Go E d 104 17 lv (.int (60 : Int32) :: st) h r := gr_pure m104 f104_15 rfl
theorem f104_17 : gm_ft 104 17 = some (.if_icmp .le 10, 3) := by decide +kernel
theorem r104_17 {E : Nat → Value} {d : Nat} {st : List Value} {h : gm_H} {r : gm_R × gm_H} {lv : List Value} {x y : Int32} : gm_Go E d 104 17 lv (.int y :: .int x :: st) h r ↔ (if x ≤ y then gm_Go E d 104 27 lv st h r else gm_Go E d 104 20 lv st h r) := (gr_br m104 f104_17 rfl rfl rfl rfl).trans gr_if
theorem f104_20 : gm_ft 104 20 = some (.aload_n 0, 1) := by decide +kernel
theorem r104_20 {E : Nat → Value} {d : Nat} {st : List Value} {h : gm_H} {r : gm_R × gm_H} {a1 a2 a3 a4 a5 : Value} {x : Nat} : gm_Go E d 104 20 [.ref x, a1, a2, a3, a4, a5] st h r ↔ gm_Go E d 104 21 [.ref x, a1, a2, a3, a4, a5] (.ref x :: st) h r := gr_loc m104 f104_20 rfl rfl
theorem r104_20n {E : Nat → Value} {d : Nat} {st : List Value} {h : gm_H} {r : gm_R × gm_H} {a1 a2 a3 a4 a5 : Value}  : gm_Go E d 104 20 [.null, a1, a2, a3, a4, a5] st h r ↔ gm_Go E d 104 21 [.null, a1, a2, a3, a4, a5] (.null :: st) h r := gr_loc m104 f104_20 rfl rfl
theorem f104_21 : gm_ft 104 21 = some (.bipush (-8), 2) := by decide +kernel
theorem r104_21 {E : Nat → Value} {d : Nat} {st : List Value} {h : gm_H} {r : gm_R × gm_H} {lv : List Value} : gm_Go E d 104 21 lv st h r ↔ gm_Go E d 104 23 lv (.int (-8 : Int32) :: st) h r := gr_pure m104 f104_21 rfl
theorem f104_23 : gm_ft 104 23 = some (.invokevirtual 151, 3) := by decide +kernel
theorem n104_23 {st : List Value} {h : gm_H} {E : Nat → Value} {lv : List Value} {b0 : Value} {a : Nat} (hs : (st.map fun v => v.category).sum ≤ 8) (he : (gm_en1 [.ref a, b0]).length ≤ 2) {vs : List Value} (hr : gm_rd h a = some (5, vs)) : gm_next E 104 23 lv (b0 :: .ref a :: st) h = some (.inr (.inl (0, 98, [.ref a, b0], st))) := gn_call m104 f104_23 rfl rfl rfl rfl rfl rfl rfl (gc_virt (bs := [b0]) (w := 844) rfl rfl rfl rfl hs he hr) (by decide)
theorem f104_26 : gm_ft 104 26 = some (.return_, 1) := by decide +kernel
theorem r104_26 {E : Nat → Value} {d : Nat} {h : gm_H} {r : gm_R × gm_H} {lv : List Value} : gm_Go E d 104 26 lv [] h r ↔ r = (.inl none, h) := gr_ret m104 f104_26 rfl rfl rfl rfl rfl rfl rfl rfl rfl
theorem f104_27 : gm_ft 104 27 = some (.aload_n 0, 1) := by decide +kernel
theorem r104_27 {E : Nat → Value} {d : Nat} {st : List Value} {h : gm_H} {r : gm_R × gm_H} {a1 a2 a3 a4 a5 : Value} {x : Nat} : gm_Go E d 104 27 [.ref x, a1, a2, a3, a4, a5] st h r ↔ gm_Go E d 104 28 [.ref x, a1, a2, a3, a4, a5] (.ref x :: st) h r := gr_loc m104 f104_27 rfl rfl
theorem r104_27n {E : Nat → Value} {d : Nat} {st : List Value} {h : gm_H} {r : gm_R × gm_H} {a1 a2 a3 a4 a5 : Value}  : gm_Go E d 104 27 [.null, a1, a2, a3, a4, a5] st h r ↔ gm_Go E d 104 28 [.null, a1, a2, a3, a4, a5] (.null :: st) h r := gr_loc m104 f104_27 rfl rfl
theorem f104_28 : gm_ft 104 28 = some (.invokevirtual 155, 3) := by decide +kernel
theorem n104_28 {st : List Value} {h : gm_H} {E : Nat → Value} {lv : List Value} {a : Nat} (hs : (st.map fun v => v.category).sum ≤ 8) (he : (gm_en1 [.ref a]).length ≤ 1) {vs : List Value} (hr : gm_rd h a = some (5, vs)) : gm_next E 104 28 lv (.ref a :: st) h = some (.inr (.inl (0, 99, [.ref a], st))) := gn_call m104 f104_28 rfl rfl rfl rfl rfl rfl rfl (gc_virt (bs := []) (w := 848) rfl rfl rfl rfl hs he hr) (by decide)
theorem f104_31 : gm_ft 104 31 = some (.istore_n 2, 1) := by decide +kernel
theorem r104_31 {E : Nat → Value} {d : Nat} {st : List Value} {h : gm_H} {r : gm_R × gm_H} {a0 a1 a2 a3 a4 a5 : Value} {x : Int32} : gm_Go E d 104 31 [a0, a1, a2, a3, a4, a5] (.int x :: st) h r ↔ gm_Go E d 104 32 [a0, gm_k a1, .int x, a3, a4, a5] st h r := gr_loc m104 f104_31 rfl rfl
theorem f104_32 : gm_ft 104 32 = some (.aload_n 0, 1) := by decide +kernel
theorem r104_32 {E : Nat → Value} {d : Nat} {st : List Value} {h : gm_H} {r : gm_R × gm_H} {a1 a2 a3 a4 a5 : Value} {x : Nat} : gm_Go E d 104 32 [.ref x, a1, a2, a3, a4, a5] st h r ↔ gm_Go E d 104 33 [.ref x, a1, a2, a3, a4, a5] (.ref x :: st) h r := gr_loc m104 f104_32 rfl rfl
theorem r104_32n {E : Nat → Value} {d : Nat} {st : List Value} {h : gm_H} {r : gm_R × gm_H} {a1 a2 a3 a4 a5 : Value}  : gm_Go E d 104 32 [.null, a1, a2, a3, a4, a5] st h r ↔ gm_Go E d 104 33 [.null, a1, a2, a3, a4, a5] (.null :: st) h r := gr_loc m104 f104_32 rfl rfl
theorem f104_33 : gm_ft 104 33 = some (.getfield 145, 3) := by decide +kernel
theorem r104_33 {E : Nat → Value} {d : Nat} {st : List Value} {h : gm_H} {r : gm_R × gm_H} {lv : List Value} {a : Nat} {vs : List Value} {v : Value} (hr : gm_rd h a = some (5, vs)) (hv : vs[8]? = some v) : gm_Go E d 104 33 lv (.ref a :: st) h r ↔ gm_Go E d 104 36 lv (v :: st) h r := gr_rd m104 f104_33 rfl rfl rfl rfl (gf_get k5_145 hr hv)
theorem f104_36 : gm_ft 104 36 = some (.ifCond .eq 4, 3) := by decide +kernel
theorem r104_36 {E : Nat → Value} {d : Nat} {st : List Value} {h : gm_H} {r : gm_R × gm_H} {lv : List Value} {x : Int32} : gm_Go E d 104 36 lv (.int x :: st) h r ↔ (if x = 0 then gm_Go E d 104 40 lv st h r else gm_Go E d 104 39 lv st h r) := (gr_br m104 f104_36 rfl rfl rfl rfl).trans gr_if
theorem f104_39 : gm_ft 104 39 = some (.return_, 1) := by decide +kernel
theorem r104_39 {E : Nat → Value} {d : Nat} {h : gm_H} {r : gm_R × gm_H} {lv : List Value} : gm_Go E d 104 39 lv [] h r ↔ r = (.inl none, h) := gr_ret m104 f104_39 rfl rfl rfl rfl rfl rfl rfl rfl rfl
theorem f104_40 : gm_ft 104 40 = some (.iload_n 2, 1) := by decide +kernel
theorem r104_40 {E : Nat → Value} {d : Nat} {st : List Value} {h : gm_H} {r : gm_R × gm_H} {a0 a1 a3 a4 a5 : Value} {x : Int32} : gm_Go E d 104 40 [a0, a1, .int x, a3, a4, a5] st h r ↔ gm_Go E d 104 41 [a0, a1, .int x, a3, a4, a5] (.int x :: st) h r := gr_loc m104 f104_40 rfl rfl
theorem f104_41 : gm_ft 104 41 = some (.bipush 112, 2) := by decide +kernel
theorem r104_41 {E : Nat → Value} {d : Nat} {st : List Value} {h : gm_H} {r : gm_R × gm_H} {lv : List Value} : gm_Go E d 104 41 lv st h r ↔ gm_Go E d 104 43 lv (.int (112 : Int32) :: st) h r := gr_pure m104 f104_41 rfl
theorem f104_43 : gm_ft 104 43 = some (.if_icmp .ne 12, 3) := by decide +kernel
theorem r104_43 {E : Nat → Value} {d : Nat} {st : List Value} {h : gm_H} {r : gm_R × gm_H} {lv : List Value} {x y : Int32} : gm_Go E d 104 43 lv (.int y :: .int x :: st) h r ↔ (if x = y then gm_Go E d 104 46 lv st h r else gm_Go E d 104 55 lv st h r) := (gr_br m104 f104_43 rfl rfl rfl rfl).trans gr_ifn
theorem f104_46 : gm_ft 104 46 = some (.aload_n 0, 1) := by decide +kernel
theorem r104_46 {E : Nat → Value} {d : Nat} {st : List Value} {h : gm_H} {r : gm_R × gm_H} {a1 a2 a3 a4 a5 : Value} {x : Nat} : gm_Go E d 104 46 [.ref x, a1, a2, a3, a4, a5] st h r ↔ gm_Go E d 104 47 [.ref x, a1, a2, a3, a4, a5] (.ref x :: st) h r := gr_loc m104 f104_46 rfl rfl
theorem r104_46n {E : Nat → Value} {d : Nat} {st : List Value} {h : gm_H} {r : gm_R × gm_H} {a1 a2 a3 a4 a5 : Value}  : gm_Go E d 104 46 [.null, a1, a2, a3, a4, a5] st h r ↔ gm_Go E d 104 47 [.null, a1, a2, a3, a4, a5] (.null :: st) h r := gr_loc m104 f104_46 rfl rfl
theorem f104_47 : gm_ft 104 47 = some (.bipush (-2), 2) := by decide +kernel
theorem r104_47 {E : Nat → Value} {d : Nat} {st : List Value} {h : gm_H} {r : gm_R × gm_H} {lv : List Value} : gm_Go E d 104 47 lv st h r ↔ gm_Go E d 104 49 lv (.int (-2 : Int32) :: st) h r := gr_pure m104 f104_47 rfl
theorem f104_49 : gm_ft 104 49 = some (.invokevirtual 182, 3) := by decide +kernel
theorem n104_49 {st : List Value} {h : gm_H} {E : Nat → Value} {lv : List Value} {b0 : Value} {a : Nat} (hs : (st.map fun v => v.category).sum ≤ 8) (he : (gm_en1 [.ref a, b0]).length ≤ 2) {vs : List Value} (hr : gm_rd h a = some (5, vs)) : gm_next E 104 49 lv (b0 :: .ref a :: st) h = some (.inr (.inl (0, 105, [.ref a, b0], st))) := gn_call m104 f104_49 rfl rfl rfl rfl rfl rfl rfl (gc_virt (bs := [b0]) (w := 872) rfl rfl rfl rfl hs he hr) (by decide)
theorem f104_52 : gm_ft 104 52 = some (.goto 258, 3) := by decide +kernel
theorem r104_52 {E : Nat → Value} {d : Nat} {st : List Value} {h : gm_H} {r : gm_R × gm_H} {lv : List Value} : gm_Go E d 104 52 lv st h r ↔ gm_Go E d 104 310 lv st h r := gr_brT m104 f104_52 rfl rfl rfl rfl
theorem f104_55 : gm_ft 104 55 = some (.iload_n 2, 1) := by decide +kernel
theorem r104_55 {E : Nat → Value} {d : Nat} {st : List Value} {h : gm_H} {r : gm_R × gm_H} {a0 a1 a3 a4 a5 : Value} {x : Int32} : gm_Go E d 104 55 [a0, a1, .int x, a3, a4, a5] st h r ↔ gm_Go E d 104 56 [a0, a1, .int x, a3, a4, a5] (.int x :: st) h r := gr_loc m104 f104_55 rfl rfl
theorem f104_56 : gm_ft 104 56 = some (.bipush 113, 2) := by decide +kernel
theorem r104_56 {E : Nat → Value} {d : Nat} {st : List Value} {h : gm_H} {r : gm_R × gm_H} {lv : List Value} : gm_Go E d 104 56 lv st h r ↔ gm_Go E d 104 58 lv (.int (113 : Int32) :: st) h r := gr_pure m104 f104_56 rfl
theorem f104_58 : gm_ft 104 58 = some (.if_icmp .ne 12, 3) := by decide +kernel
theorem r104_58 {E : Nat → Value} {d : Nat} {st : List Value} {h : gm_H} {r : gm_R × gm_H} {lv : List Value} {x y : Int32} : gm_Go E d 104 58 lv (.int y :: .int x :: st) h r ↔ (if x = y then gm_Go E d 104 61 lv st h r else gm_Go E d 104 70 lv st h r) := (gr_br m104 f104_58 rfl rfl rfl rfl).trans gr_ifn
theorem f104_61 : gm_ft 104 61 = some (.aload_n 0, 1) := by decide +kernel
theorem r104_61 {E : Nat → Value} {d : Nat} {st : List Value} {h : gm_H} {r : gm_R × gm_H} {a1 a2 a3 a4 a5 : Value} {x : Nat} : gm_Go E d 104 61 [.ref x, a1, a2, a3, a4, a5] st h r ↔ gm_Go E d 104 62 [.ref x, a1, a2, a3, a4, a5] (.ref x :: st) h r := gr_loc m104 f104_61 rfl rfl
theorem r104_61n {E : Nat → Value} {d : Nat} {st : List Value} {h : gm_H} {r : gm_R × gm_H} {a1 a2 a3 a4 a5 : Value}  : gm_Go E d 104 61 [.null, a1, a2, a3, a4, a5] st h r ↔ gm_Go E d 104 62 [.null, a1, a2, a3, a4, a5] (.null :: st) h r := gr_loc m104 f104_61 rfl rfl
theorem f104_62 : gm_ft 104 62 = some (.iload_n 1, 1) := by decide +kernel
theorem r104_62 {E : Nat → Value} {d : Nat} {st : List Value} {h : gm_H} {r : gm_R × gm_H} {a0 a2 a3 a4 a5 : Value} {x : Int32} : gm_Go E d 104 62 [a0, .int x, a2, a3, a4, a5] st h r ↔ gm_Go E d 104 63 [a0, .int x, a2, a3, a4, a5] (.int x :: st) h r := gr_loc m104 f104_62 rfl rfl
theorem f104_63 : gm_ft 104 63 = some (.iconst 0, 1) := by decide +kernel
theorem r104_63 {E : Nat → Value} {d : Nat} {st : List Value} {h : gm_H} {r : gm_R × gm_H} {lv : List Value} : gm_Go E d 104 63 lv st h r ↔ gm_Go E d 104 64 lv (.int (0 : Int32) :: st) h r := gr_pure m104 f104_63 rfl
theorem f104_64 : gm_ft 104 64 = some (.invokevirtual 185, 3) := by decide +kernel
theorem n104_64 {st : List Value} {h : gm_H} {E : Nat → Value} {lv : List Value} {b0 b1 : Value} {a : Nat} (hs : (st.map fun v => v.category).sum ≤ 8) (he : (gm_en1 [.ref a, b0, b1]).length ≤ 5) {vs : List Value} (hr : gm_rd h a = some (5, vs)) : gm_next E 104 64 lv (b1 :: b0 :: .ref a :: st) h = some (.inr (.inl (0, 106, [.ref a, b0, b1], st))) := gn_call m104 f104_64 rfl rfl rfl rfl rfl rfl rfl (gc_virt (bs := [b1, b0]) (w := 876) rfl rfl rfl rfl hs he hr) (by decide)
theorem f104_67 : gm_ft 104 67 = some (.goto 243, 3) := by decide +kernel
theorem r104_67 {E : Nat → Value} {d : Nat} {st : List Value} {h : gm_H} {r : gm_R × gm_H} {lv : List Value} : gm_Go E d 104 67 lv st h r ↔ gm_Go E d 104 310 lv st h r := gr_brT m104 f104_67 rfl rfl rfl rfl
theorem f104_70 : gm_ft 104 70 = some (.iload_n 2, 1) := by decide +kernel
theorem r104_70 {E : Nat → Value} {d : Nat} {st : List Value} {h : gm_H} {r : gm_R × gm_H} {a0 a1 a3 a4 a5 : Value} {x : Int32} : gm_Go E d 104 70 [a0, a1, .int x, a3, a4, a5] st h r ↔ gm_Go E d 104 71 [a0, a1, .int x, a3, a4, a5] (.int x :: st) h r := gr_loc m104 f104_70 rfl rfl
theorem f104_71 : gm_ft 104 71 = some (.bipush 116, 2) := by decide +kernel
theorem r104_71 {E : Nat → Value} {d : Nat} {st : List Value} {h : gm_H} {r : gm_R × gm_H} {lv : List Value} : gm_Go E d 104 71 lv st h r ↔ gm_Go E d 104 73 lv (.int (116 : Int32) :: st) h r := gr_pure m104 f104_71 rfl
theorem f104_73 : gm_ft 104 73 = some (.if_icmp .ne 65, 3) := by decide +kernel
theorem r104_73 {E : Nat → Value} {d : Nat} {st : List Value} {h : gm_H} {r : gm_R × gm_H} {lv : List Value} {x y : Int32} : gm_Go E d 104 73 lv (.int y :: .int x :: st) h r ↔ (if x = y then gm_Go E d 104 76 lv st h r else gm_Go E d 104 138 lv st h r) := (gr_br m104 f104_73 rfl rfl rfl rfl).trans gr_ifn
theorem f104_76 : gm_ft 104 76 = some (.aload_n 0, 1) := by decide +kernel
theorem r104_76 {E : Nat → Value} {d : Nat} {st : List Value} {h : gm_H} {r : gm_R × gm_H} {a1 a2 a3 a4 a5 : Value} {x : Nat} : gm_Go E d 104 76 [.ref x, a1, a2, a3, a4, a5] st h r ↔ gm_Go E d 104 77 [.ref x, a1, a2, a3, a4, a5] (.ref x :: st) h r := gr_loc m104 f104_76 rfl rfl
theorem r104_76n {E : Nat → Value} {d : Nat} {st : List Value} {h : gm_H} {r : gm_R × gm_H} {a1 a2 a3 a4 a5 : Value}  : gm_Go E d 104 76 [.null, a1, a2, a3, a4, a5] st h r ↔ gm_Go E d 104 77 [.null, a1, a2, a3, a4, a5] (.null :: st) h r := gr_loc m104 f104_76 rfl rfl
theorem f104_77 : gm_ft 104 77 = some (.iconst 0, 1) := by decide +kernel
theorem r104_77 {E : Nat → Value} {d : Nat} {st : List Value} {h : gm_H} {r : gm_R × gm_H} {lv : List Value} : gm_Go E d 104 77 lv st h r ↔ gm_Go E d 104 78 lv (.int (0 : Int32) :: st) h r := gr_pure m104 f104_77 rfl
theorem f104_78 : gm_ft 104 78 = some (.iconst 0, 1) := by decide +kernel
theorem r104_78 {E : Nat → Value} {d : Nat} {st : List Value} {h : gm_H} {r : gm_R × gm_H} {lv : List Value} : gm_Go E d 104 78 lv st h r ↔ gm_Go E d 104 79 lv (.int (0 : Int32) :: st) h r := gr_pure m104 f104_78 rfl
theorem f104_79 : gm_ft 104 79 = some (.invokevirtual 189, 3) := by decide +kernel
theorem n104_79 {st : List Value} {h : gm_H} {E : Nat → Value} {lv : List Value} {b0 b1 : Value} {a : Nat} (hs : (st.map fun v => v.category).sum ≤ 8) (he : (gm_en1 [.ref a, b0, b1]).length ≤ 3) {vs : List Value} (hr : gm_rd h a = some (5, vs)) : gm_next E 104 79 lv (b1 :: b0 :: .ref a :: st) h = some (.inr (.inl (0, 108, [.ref a, b0, b1], st))) := gn_call m104 f104_79 rfl rfl rfl rfl rfl rfl rfl (gc_virt (bs := [b1, b0]) (w := 885) rfl rfl rfl rfl hs he hr) (by decide)
theorem f104_82 : gm_ft 104 82 = some (.istore_n 3, 1) := by decide +kernel
theorem r104_82 {E : Nat → Value} {d : Nat} {st : List Value} {h : gm_H} {r : gm_R × gm_H} {a0 a1 a2 a3 a4 a5 : Value} {x : Int32} : gm_Go E d 104 82 [a0, a1, a2, a3, a4, a5] (.int x :: st) h r ↔ gm_Go E d 104 83 [a0, a1, gm_k a2, .int x, a4, a5] st h r := gr_loc m104 f104_82 rfl rfl
theorem f104_83 : gm_ft 104 83 = some (.aload_n 0, 1) := by decide +kernel
theorem r104_83 {E : Nat → Value} {d : Nat} {st : List Value} {h : gm_H} {r : gm_R × gm_H} {a1 a2 a3 a4 a5 : Value} {x : Nat} : gm_Go E d 104 83 [.ref x, a1, a2, a3, a4, a5] st h r ↔ gm_Go E d 104 84 [.ref x, a1, a2, a3, a4, a5] (.ref x :: st) h r := gr_loc m104 f104_83 rfl rfl
theorem r104_83n {E : Nat → Value} {d : Nat} {st : List Value} {h : gm_H} {r : gm_R × gm_H} {a1 a2 a3 a4 a5 : Value}  : gm_Go E d 104 83 [.null, a1, a2, a3, a4, a5] st h r ↔ gm_Go E d 104 84 [.null, a1, a2, a3, a4, a5] (.null :: st) h r := gr_loc m104 f104_83 rfl rfl
theorem f104_84 : gm_ft 104 84 = some (.invokevirtual 193, 3) := by decide +kernel
theorem n104_84 {st : List Value} {h : gm_H} {E : Nat → Value} {lv : List Value} {a : Nat} (hs : (st.map fun v => v.category).sum ≤ 8) (he : (gm_en1 [.ref a]).length ≤ 4) {vs : List Value} (hr : gm_rd h a = some (5, vs)) : gm_next E 104 84 lv (.ref a :: st) h = some (.inr (.inl (0, 109, [.ref a], st))) := gn_call m104 f104_84 rfl rfl rfl rfl rfl rfl rfl (gc_virt (bs := []) (w := 889) rfl rfl rfl rfl hs he hr) (by decide)
theorem f104_87 : gm_ft 104 87 = some (.istore 4, 2) := by decide +kernel
theorem r104_87 {E : Nat → Value} {d : Nat} {st : List Value} {h : gm_H} {r : gm_R × gm_H} {a0 a1 a2 a3 a4 a5 : Value} {x : Int32} : gm_Go E d 104 87 [a0, a1, a2, a3, a4, a5] (.int x :: st) h r ↔ gm_Go E d 104 89 [a0, a1, a2, gm_k a3, .int x, a5] st h r := gr_loc m104 f104_87 rfl rfl
theorem f104_89 : gm_ft 104 89 = some (.aload_n 0, 1) := by decide +kernel
theorem r104_89 {E : Nat → Value} {d : Nat} {st : List Value} {h : gm_H} {r : gm_R × gm_H} {a1 a2 a3 a4 a5 : Value} {x : Nat} : gm_Go E d 104 89 [.ref x, a1, a2, a3, a4, a5] st h r ↔ gm_Go E d 104 90 [.ref x, a1, a2, a3, a4, a5] (.ref x :: st) h r := gr_loc m104 f104_89 rfl rfl
theorem r104_89n {E : Nat → Value} {d : Nat} {st : List Value} {h : gm_H} {r : gm_R × gm_H} {a1 a2 a3 a4 a5 : Value}  : gm_Go E d 104 89 [.null, a1, a2, a3, a4, a5] st h r ↔ gm_Go E d 104 90 [.null, a1, a2, a3, a4, a5] (.null :: st) h r := gr_loc m104 f104_89 rfl rfl
theorem f104_90 : gm_ft 104 90 = some (.getfield 145, 3) := by decide +kernel
theorem r104_90 {E : Nat → Value} {d : Nat} {st : List Value} {h : gm_H} {r : gm_R × gm_H} {lv : List Value} {a : Nat} {vs : List Value} {v : Value} (hr : gm_rd h a = some (5, vs)) (hv : vs[8]? = some v) : gm_Go E d 104 90 lv (.ref a :: st) h r ↔ gm_Go E d 104 93 lv (v :: st) h r := gr_rd m104 f104_90 rfl rfl rfl rfl (gf_get k5_145 hr hv)
theorem f104_93 : gm_ft 104 93 = some (.ifCond .eq 4, 3) := by decide +kernel
theorem r104_93 {E : Nat → Value} {d : Nat} {st : List Value} {h : gm_H} {r : gm_R × gm_H} {lv : List Value} {x : Int32} : gm_Go E d 104 93 lv (.int x :: st) h r ↔ (if x = 0 then gm_Go E d 104 97 lv st h r else gm_Go E d 104 96 lv st h r) := (gr_br m104 f104_93 rfl rfl rfl rfl).trans gr_if
theorem f104_96 : gm_ft 104 96 = some (.return_, 1) := by decide +kernel
theorem r104_96 {E : Nat → Value} {d : Nat} {h : gm_H} {r : gm_R × gm_H} {lv : List Value} : gm_Go E d 104 96 lv [] h r ↔ r = (.inl none, h) := gr_ret m104 f104_96 rfl rfl rfl rfl rfl rfl rfl rfl rfl
theorem f104_97 : gm_ft 104 97 = some (.aload_n 0, 1) := by decide +kernel
theorem r104_97 {E : Nat → Value} {d : Nat} {st : List Value} {h : gm_H} {r : gm_R × gm_H} {a1 a2 a3 a4 a5 : Value} {x : Nat} : gm_Go E d 104 97 [.ref x, a1, a2, a3, a4, a5] st h r ↔ gm_Go E d 104 98 [.ref x, a1, a2, a3, a4, a5] (.ref x :: st) h r := gr_loc m104 f104_97 rfl rfl
theorem r104_97n {E : Nat → Value} {d : Nat} {st : List Value} {h : gm_H} {r : gm_R × gm_H} {a1 a2 a3 a4 a5 : Value}  : gm_Go E d 104 97 [.null, a1, a2, a3, a4, a5] st h r ↔ gm_Go E d 104 98 [.null, a1, a2, a3, a4, a5] (.null :: st) h r := gr_loc m104 f104_97 rfl rfl
theorem f104_98 : gm_ft 104 98 = some (.iconst 1, 1) := by decide +kernel
theorem r104_98 {E : Nat → Value} {d : Nat} {st : List Value} {h : gm_H} {r : gm_R × gm_H} {lv : List Value} : gm_Go E d 104 98 lv st h r ↔ gm_Go E d 104 99 lv (.int (1 : Int32) :: st) h r := gr_pure m104 f104_98 rfl
theorem f104_99 : gm_ft 104 99 = some (.iconst (-1), 1) := by decide +kernel
theorem r104_99 {E : Nat → Value} {d : Nat} {st : List Value} {h : gm_H} {r : gm_R × gm_H} {lv : List Value} : gm_Go E d 104 99 lv st h r ↔ gm_Go E d 104 100 lv (.int (-1 : Int32) :: st) h r := gr_pure m104 f104_99 rfl
theorem f104_100 : gm_ft 104 100 = some (.iload 4, 2) := by decide +kernel
theorem r104_100 {E : Nat → Value} {d : Nat} {st : List Value} {h : gm_H} {r : gm_R × gm_H} {a0 a1 a2 a3 a5 : Value} {x : Int32} : gm_Go E d 104 100 [a0, a1, a2, a3, .int x, a5] st h r ↔ gm_Go E d 104 102 [a0, a1, a2, a3, .int x, a5] (.int x :: st) h r := gr_loc m104 f104_100 rfl rfl
theorem f104_102 : gm_ft 104 102 = some (.aload_n 0, 1) := by decide +kernel
theorem r104_102 {E : Nat → Value} {d : Nat} {st : List Value} {h : gm_H} {r : gm_R × gm_H} {a1 a2 a3 a4 a5 : Value} {x : Nat} : gm_Go E d 104 102 [.ref x, a1, a2, a3, a4, a5] st h r ↔ gm_Go E d 104 103 [.ref x, a1, a2, a3, a4, a5] (.ref x :: st) h r := gr_loc m104 f104_102 rfl rfl
theorem r104_102n {E : Nat → Value} {d : Nat} {st : List Value} {h : gm_H} {r : gm_R × gm_H} {a1 a2 a3 a4 a5 : Value}  : gm_Go E d 104 102 [.null, a1, a2, a3, a4, a5] st h r ↔ gm_Go E d 104 103 [.null, a1, a2, a3, a4, a5] (.null :: st) h r := gr_loc m104 f104_102 rfl rfl
theorem f104_103 : gm_ft 104 103 = some (.getfield 148, 3) := by decide +kernel
theorem r104_103 {E : Nat → Value} {d : Nat} {st : List Value} {h : gm_H} {r : gm_R × gm_H} {lv : List Value} {a : Nat} {vs : List Value} {v : Value} (hr : gm_rd h a = some (5, vs)) (hv : vs[6]? = some v) : gm_Go E d 104 103 lv (.ref a :: st) h r ↔ gm_Go E d 104 106 lv (v :: st) h r := gr_rd m104 f104_103 rfl rfl rfl rfl (gf_get k5_148 hr hv)
theorem f104_106 : gm_ft 104 106 = some (.iload 4, 2) := by decide +kernel
theorem r104_106 {E : Nat → Value} {d : Nat} {st : List Value} {h : gm_H} {r : gm_R × gm_H} {a0 a1 a2 a3 a5 : Value} {x : Int32} : gm_Go E d 104 106 [a0, a1, a2, a3, .int x, a5] st h r ↔ gm_Go E d 104 108 [a0, a1, a2, a3, .int x, a5] (.int x :: st) h r := gr_loc m104 f104_106 rfl rfl
theorem f104_108 : gm_ft 104 108 = some (.isub, 1) := by decide +kernel
theorem r104_108 {E : Nat → Value} {d : Nat} {st : List Value} {h : gm_H} {r : gm_R × gm_H} {lv : List Value} {x y : Int32} : gm_Go E d 104 108 lv (.int y :: .int x :: st) h r ↔ gm_Go E d 104 109 lv (.int (x - y) :: st) h r := gr_pure m104 f104_108 rfl
theorem f104_109 : gm_ft 104 109 = some (.invokevirtual 196, 3) := by decide +kernel
theorem n104_109 {st : List Value} {h : gm_H} {E : Nat → Value} {lv : List Value} {b0 b1 b2 b3 : Value} {a : Nat} (hs : (st.map fun v => v.category).sum ≤ 8) (he : (gm_en1 [.ref a, b0, b1, b2, b3]).length ≤ 5) {vs : List Value} (hr : gm_rd h a = some (5, vs)) : gm_next E 104 109 lv (b3 :: b2 :: b1 :: b0 :: .ref a :: st) h = some (.inr (.inl (0, 110, [.ref a, b0, b1, b2, b3], st))) := gn_call m104 f104_109 rfl rfl rfl rfl rfl rfl rfl (gc_virt (bs := [b3, b2, b1, b0]) (w := 893) rfl rfl rfl rfl hs he hr) (by decide)
theorem f104_112 : gm_ft 104 112 = some (.istore 5, 2) := by decide +kernel
theorem r104_112 {E : Nat → Value} {d : Nat} {st : List Value} {h : gm_H} {r : gm_R × gm_H} {a0 a1 a2 a3 a4 a5 : Value} {x : Int32} : gm_Go E d 104 112 [a0, a1, a2, a3, a4, a5] (.int x :: st) h r ↔ gm_Go E d 104 114 [a0, a1, a2, a3, gm_k a4, .int x] st h r := gr_loc m104 f104_112 rfl rfl
theorem f104_114 : gm_ft 104 114 = some (.aload_n 0, 1) := by decide +kernel
theorem r104_114 {E : Nat → Value} {d : Nat} {st : List Value} {h : gm_H} {r : gm_R × gm_H} {a1 a2 a3 a4 a5 : Value} {x : Nat} : gm_Go E d 104 114 [.ref x, a1, a2, a3, a4, a5] st h r ↔ gm_Go E d 104 115 [.ref x, a1, a2, a3, a4, a5] (.ref x :: st) h r := gr_loc m104 f104_114 rfl rfl
theorem r104_114n {E : Nat → Value} {d : Nat} {st : List Value} {h : gm_H} {r : gm_R × gm_H} {a1 a2 a3 a4 a5 : Value}  : gm_Go E d 104 114 [.null, a1, a2, a3, a4, a5] st h r ↔ gm_Go E d 104 115 [.null, a1, a2, a3, a4, a5] (.null :: st) h r := gr_loc m104 f104_114 rfl rfl
theorem f104_115 : gm_ft 104 115 = some (.getfield 57, 3) := by decide +kernel
theorem r104_115 {E : Nat → Value} {d : Nat} {st : List Value} {h : gm_H} {r : gm_R × gm_H} {lv : List Value} {a : Nat} {vs : List Value} {v : Value} (hr : gm_rd h a = some (5, vs)) (hv : vs[26]? = some v) : gm_Go E d 104 115 lv (.ref a :: st) h r ↔ gm_Go E d 104 118 lv (v :: st) h r := gr_rd m104 f104_115 rfl rfl rfl rfl (gf_get k5_57 hr hv)
theorem f104_118 : gm_ft 104 118 = some (.iload_n 3, 1) := by decide +kernel
theorem r104_118 {E : Nat → Value} {d : Nat} {st : List Value} {h : gm_H} {r : gm_R × gm_H} {a0 a1 a2 a4 a5 : Value} {x : Int32} : gm_Go E d 104 118 [a0, a1, a2, .int x, a4, a5] st h r ↔ gm_Go E d 104 119 [a0, a1, a2, .int x, a4, a5] (.int x :: st) h r := gr_loc m104 f104_118 rfl rfl
theorem f104_119 : gm_ft 104 119 = some (.iconst 2, 1) := by decide +kernel
theorem r104_119 {E : Nat → Value} {d : Nat} {st : List Value} {h : gm_H} {r : gm_R × gm_H} {lv : List Value} : gm_Go E d 104 119 lv st h r ↔ gm_Go E d 104 120 lv (.int (2 : Int32) :: st) h r := gr_pure m104 f104_119 rfl
theorem f104_120 : gm_ft 104 120 = some (.iastore, 1) := by decide +kernel
theorem r104_120 {E : Nat → Value} {d : Nat} {st : List Value} {h : gm_H} {r : gm_R × gm_H} {lv : List Value} {a k j : Nat} {vs : List Value} {x : Int32} (hr : gm_rd h a = some (k, vs)) (hk : 100 ≤ k ∧ k % 100 = 0 ∧ gm_ko k = 2 ∧ 2 < 3) (hj : j < 2 ^ 31) (hl : j < vs.length) : gm_Go E d 104 120 lv (.int x :: .int (nI j) :: .ref a :: st) h r ↔ gm_Go E d 104 121 lv st (gm_wr h a (k, vs.set j (.int x))) r := gr_wr m104 f104_120 rfl rfl rfl rfl rfl (ga_st hr hk hj hl)
theorem f104_121 : gm_ft 104 121 = some (.aload_n 0, 1) := by decide +kernel
theorem r104_121 {E : Nat → Value} {d : Nat} {st : List Value} {h : gm_H} {r : gm_R × gm_H} {a1 a2 a3 a4 a5 : Value} {x : Nat} : gm_Go E d 104 121 [.ref x, a1, a2, a3, a4, a5] st h r ↔ gm_Go E d 104 122 [.ref x, a1, a2, a3, a4, a5] (.ref x :: st) h r := gr_loc m104 f104_121 rfl rfl
theorem r104_121n {E : Nat → Value} {d : Nat} {st : List Value} {h : gm_H} {r : gm_R × gm_H} {a1 a2 a3 a4 a5 : Value}  : gm_Go E d 104 121 [.null, a1, a2, a3, a4, a5] st h r ↔ gm_Go E d 104 122 [.null, a1, a2, a3, a4, a5] (.null :: st) h r := gr_loc m104 f104_121 rfl rfl
theorem f104_122 : gm_ft 104 122 = some (.getfield 60, 3) := by decide +kernel
theorem r104_122 {E : Nat → Value} {d : Nat} {st : List Value} {h : gm_H} {r : gm_R × gm_H} {lv : List Value} {a : Nat} {vs : List Value} {v : Value} (hr : gm_rd h a = some (5, vs)) (hv : vs[27]? = some v) : gm_Go E d 104 122 lv (.ref a :: st) h r ↔ gm_Go E d 104 125 lv (v :: st) h r := gr_rd m104 f104_122 rfl rfl rfl rfl (gf_get k5_60 hr hv)
theorem f104_125 : gm_ft 104 125 = some (.iload_n 3, 1) := by decide +kernel
theorem r104_125 {E : Nat → Value} {d : Nat} {st : List Value} {h : gm_H} {r : gm_R × gm_H} {a0 a1 a2 a4 a5 : Value} {x : Int32} : gm_Go E d 104 125 [a0, a1, a2, .int x, a4, a5] st h r ↔ gm_Go E d 104 126 [a0, a1, a2, .int x, a4, a5] (.int x :: st) h r := gr_loc m104 f104_125 rfl rfl
theorem f104_126 : gm_ft 104 126 = some (.iload 5, 2) := by decide +kernel
theorem r104_126 {E : Nat → Value} {d : Nat} {st : List Value} {h : gm_H} {r : gm_R × gm_H} {a0 a1 a2 a3 a4 : Value} {x : Int32} : gm_Go E d 104 126 [a0, a1, a2, a3, a4, .int x] st h r ↔ gm_Go E d 104 128 [a0, a1, a2, a3, a4, .int x] (.int x :: st) h r := gr_loc m104 f104_126 rfl rfl
theorem f104_128 : gm_ft 104 128 = some (.iastore, 1) := by decide +kernel
theorem r104_128 {E : Nat → Value} {d : Nat} {st : List Value} {h : gm_H} {r : gm_R × gm_H} {lv : List Value} {a k j : Nat} {vs : List Value} {x : Int32} (hr : gm_rd h a = some (k, vs)) (hk : 100 ≤ k ∧ k % 100 = 0 ∧ gm_ko k = 2 ∧ 2 < 3) (hj : j < 2 ^ 31) (hl : j < vs.length) : gm_Go E d 104 128 lv (.int x :: .int (nI j) :: .ref a :: st) h r ↔ gm_Go E d 104 129 lv st (gm_wr h a (k, vs.set j (.int x))) r := gr_wr m104 f104_128 rfl rfl rfl rfl rfl (ga_st hr hk hj hl)
theorem f104_129 : gm_ft 104 129 = some (.aload_n 0, 1) := by decide +kernel
theorem r104_129 {E : Nat → Value} {d : Nat} {st : List Value} {h : gm_H} {r : gm_R × gm_H} {a1 a2 a3 a4 a5 : Value} {x : Nat} : gm_Go E d 104 129 [.ref x, a1, a2, a3, a4, a5] st h r ↔ gm_Go E d 104 130 [.ref x, a1, a2, a3, a4, a5] (.ref x :: st) h r := gr_loc m104 f104_129 rfl rfl
theorem r104_129n {E : Nat → Value} {d : Nat} {st : List Value} {h : gm_H} {r : gm_R × gm_H} {a1 a2 a3 a4 a5 : Value}  : gm_Go E d 104 129 [.null, a1, a2, a3, a4, a5] st h r ↔ gm_Go E d 104 130 [.null, a1, a2, a3, a4, a5] (.null :: st) h r := gr_loc m104 f104_129 rfl rfl
theorem f104_130 : gm_ft 104 130 = some (.iload 5, 2) := by decide +kernel
theorem r104_130 {E : Nat → Value} {d : Nat} {st : List Value} {h : gm_H} {r : gm_R × gm_H} {a0 a1 a2 a3 a4 : Value} {x : Int32} : gm_Go E d 104 130 [a0, a1, a2, a3, a4, .int x] st h r ↔ gm_Go E d 104 132 [a0, a1, a2, a3, a4, .int x] (.int x :: st) h r := gr_loc m104 f104_130 rfl rfl
theorem f104_132 : gm_ft 104 132 = some (.invokevirtual 182, 3) := by decide +kernel
theorem n104_132 {st : List Value} {h : gm_H} {E : Nat → Value} {lv : List Value} {b0 : Value} {a : Nat} (hs : (st.map fun v => v.category).sum ≤ 8) (he : (gm_en1 [.ref a, b0]).length ≤ 2) {vs : List Value} (hr : gm_rd h a = some (5, vs)) : gm_next E 104 132 lv (b0 :: .ref a :: st) h = some (.inr (.inl (0, 105, [.ref a, b0], st))) := gn_call m104 f104_132 rfl rfl rfl rfl rfl rfl rfl (gc_virt (bs := [b0]) (w := 872) rfl rfl rfl rfl hs he hr) (by decide)
theorem f104_135 : gm_ft 104 135 = some (.goto 175, 3) := by decide +kernel
theorem r104_135 {E : Nat → Value} {d : Nat} {st : List Value} {h : gm_H} {r : gm_R × gm_H} {lv : List Value} : gm_Go E d 104 135 lv st h r ↔ gm_Go E d 104 310 lv st h r := gr_brT m104 f104_135 rfl rfl rfl rfl
theorem f104_138 : gm_ft 104 138 = some (.iload_n 2, 1) := by decide +kernel
theorem r104_138 {E : Nat → Value} {d : Nat} {st : List Value} {h : gm_H} {r : gm_R × gm_H} {a0 a1 a3 a4 a5 : Value} {x : Int32} : gm_Go E d 104 138 [a0, a1, .int x, a3, a4, a5] st h r ↔ gm_Go E d 104 139 [a0, a1, .int x, a3, a4, a5] (.int x :: st) h r := gr_loc m104 f104_138 rfl rfl
theorem f104_139 : gm_ft 104 139 = some (.bipush 114, 2) := by decide +kernel
theorem r104_139 {E : Nat → Value} {d : Nat} {st : List Value} {h : gm_H} {r : gm_R × gm_H} {lv : List Value} : gm_Go E d 104 139 lv st h r ↔ gm_Go E d 104 141 lv (.int (114 : Int32) :: st) h r := gr_pure m104 f104_139 rfl
theorem f104_141 : gm_ft 104 141 = some (.if_icmp .eq 21, 3) := by decide +kernel
theorem r104_141 {E : Nat → Value} {d : Nat} {st : List Value} {h : gm_H} {r : gm_R × gm_H} {lv : List Value} {x y : Int32} : gm_Go E d 104 141 lv (.int y :: .int x :: st) h r ↔ (if x = y then gm_Go E d 104 162 lv st h r else gm_Go E d 104 144 lv st h r) := (gr_br m104 f104_141 rfl rfl rfl rfl).trans gr_if
theorem f104_144 : gm_ft 104 144 = some (.iload_n 2, 1) := by decide +kernel
theorem r104_144 {E : Nat → Value} {d : Nat} {st : List Value} {h : gm_H} {r : gm_R × gm_H} {a0 a1 a3 a4 a5 : Value} {x : Int32} : gm_Go E d 104 144 [a0, a1, .int x, a3, a4, a5] st h r ↔ gm_Go E d 104 145 [a0, a1, .int x, a3, a4, a5] (.int x :: st) h r := gr_loc m104 f104_144 rfl rfl
theorem f104_145 : gm_ft 104 145 = some (.bipush 115, 2) := by decide +kernel
theorem r104_145 {E : Nat → Value} {d : Nat} {st : List Value} {h : gm_H} {r : gm_R × gm_H} {lv : List Value} : gm_Go E d 104 145 lv st h r ↔ gm_Go E d 104 147 lv (.int (115 : Int32) :: st) h r := gr_pure m104 f104_145 rfl
theorem f104_147 : gm_ft 104 147 = some (.if_icmp .eq 15, 3) := by decide +kernel
theorem r104_147 {E : Nat → Value} {d : Nat} {st : List Value} {h : gm_H} {r : gm_R × gm_H} {lv : List Value} {x y : Int32} : gm_Go E d 104 147 lv (.int y :: .int x :: st) h r ↔ (if x = y then gm_Go E d 104 162 lv st h r else gm_Go E d 104 150 lv st h r) := (gr_br m104 f104_147 rfl rfl rfl rfl).trans gr_if
theorem f104_150 : gm_ft 104 150 = some (.iload_n 2, 1) := by decide +kernel
theorem r104_150 {E : Nat → Value} {d : Nat} {st : List Value} {h : gm_H} {r : gm_R × gm_H} {a0 a1 a3 a4 a5 : Value} {x : Int32} : gm_Go E d 104 150 [a0, a1, .int x, a3, a4, a5] st h r ↔ gm_Go E d 104 151 [a0, a1, .int x, a3, a4, a5] (.int x :: st) h r := gr_loc m104 f104_150 rfl rfl
theorem f104_151 : gm_ft 104 151 = some (.bipush 117, 2) := by decide +kernel
theorem r104_151 {E : Nat → Value} {d : Nat} {st : List Value} {h : gm_H} {r : gm_R × gm_H} {lv : List Value} : gm_Go E d 104 151 lv st h r ↔ gm_Go E d 104 153 lv (.int (117 : Int32) :: st) h r := gr_pure m104 f104_151 rfl
theorem f104_153 : gm_ft 104 153 = some (.if_icmp .eq 9, 3) := by decide +kernel
theorem r104_153 {E : Nat → Value} {d : Nat} {st : List Value} {h : gm_H} {r : gm_R × gm_H} {lv : List Value} {x y : Int32} : gm_Go E d 104 153 lv (.int y :: .int x :: st) h r ↔ (if x = y then gm_Go E d 104 162 lv st h r else gm_Go E d 104 156 lv st h r) := (gr_br m104 f104_153 rfl rfl rfl rfl).trans gr_if
theorem f104_156 : gm_ft 104 156 = some (.iload_n 2, 1) := by decide +kernel
theorem r104_156 {E : Nat → Value} {d : Nat} {st : List Value} {h : gm_H} {r : gm_R × gm_H} {a0 a1 a3 a4 a5 : Value} {x : Int32} : gm_Go E d 104 156 [a0, a1, .int x, a3, a4, a5] st h r ↔ gm_Go E d 104 157 [a0, a1, .int x, a3, a4, a5] (.int x :: st) h r := gr_loc m104 f104_156 rfl rfl
theorem f104_157 : gm_ft 104 157 = some (.bipush 126, 2) := by decide +kernel
theorem r104_157 {E : Nat → Value} {d : Nat} {st : List Value} {h : gm_H} {r : gm_R × gm_H} {lv : List Value} : gm_Go E d 104 157 lv st h r ↔ gm_Go E d 104 159 lv (.int (126 : Int32) :: st) h r := gr_pure m104 f104_157 rfl
theorem f104_159 : gm_ft 104 159 = some (.if_icmp .ne 73, 3) := by decide +kernel
theorem r104_159 {E : Nat → Value} {d : Nat} {st : List Value} {h : gm_H} {r : gm_R × gm_H} {lv : List Value} {x y : Int32} : gm_Go E d 104 159 lv (.int y :: .int x :: st) h r ↔ (if x = y then gm_Go E d 104 162 lv st h r else gm_Go E d 104 232 lv st h r) := (gr_br m104 f104_159 rfl rfl rfl rfl).trans gr_ifn
theorem f104_162 : gm_ft 104 162 = some (.iload_n 2, 1) := by decide +kernel
theorem r104_162 {E : Nat → Value} {d : Nat} {st : List Value} {h : gm_H} {r : gm_R × gm_H} {a0 a1 a3 a4 a5 : Value} {x : Int32} : gm_Go E d 104 162 [a0, a1, .int x, a3, a4, a5] st h r ↔ gm_Go E d 104 163 [a0, a1, .int x, a3, a4, a5] (.int x :: st) h r := gr_loc m104 f104_162 rfl rfl
theorem f104_163 : gm_ft 104 163 = some (.bipush 114, 2) := by decide +kernel
theorem r104_163 {E : Nat → Value} {d : Nat} {st : List Value} {h : gm_H} {r : gm_R × gm_H} {lv : List Value} : gm_Go E d 104 163 lv st h r ↔ gm_Go E d 104 165 lv (.int (114 : Int32) :: st) h r := gr_pure m104 f104_163 rfl
theorem f104_165 : gm_ft 104 165 = some (.if_icmp .ne 13, 3) := by decide +kernel
theorem r104_165 {E : Nat → Value} {d : Nat} {st : List Value} {h : gm_H} {r : gm_R × gm_H} {lv : List Value} {x y : Int32} : gm_Go E d 104 165 lv (.int y :: .int x :: st) h r ↔ (if x = y then gm_Go E d 104 168 lv st h r else gm_Go E d 104 178 lv st h r) := (gr_br m104 f104_165 rfl rfl rfl rfl).trans gr_ifn
theorem f104_168 : gm_ft 104 168 = some (.aload_n 0, 1) := by decide +kernel
theorem r104_168 {E : Nat → Value} {d : Nat} {st : List Value} {h : gm_H} {r : gm_R × gm_H} {a1 a2 a3 a4 a5 : Value} {x : Nat} : gm_Go E d 104 168 [.ref x, a1, a2, a3, a4, a5] st h r ↔ gm_Go E d 104 169 [.ref x, a1, a2, a3, a4, a5] (.ref x :: st) h r := gr_loc m104 f104_168 rfl rfl
theorem r104_168n {E : Nat → Value} {d : Nat} {st : List Value} {h : gm_H} {r : gm_R × gm_H} {a1 a2 a3 a4 a5 : Value}  : gm_Go E d 104 168 [.null, a1, a2, a3, a4, a5] st h r ↔ gm_Go E d 104 169 [.null, a1, a2, a3, a4, a5] (.null :: st) h r := gr_loc m104 f104_168 rfl rfl
theorem f104_169 : gm_ft 104 169 = some (.dup, 1) := by decide +kernel
theorem r104_169 {E : Nat → Value} {d : Nat} {st : List Value} {h : gm_H} {r : gm_R × gm_H} {lv : List Value} {a : Nat} : gm_Go E d 104 169 lv (.ref a :: st) h r ↔ gm_Go E d 104 170 lv (.ref a :: .ref a :: st) h r := gr_pure m104 f104_169 rfl
theorem r104_169i {E : Nat → Value} {d : Nat} {st : List Value} {h : gm_H} {r : gm_R × gm_H} {lv : List Value} {x : Int32} : gm_Go E d 104 169 lv (.int x :: st) h r ↔ gm_Go E d 104 170 lv (.int x :: .int x :: st) h r := gr_pure m104 f104_169 rfl
theorem f104_170 : gm_ft 104 170 = some (.getfield 148, 3) := by decide +kernel
theorem r104_170 {E : Nat → Value} {d : Nat} {st : List Value} {h : gm_H} {r : gm_R × gm_H} {lv : List Value} {a : Nat} {vs : List Value} {v : Value} (hr : gm_rd h a = some (5, vs)) (hv : vs[6]? = some v) : gm_Go E d 104 170 lv (.ref a :: st) h r ↔ gm_Go E d 104 173 lv (v :: st) h r := gr_rd m104 f104_170 rfl rfl rfl rfl (gf_get k5_148 hr hv)
theorem f104_173 : gm_ft 104 173 = some (.iconst 1, 1) := by decide +kernel
theorem r104_173 {E : Nat → Value} {d : Nat} {st : List Value} {h : gm_H} {r : gm_R × gm_H} {lv : List Value} : gm_Go E d 104 173 lv st h r ↔ gm_Go E d 104 174 lv (.int (1 : Int32) :: st) h r := gr_pure m104 f104_173 rfl
theorem f104_174 : gm_ft 104 174 = some (.isub, 1) := by decide +kernel
theorem r104_174 {E : Nat → Value} {d : Nat} {st : List Value} {h : gm_H} {r : gm_R × gm_H} {lv : List Value} {x y : Int32} : gm_Go E d 104 174 lv (.int y :: .int x :: st) h r ↔ gm_Go E d 104 175 lv (.int (x - y) :: st) h r := gr_pure m104 f104_174 rfl
theorem f104_175 : gm_ft 104 175 = some (.putfield 148, 3) := by decide +kernel
theorem r104_175 {E : Nat → Value} {d : Nat} {st : List Value} {h : gm_H} {r : gm_R × gm_H} {lv : List Value} {a : Nat} {vs : List Value} {v : Value} (hr : gm_rd h a = some (5, vs)) (hk : 6 < vs.length) (hn : narrow (gm_ty 5 6) v = v ∧ fits (gm_ty 5 6) v = true) : gm_Go E d 104 175 lv (v :: .ref a :: st) h r ↔ gm_Go E d 104 178 lv st (gm_wr h a (5, vs.set 6 v)) r := gr_wr m104 f104_175 rfl rfl rfl rfl rfl (gf_put k5_148 hr (by decide) hk hn (by decide))
theorem f104_178 : gm_ft 104 178 = some (.aload_n 0, 1) := by decide +kernel
theorem r104_178 {E : Nat → Value} {d : Nat} {st : List Value} {h : gm_H} {r : gm_R × gm_H} {a1 a2 a3 a4 a5 : Value} {x : Nat} : gm_Go E d 104 178 [.ref x, a1, a2, a3, a4, a5] st h r ↔ gm_Go E d 104 179 [.ref x, a1, a2, a3, a4, a5] (.ref x :: st) h r := gr_loc m104 f104_178 rfl rfl
theorem r104_178n {E : Nat → Value} {d : Nat} {st : List Value} {h : gm_H} {r : gm_R × gm_H} {a1 a2 a3 a4 a5 : Value}  : gm_Go E d 104 178 [.null, a1, a2, a3, a4, a5] st h r ↔ gm_Go E d 104 179 [.null, a1, a2, a3, a4, a5] (.null :: st) h r := gr_loc m104 f104_178 rfl rfl
theorem f104_179 : gm_ft 104 179 = some (.getfield 96, 3) := by decide +kernel
theorem r104_179 {E : Nat → Value} {d : Nat} {st : List Value} {h : gm_H} {r : gm_R × gm_H} {lv : List Value} {a : Nat} {vs : List Value} {v : Value} (hr : gm_rd h a = some (5, vs)) (hv : vs[41]? = some v) : gm_Go E d 104 179 lv (.ref a :: st) h r ↔ gm_Go E d 104 182 lv (v :: st) h r := gr_rd m104 f104_179 rfl rfl rfl rfl (gf_get k5_96 hr hv)
theorem f104_182 : gm_ft 104 182 = some (.iload_n 1, 1) := by decide +kernel
theorem r104_182 {E : Nat → Value} {d : Nat} {st : List Value} {h : gm_H} {r : gm_R × gm_H} {a0 a2 a3 a4 a5 : Value} {x : Int32} : gm_Go E d 104 182 [a0, .int x, a2, a3, a4, a5] st h r ↔ gm_Go E d 104 183 [a0, .int x, a2, a3, a4, a5] (.int x :: st) h r := gr_loc m104 f104_182 rfl rfl
theorem f104_183 : gm_ft 104 183 = some (.iload_n 2, 1) := by decide +kernel
theorem r104_183 {E : Nat → Value} {d : Nat} {st : List Value} {h : gm_H} {r : gm_R × gm_H} {a0 a1 a3 a4 a5 : Value} {x : Int32} : gm_Go E d 104 183 [a0, a1, .int x, a3, a4, a5] st h r ↔ gm_Go E d 104 184 [a0, a1, .int x, a3, a4, a5] (.int x :: st) h r := gr_loc m104 f104_183 rfl rfl
theorem f104_184 : gm_ft 104 184 = some (.bipush 114, 2) := by decide +kernel
theorem r104_184 {E : Nat → Value} {d : Nat} {st : List Value} {h : gm_H} {r : gm_R × gm_H} {lv : List Value} : gm_Go E d 104 184 lv st h r ↔ gm_Go E d 104 186 lv (.int (114 : Int32) :: st) h r := gr_pure m104 f104_184 rfl
theorem f104_186 : gm_ft 104 186 = some (.if_icmp .ne 8, 3) := by decide +kernel
theorem r104_186 {E : Nat → Value} {d : Nat} {st : List Value} {h : gm_H} {r : gm_R × gm_H} {lv : List Value} {x y : Int32} : gm_Go E d 104 186 lv (.int y :: .int x :: st) h r ↔ (if x = y then gm_Go E d 104 189 lv st h r else gm_Go E d 104 194 lv st h r) := (gr_br m104 f104_186 rfl rfl rfl rfl).trans gr_ifn
theorem f104_189 : gm_ft 104 189 = some (.bipush 9, 2) := by decide +kernel
theorem r104_189 {E : Nat → Value} {d : Nat} {st : List Value} {h : gm_H} {r : gm_R × gm_H} {lv : List Value} : gm_Go E d 104 189 lv st h r ↔ gm_Go E d 104 191 lv (.int (9 : Int32) :: st) h r := gr_pure m104 f104_189 rfl
theorem f104_191 : gm_ft 104 191 = some (.goto 24, 3) := by decide +kernel
theorem r104_191 {E : Nat → Value} {d : Nat} {st : List Value} {h : gm_H} {r : gm_R × gm_H} {lv : List Value} : gm_Go E d 104 191 lv st h r ↔ gm_Go E d 104 215 lv st h r := gr_brT m104 f104_191 rfl rfl rfl rfl
theorem f104_194 : gm_ft 104 194 = some (.iload_n 2, 1) := by decide +kernel
theorem r104_194 {E : Nat → Value} {d : Nat} {st : List Value} {h : gm_H} {r : gm_R × gm_H} {a0 a1 a3 a4 a5 : Value} {x : Int32} : gm_Go E d 104 194 [a0, a1, .int x, a3, a4, a5] st h r ↔ gm_Go E d 104 195 [a0, a1, .int x, a3, a4, a5] (.int x :: st) h r := gr_loc m104 f104_194 rfl rfl
theorem f104_195 : gm_ft 104 195 = some (.bipush 115, 2) := by decide +kernel
theorem r104_195 {E : Nat → Value} {d : Nat} {st : List Value} {h : gm_H} {r : gm_R × gm_H} {lv : List Value} : gm_Go E d 104 195 lv st h r ↔ gm_Go E d 104 197 lv (.int (115 : Int32) :: st) h r := gr_pure m104 f104_195 rfl
theorem f104_197 : gm_ft 104 197 = some (.if_icmp .ne 7, 3) := by decide +kernel
theorem r104_197 {E : Nat → Value} {d : Nat} {st : List Value} {h : gm_H} {r : gm_R × gm_H} {lv : List Value} {x y : Int32} : gm_Go E d 104 197 lv (.int y :: .int x :: st) h r ↔ (if x = y then gm_Go E d 104 200 lv st h r else gm_Go E d 104 204 lv st h r) := (gr_br m104 f104_197 rfl rfl rfl rfl).trans gr_ifn
theorem f104_200 : gm_ft 104 200 = some (.iconst 1, 1) := by decide +kernel
theorem r104_200 {E : Nat → Value} {d : Nat} {st : List Value} {h : gm_H} {r : gm_R × gm_H} {lv : List Value} : gm_Go E d 104 200 lv st h r ↔ gm_Go E d 104 201 lv (.int (1 : Int32) :: st) h r := gr_pure m104 f104_200 rfl
theorem f104_201 : gm_ft 104 201 = some (.goto 14, 3) := by decide +kernel
theorem r104_201 {E : Nat → Value} {d : Nat} {st : List Value} {h : gm_H} {r : gm_R × gm_H} {lv : List Value} : gm_Go E d 104 201 lv st h r ↔ gm_Go E d 104 215 lv st h r := gr_brT m104 f104_201 rfl rfl rfl rfl
theorem f104_204 : gm_ft 104 204 = some (.iload_n 2, 1) := by decide +kernel
theorem r104_204 {E : Nat → Value} {d : Nat} {st : List Value} {h : gm_H} {r : gm_R × gm_H} {a0 a1 a3 a4 a5 : Value} {x : Int32} : gm_Go E d 104 204 [a0, a1, .int x, a3, a4, a5] st h r ↔ gm_Go E d 104 205 [a0, a1, .int x, a3, a4, a5] (.int x :: st) h r := gr_loc m104 f104_204 rfl rfl
theorem f104_205 : gm_ft 104 205 = some (.bipush 117, 2) := by decide +kernel
theorem r104_205 {E : Nat → Value} {d : Nat} {st : List Value} {h : gm_H} {r : gm_R × gm_H} {lv : List Value} : gm_Go E d 104 205 lv st h r ↔ gm_Go E d 104 207 lv (.int (117 : Int32) :: st) h r := gr_pure m104 f104_205 rfl
theorem f104_207 : gm_ft 104 207 = some (.if_icmp .ne 7, 3) := by decide +kernel
theorem r104_207 {E : Nat → Value} {d : Nat} {st : List Value} {h : gm_H} {r : gm_R × gm_H} {lv : List Value} {x y : Int32} : gm_Go E d 104 207 lv (.int y :: .int x :: st) h r ↔ (if x = y then gm_Go E d 104 210 lv st h r else gm_Go E d 104 214 lv st h r) := (gr_br m104 f104_207 rfl rfl rfl rfl).trans gr_ifn
theorem f104_210 : gm_ft 104 210 = some (.iconst 3, 1) := by decide +kernel
theorem r104_210 {E : Nat → Value} {d : Nat} {st : List Value} {h : gm_H} {r : gm_R × gm_H} {lv : List Value} : gm_Go E d 104 210 lv st h r ↔ gm_Go E d 104 211 lv (.int (3 : Int32) :: st) h r := gr_pure m104 f104_210 rfl
theorem f104_211 : gm_ft 104 211 = some (.goto 4, 3) := by decide +kernel
theorem r104_211 {E : Nat → Value} {d : Nat} {st : List Value} {h : gm_H} {r : gm_R × gm_H} {lv : List Value} : gm_Go E d 104 211 lv st h r ↔ gm_Go E d 104 215 lv st h r := gr_brT m104 f104_211 rfl rfl rfl rfl
theorem f104_214 : gm_ft 104 214 = some (.iconst 5, 1) := by decide +kernel
theorem r104_214 {E : Nat → Value} {d : Nat} {st : List Value} {h : gm_H} {r : gm_R × gm_H} {lv : List Value} : gm_Go E d 104 214 lv st h r ↔ gm_Go E d 104 215 lv (.int (5 : Int32) :: st) h r := gr_pure m104 f104_214 rfl
theorem f104_215 : gm_ft 104 215 = some (.iastore, 1) := by decide +kernel
theorem r104_215 {E : Nat → Value} {d : Nat} {st : List Value} {h : gm_H} {r : gm_R × gm_H} {lv : List Value} {a k j : Nat} {vs : List Value} {x : Int32} (hr : gm_rd h a = some (k, vs)) (hk : 100 ≤ k ∧ k % 100 = 0 ∧ gm_ko k = 2 ∧ 2 < 3) (hj : j < 2 ^ 31) (hl : j < vs.length) : gm_Go E d 104 215 lv (.int x :: .int (nI j) :: .ref a :: st) h r ↔ gm_Go E d 104 216 lv st (gm_wr h a (k, vs.set j (.int x))) r := gr_wr m104 f104_215 rfl rfl rfl rfl rfl (ga_st hr hk hj hl)
theorem f104_216 : gm_ft 104 216 = some (.aload_n 0, 1) := by decide +kernel
theorem r104_216 {E : Nat → Value} {d : Nat} {st : List Value} {h : gm_H} {r : gm_R × gm_H} {a1 a2 a3 a4 a5 : Value} {x : Nat} : gm_Go E d 104 216 [.ref x, a1, a2, a3, a4, a5] st h r ↔ gm_Go E d 104 217 [.ref x, a1, a2, a3, a4, a5] (.ref x :: st) h r := gr_loc m104 f104_216 rfl rfl
theorem r104_216n {E : Nat → Value} {d : Nat} {st : List Value} {h : gm_H} {r : gm_R × gm_H} {a1 a2 a3 a4 a5 : Value}  : gm_Go E d 104 216 [.null, a1, a2, a3, a4, a5] st h r ↔ gm_Go E d 104 217 [.null, a1, a2, a3, a4, a5] (.null :: st) h r := gr_loc m104 f104_216 rfl rfl
theorem f104_217 : gm_ft 104 217 = some (.iconst 2, 1) := by decide +kernel
theorem r104_217 {E : Nat → Value} {d : Nat} {st : List Value} {h : gm_H} {r : gm_R × gm_H} {lv : List Value} : gm_Go E d 104 217 lv st h r ↔ gm_Go E d 104 218 lv (.int (2 : Int32) :: st) h r := gr_pure m104 f104_217 rfl
theorem f104_218 : gm_ft 104 218 = some (.aload_n 0, 1) := by decide +kernel
theorem r104_218 {E : Nat → Value} {d : Nat} {st : List Value} {h : gm_H} {r : gm_R × gm_H} {a1 a2 a3 a4 a5 : Value} {x : Nat} : gm_Go E d 104 218 [.ref x, a1, a2, a3, a4, a5] st h r ↔ gm_Go E d 104 219 [.ref x, a1, a2, a3, a4, a5] (.ref x :: st) h r := gr_loc m104 f104_218 rfl rfl
theorem r104_218n {E : Nat → Value} {d : Nat} {st : List Value} {h : gm_H} {r : gm_R × gm_H} {a1 a2 a3 a4 a5 : Value}  : gm_Go E d 104 218 [.null, a1, a2, a3, a4, a5] st h r ↔ gm_Go E d 104 219 [.null, a1, a2, a3, a4, a5] (.null :: st) h r := gr_loc m104 f104_218 rfl rfl
theorem f104_219 : gm_ft 104 219 = some (.getfield 99, 3) := by decide +kernel
theorem r104_219 {E : Nat → Value} {d : Nat} {st : List Value} {h : gm_H} {r : gm_R × gm_H} {lv : List Value} {a : Nat} {vs : List Value} {v : Value} (hr : gm_rd h a = some (5, vs)) (hv : vs[42]? = some v) : gm_Go E d 104 219 lv (.ref a :: st) h r ↔ gm_Go E d 104 222 lv (v :: st) h r := gr_rd m104 f104_219 rfl rfl rfl rfl (gf_get k5_99 hr hv)
theorem f104_222 : gm_ft 104 222 = some (.iload_n 1, 1) := by decide +kernel
theorem r104_222 {E : Nat → Value} {d : Nat} {st : List Value} {h : gm_H} {r : gm_R × gm_H} {a0 a2 a3 a4 a5 : Value} {x : Int32} : gm_Go E d 104 222 [a0, .int x, a2, a3, a4, a5] st h r ↔ gm_Go E d 104 223 [a0, .int x, a2, a3, a4, a5] (.int x :: st) h r := gr_loc m104 f104_222 rfl rfl
theorem f104_223 : gm_ft 104 223 = some (.iaload, 1) := by decide +kernel
theorem r104_223 {E : Nat → Value} {d : Nat} {st : List Value} {h : gm_H} {r : gm_R × gm_H} {lv : List Value} {a k j : Nat} {vs : List Value} {v : Value} (hr : gm_rd h a = some (k, vs)) (hk : 100 ≤ k ∧ (fun t => t == 0) (k % 100) = true) (hj : j < 2 ^ 31) (hv : vs[j]? = some v) : gm_Go E d 104 223 lv (.int (nI j) :: .ref a :: st) h r ↔ gm_Go E d 104 224 lv (v :: st) h r := gr_rd m104 f104_223 rfl rfl rfl rfl (ga_ld (P := fun t => t == 0) hr hk hj hv)
theorem f104_224 : gm_ft 104 224 = some (.iconst 1, 1) := by decide +kernel
theorem r104_224 {E : Nat → Value} {d : Nat} {st : List Value} {h : gm_H} {r : gm_R × gm_H} {lv : List Value} : gm_Go E d 104 224 lv st h r ↔ gm_Go E d 104 225 lv (.int (1 : Int32) :: st) h r := gr_pure m104 f104_224 rfl
theorem f104_225 : gm_ft 104 225 = some (.iconst 0, 1) := by decide +kernel
theorem r104_225 {E : Nat → Value} {d : Nat} {st : List Value} {h : gm_H} {r : gm_R × gm_H} {lv : List Value} : gm_Go E d 104 225 lv st h r ↔ gm_Go E d 104 226 lv (.int (0 : Int32) :: st) h r := gr_pure m104 f104_225 rfl
theorem f104_226 : gm_ft 104 226 = some (.invokevirtual 200, 3) := by decide +kernel
theorem n104_226 {st : List Value} {h : gm_H} {E : Nat → Value} {lv : List Value} {b0 b1 b2 b3 : Value} {a : Nat} (hs : (st.map fun v => v.category).sum ≤ 8) (he : (gm_en1 [.ref a, b0, b1, b2, b3]).length ≤ 5) {vs : List Value} (hr : gm_rd h a = some (5, vs)) : gm_next E 104 226 lv (b3 :: b2 :: b1 :: b0 :: .ref a :: st) h = some (.inr (.inl (0, 101, [.ref a, b0, b1, b2, b3], st))) := gn_call m104 f104_226 rfl rfl rfl rfl rfl rfl rfl (gc_virt (bs := [b3, b2, b1, b0]) (w := 856) rfl rfl rfl rfl hs he hr) (by decide)
theorem f104_229 : gm_ft 104 229 = some (.goto 81, 3) := by decide +kernel
theorem r104_229 {E : Nat → Value} {d : Nat} {st : List Value} {h : gm_H} {r : gm_R × gm_H} {lv : List Value} : gm_Go E d 104 229 lv st h r ↔ gm_Go E d 104 310 lv st h r := gr_brT m104 f104_229 rfl rfl rfl rfl
theorem f104_232 : gm_ft 104 232 = some (.iload_n 2, 1) := by decide +kernel
theorem r104_232 {E : Nat → Value} {d : Nat} {st : List Value} {h : gm_H} {r : gm_R × gm_H} {a0 a1 a3 a4 a5 : Value} {x : Int32} : gm_Go E d 104 232 [a0, a1, .int x, a3, a4, a5] st h r ↔ gm_Go E d 104 233 [a0, a1, .int x, a3, a4, a5] (.int x :: st) h r := gr_loc m104 f104_232 rfl rfl
theorem f104_233 : gm_ft 104 233 = some (.bipush 121, 2) := by decide +kernel
theorem r104_233 {E : Nat → Value} {d : Nat} {st : List Value} {h : gm_H} {r : gm_R × gm_H} {lv : List Value} : gm_Go E d 104 233 lv st h r ↔ gm_Go E d 104 235 lv (.int (121 : Int32) :: st) h r := gr_pure m104 f104_233 rfl
theorem f104_235 : gm_ft 104 235 = some (.if_icmp .ne 21, 3) := by decide +kernel
theorem r104_235 {E : Nat → Value} {d : Nat} {st : List Value} {h : gm_H} {r : gm_R × gm_H} {lv : List Value} {x y : Int32} : gm_Go E d 104 235 lv (.int y :: .int x :: st) h r ↔ (if x = y then gm_Go E d 104 238 lv st h r else gm_Go E d 104 256 lv st h r) := (gr_br m104 f104_235 rfl rfl rfl rfl).trans gr_ifn
theorem f104_238 : gm_ft 104 238 = some (.aload_n 0, 1) := by decide +kernel
theorem r104_238 {E : Nat → Value} {d : Nat} {st : List Value} {h : gm_H} {r : gm_R × gm_H} {a1 a2 a3 a4 a5 : Value} {x : Nat} : gm_Go E d 104 238 [.ref x, a1, a2, a3, a4, a5] st h r ↔ gm_Go E d 104 239 [.ref x, a1, a2, a3, a4, a5] (.ref x :: st) h r := gr_loc m104 f104_238 rfl rfl
theorem r104_238n {E : Nat → Value} {d : Nat} {st : List Value} {h : gm_H} {r : gm_R × gm_H} {a1 a2 a3 a4 a5 : Value}  : gm_Go E d 104 238 [.null, a1, a2, a3, a4, a5] st h r ↔ gm_Go E d 104 239 [.null, a1, a2, a3, a4, a5] (.null :: st) h r := gr_loc m104 f104_238 rfl rfl
theorem f104_239 : gm_ft 104 239 = some (.getfield 99, 3) := by decide +kernel
theorem r104_239 {E : Nat → Value} {d : Nat} {st : List Value} {h : gm_H} {r : gm_R × gm_H} {lv : List Value} {a : Nat} {vs : List Value} {v : Value} (hr : gm_rd h a = some (5, vs)) (hv : vs[42]? = some v) : gm_Go E d 104 239 lv (.ref a :: st) h r ↔ gm_Go E d 104 242 lv (v :: st) h r := gr_rd m104 f104_239 rfl rfl rfl rfl (gf_get k5_99 hr hv)
theorem f104_242 : gm_ft 104 242 = some (.iload_n 1, 1) := by decide +kernel
theorem r104_242 {E : Nat → Value} {d : Nat} {st : List Value} {h : gm_H} {r : gm_R × gm_H} {a0 a2 a3 a4 a5 : Value} {x : Int32} : gm_Go E d 104 242 [a0, .int x, a2, a3, a4, a5] st h r ↔ gm_Go E d 104 243 [a0, .int x, a2, a3, a4, a5] (.int x :: st) h r := gr_loc m104 f104_242 rfl rfl
theorem f104_243 : gm_ft 104 243 = some (.iaload, 1) := by decide +kernel
theorem r104_243 {E : Nat → Value} {d : Nat} {st : List Value} {h : gm_H} {r : gm_R × gm_H} {lv : List Value} {a k j : Nat} {vs : List Value} {v : Value} (hr : gm_rd h a = some (k, vs)) (hk : 100 ≤ k ∧ (fun t => t == 0) (k % 100) = true) (hj : j < 2 ^ 31) (hv : vs[j]? = some v) : gm_Go E d 104 243 lv (.int (nI j) :: .ref a :: st) h r ↔ gm_Go E d 104 244 lv (v :: st) h r := gr_rd m104 f104_243 rfl rfl rfl rfl (ga_ld (P := fun t => t == 0) hr hk hj hv)
theorem f104_244 : gm_ft 104 244 = some (.iconst 1, 1) := by decide +kernel
theorem r104_244 {E : Nat → Value} {d : Nat} {st : List Value} {h : gm_H} {r : gm_R × gm_H} {lv : List Value} : gm_Go E d 104 244 lv st h r ↔ gm_Go E d 104 245 lv (.int (1 : Int32) :: st) h r := gr_pure m104 f104_244 rfl
theorem f104_245 : gm_ft 104 245 = some (.if_icmp .ne 11, 3) := by decide +kernel
theorem r104_245 {E : Nat → Value} {d : Nat} {st : List Value} {h : gm_H} {r : gm_R × gm_H} {lv : List Value} {x y : Int32} : gm_Go E d 104 245 lv (.int y :: .int x :: st) h r ↔ (if x = y then gm_Go E d 104 248 lv st h r else gm_Go E d 104 256 lv st h r) := (gr_br m104 f104_245 rfl rfl rfl rfl).trans gr_ifn
theorem f104_248 : gm_ft 104 248 = some (.aload_n 0, 1) := by decide +kernel
theorem r104_248 {E : Nat → Value} {d : Nat} {st : List Value} {h : gm_H} {r : gm_R × gm_H} {a1 a2 a3 a4 a5 : Value} {x : Nat} : gm_Go E d 104 248 [.ref x, a1, a2, a3, a4, a5] st h r ↔ gm_Go E d 104 249 [.ref x, a1, a2, a3, a4, a5] (.ref x :: st) h r := gr_loc m104 f104_248 rfl rfl
theorem r104_248n {E : Nat → Value} {d : Nat} {st : List Value} {h : gm_H} {r : gm_R × gm_H} {a1 a2 a3 a4 a5 : Value}  : gm_Go E d 104 248 [.null, a1, a2, a3, a4, a5] st h r ↔ gm_Go E d 104 249 [.null, a1, a2, a3, a4, a5] (.null :: st) h r := gr_loc m104 f104_248 rfl rfl
theorem f104_249 : gm_ft 104 249 = some (.iconst 0, 1) := by decide +kernel
theorem r104_249 {E : Nat → Value} {d : Nat} {st : List Value} {h : gm_H} {r : gm_R × gm_H} {lv : List Value} : gm_Go E d 104 249 lv st h r ↔ gm_Go E d 104 250 lv (.int (0 : Int32) :: st) h r := gr_pure m104 f104_249 rfl
theorem f104_250 : gm_ft 104 250 = some (.putfield 166, 3) := by decide +kernel
theorem r104_250 {E : Nat → Value} {d : Nat} {st : List Value} {h : gm_H} {r : gm_R × gm_H} {lv : List Value} {a : Nat} {vs : List Value} {v : Value} (hr : gm_rd h a = some (5, vs)) (hk : 28 < vs.length) (hn : narrow (gm_ty 5 28) v = v ∧ fits (gm_ty 5 28) v = true) : gm_Go E d 104 250 lv (v :: .ref a :: st) h r ↔ gm_Go E d 104 253 lv st (gm_wr h a (5, vs.set 28 v)) r := gr_wr m104 f104_250 rfl rfl rfl rfl rfl (gf_put k5_166 hr (by decide) hk hn (by decide))
theorem f104_253 : gm_ft 104 253 = some (.goto 57, 3) := by decide +kernel
theorem r104_253 {E : Nat → Value} {d : Nat} {st : List Value} {h : gm_H} {r : gm_R × gm_H} {lv : List Value} : gm_Go E d 104 253 lv st h r ↔ gm_Go E d 104 310 lv st h r := gr_brT m104 f104_253 rfl rfl rfl rfl
theorem f104_256 : gm_ft 104 256 = some (.iload_n 2, 1) := by decide +kernel
theorem r104_256 {E : Nat → Value} {d : Nat} {st : List Value} {h : gm_H} {r : gm_R × gm_H} {a0 a1 a3 a4 a5 : Value} {x : Int32} : gm_Go E d 104 256 [a0, a1, .int x, a3, a4, a5] st h r ↔ gm_Go E d 104 257 [a0, a1, .int x, a3, a4, a5] (.int x :: st) h r := gr_loc m104 f104_256 rfl rfl
theorem f104_257 : gm_ft 104 257 = some (.bipush 123, 2) := by decide +kernel
theorem r104_257 {E : Nat → Value} {d : Nat} {st : List Value} {h : gm_H} {r : gm_R × gm_H} {lv : List Value} : gm_Go E d 104 257 lv st h r ↔ gm_Go E d 104 259 lv (.int (123 : Int32) :: st) h r := gr_pure m104 f104_257 rfl
theorem f104_259 : gm_ft 104 259 = some (.if_icmp .ne 12, 3) := by decide +kernel
theorem r104_259 {E : Nat → Value} {d : Nat} {st : List Value} {h : gm_H} {r : gm_R × gm_H} {lv : List Value} {x y : Int32} : gm_Go E d 104 259 lv (.int y :: .int x :: st) h r ↔ (if x = y then gm_Go E d 104 262 lv st h r else gm_Go E d 104 271 lv st h r) := (gr_br m104 f104_259 rfl rfl rfl rfl).trans gr_ifn
theorem f104_262 : gm_ft 104 262 = some (.aload_n 0, 1) := by decide +kernel
theorem r104_262 {E : Nat → Value} {d : Nat} {st : List Value} {h : gm_H} {r : gm_R × gm_H} {a1 a2 a3 a4 a5 : Value} {x : Nat} : gm_Go E d 104 262 [.ref x, a1, a2, a3, a4, a5] st h r ↔ gm_Go E d 104 263 [.ref x, a1, a2, a3, a4, a5] (.ref x :: st) h r := gr_loc m104 f104_262 rfl rfl
theorem r104_262n {E : Nat → Value} {d : Nat} {st : List Value} {h : gm_H} {r : gm_R × gm_H} {a1 a2 a3 a4 a5 : Value}  : gm_Go E d 104 262 [.null, a1, a2, a3, a4, a5] st h r ↔ gm_Go E d 104 263 [.null, a1, a2, a3, a4, a5] (.null :: st) h r := gr_loc m104 f104_262 rfl rfl
theorem f104_263 : gm_ft 104 263 = some (.bipush (-10), 2) := by decide +kernel
theorem r104_263 {E : Nat → Value} {d : Nat} {st : List Value} {h : gm_H} {r : gm_R × gm_H} {lv : List Value} : gm_Go E d 104 263 lv st h r ↔ gm_Go E d 104 265 lv (.int (-10 : Int32) :: st) h r := gr_pure m104 f104_263 rfl
theorem f104_265 : gm_ft 104 265 = some (.invokevirtual 151, 3) := by decide +kernel
theorem n104_265 {st : List Value} {h : gm_H} {E : Nat → Value} {lv : List Value} {b0 : Value} {a : Nat} (hs : (st.map fun v => v.category).sum ≤ 8) (he : (gm_en1 [.ref a, b0]).length ≤ 2) {vs : List Value} (hr : gm_rd h a = some (5, vs)) : gm_next E 104 265 lv (b0 :: .ref a :: st) h = some (.inr (.inl (0, 98, [.ref a, b0], st))) := gn_call m104 f104_265 rfl rfl rfl rfl rfl rfl rfl (gc_virt (bs := [b0]) (w := 844) rfl rfl rfl rfl hs he hr) (by decide)
theorem f104_268 : gm_ft 104 268 = some (.goto 42, 3) := by decide +kernel
theorem r104_268 {E : Nat → Value} {d : Nat} {st : List Value} {h : gm_H} {r : gm_R × gm_H} {lv : List Value} : gm_Go E d 104 268 lv st h r ↔ gm_Go E d 104 310 lv st h r := gr_brT m104 f104_268 rfl rfl rfl rfl
theorem f104_271 : gm_ft 104 271 = some (.aload_n 0, 1) := by decide +kernel
theorem r104_271 {E : Nat → Value} {d : Nat} {st : List Value} {h : gm_H} {r : gm_R × gm_H} {a1 a2 a3 a4 a5 : Value} {x : Nat} : gm_Go E d 104 271 [.ref x, a1, a2, a3, a4, a5] st h r ↔ gm_Go E d 104 272 [.ref x, a1, a2, a3, a4, a5] (.ref x :: st) h r := gr_loc m104 f104_271 rfl rfl
theorem r104_271n {E : Nat → Value} {d : Nat} {st : List Value} {h : gm_H} {r : gm_R × gm_H} {a1 a2 a3 a4 a5 : Value}  : gm_Go E d 104 271 [.null, a1, a2, a3, a4, a5] st h r ↔ gm_Go E d 104 272 [.null, a1, a2, a3, a4, a5] (.null :: st) h r := gr_loc m104 f104_271 rfl rfl
theorem f104_272 : gm_ft 104 272 = some (.aload_n 0, 1) := by decide +kernel
theorem r104_272 {E : Nat → Value} {d : Nat} {st : List Value} {h : gm_H} {r : gm_R × gm_H} {a1 a2 a3 a4 a5 : Value} {x : Nat} : gm_Go E d 104 272 [.ref x, a1, a2, a3, a4, a5] st h r ↔ gm_Go E d 104 273 [.ref x, a1, a2, a3, a4, a5] (.ref x :: st) h r := gr_loc m104 f104_272 rfl rfl
theorem r104_272n {E : Nat → Value} {d : Nat} {st : List Value} {h : gm_H} {r : gm_R × gm_H} {a1 a2 a3 a4 a5 : Value}  : gm_Go E d 104 272 [.null, a1, a2, a3, a4, a5] st h r ↔ gm_Go E d 104 273 [.null, a1, a2, a3, a4, a5] (.null :: st) h r := gr_loc m104 f104_272 rfl rfl
theorem f104_273 : gm_ft 104 273 = some (.getfield 99, 3) := by decide +kernel
theorem r104_273 {E : Nat → Value} {d : Nat} {st : List Value} {h : gm_H} {r : gm_R × gm_H} {lv : List Value} {a : Nat} {vs : List Value} {v : Value} (hr : gm_rd h a = some (5, vs)) (hv : vs[42]? = some v) : gm_Go E d 104 273 lv (.ref a :: st) h r ↔ gm_Go E d 104 276 lv (v :: st) h r := gr_rd m104 f104_273 rfl rfl rfl rfl (gf_get k5_99 hr hv)
theorem f104_276 : gm_ft 104 276 = some (.iload_n 1, 1) := by decide +kernel
theorem r104_276 {E : Nat → Value} {d : Nat} {st : List Value} {h : gm_H} {r : gm_R × gm_H} {a0 a2 a3 a4 a5 : Value} {x : Int32} : gm_Go E d 104 276 [a0, .int x, a2, a3, a4, a5] st h r ↔ gm_Go E d 104 277 [a0, .int x, a2, a3, a4, a5] (.int x :: st) h r := gr_loc m104 f104_276 rfl rfl
theorem f104_277 : gm_ft 104 277 = some (.iaload, 1) := by decide +kernel
theorem r104_277 {E : Nat → Value} {d : Nat} {st : List Value} {h : gm_H} {r : gm_R × gm_H} {lv : List Value} {a k j : Nat} {vs : List Value} {v : Value} (hr : gm_rd h a = some (k, vs)) (hk : 100 ≤ k ∧ (fun t => t == 0) (k % 100) = true) (hj : j < 2 ^ 31) (hv : vs[j]? = some v) : gm_Go E d 104 277 lv (.int (nI j) :: .ref a :: st) h r ↔ gm_Go E d 104 278 lv (v :: st) h r := gr_rd m104 f104_277 rfl rfl rfl rfl (ga_ld (P := fun t => t == 0) hr hk hj hv)
theorem f104_278 : gm_ft 104 278 = some (.iconst 1, 1) := by decide +kernel
theorem r104_278 {E : Nat → Value} {d : Nat} {st : List Value} {h : gm_H} {r : gm_R × gm_H} {lv : List Value} : gm_Go E d 104 278 lv st h r ↔ gm_Go E d 104 279 lv (.int (1 : Int32) :: st) h r := gr_pure m104 f104_278 rfl
theorem f104_279 : gm_ft 104 279 = some (.if_icmp .ne 26, 3) := by decide +kernel
theorem r104_279 {E : Nat → Value} {d : Nat} {st : List Value} {h : gm_H} {r : gm_R × gm_H} {lv : List Value} {x y : Int32} : gm_Go E d 104 279 lv (.int y :: .int x :: st) h r ↔ (if x = y then gm_Go E d 104 282 lv st h r else gm_Go E d 104 305 lv st h r) := (gr_br m104 f104_279 rfl rfl rfl rfl).trans gr_ifn
theorem f104_282 : gm_ft 104 282 = some (.iload_n 2, 1) := by decide +kernel
theorem r104_282 {E : Nat → Value} {d : Nat} {st : List Value} {h : gm_H} {r : gm_R × gm_H} {a0 a1 a3 a4 a5 : Value} {x : Int32} : gm_Go E d 104 282 [a0, a1, .int x, a3, a4, a5] st h r ↔ gm_Go E d 104 283 [a0, a1, .int x, a3, a4, a5] (.int x :: st) h r := gr_loc m104 f104_282 rfl rfl
theorem f104_283 : gm_ft 104 283 = some (.bipush 119, 2) := by decide +kernel
theorem r104_283 {E : Nat → Value} {d : Nat} {st : List Value} {h : gm_H} {r : gm_R × gm_H} {lv : List Value} : gm_Go E d 104 283 lv st h r ↔ gm_Go E d 104 285 lv (.int (119 : Int32) :: st) h r := gr_pure m104 f104_283 rfl
theorem f104_285 : gm_ft 104 285 = some (.if_icmp .eq 15, 3) := by decide +kernel
theorem r104_285 {E : Nat → Value} {d : Nat} {st : List Value} {h : gm_H} {r : gm_R × gm_H} {lv : List Value} {x y : Int32} : gm_Go E d 104 285 lv (.int y :: .int x :: st) h r ↔ (if x = y then gm_Go E d 104 300 lv st h r else gm_Go E d 104 288 lv st h r) := (gr_br m104 f104_285 rfl rfl rfl rfl).trans gr_if
theorem f104_288 : gm_ft 104 288 = some (.iload_n 2, 1) := by decide +kernel
theorem r104_288 {E : Nat → Value} {d : Nat} {st : List Value} {h : gm_H} {r : gm_R × gm_H} {a0 a1 a3 a4 a5 : Value} {x : Int32} : gm_Go E d 104 288 [a0, a1, .int x, a3, a4, a5] st h r ↔ gm_Go E d 104 289 [a0, a1, .int x, a3, a4, a5] (.int x :: st) h r := gr_loc m104 f104_288 rfl rfl
theorem f104_289 : gm_ft 104 289 = some (.bipush 120, 2) := by decide +kernel
theorem r104_289 {E : Nat → Value} {d : Nat} {st : List Value} {h : gm_H} {r : gm_R × gm_H} {lv : List Value} : gm_Go E d 104 289 lv st h r ↔ gm_Go E d 104 291 lv (.int (120 : Int32) :: st) h r := gr_pure m104 f104_289 rfl
theorem f104_291 : gm_ft 104 291 = some (.if_icmp .eq 9, 3) := by decide +kernel
theorem r104_291 {E : Nat → Value} {d : Nat} {st : List Value} {h : gm_H} {r : gm_R × gm_H} {lv : List Value} {x y : Int32} : gm_Go E d 104 291 lv (.int y :: .int x :: st) h r ↔ (if x = y then gm_Go E d 104 300 lv st h r else gm_Go E d 104 294 lv st h r) := (gr_br m104 f104_291 rfl rfl rfl rfl).trans gr_if
theorem f104_294 : gm_ft 104 294 = some (.iload_n 2, 1) := by decide +kernel
theorem r104_294 {E : Nat → Value} {d : Nat} {st : List Value} {h : gm_H} {r : gm_R × gm_H} {a0 a1 a3 a4 a5 : Value} {x : Int32} : gm_Go E d 104 294 [a0, a1, .int x, a3, a4, a5] st h r ↔ gm_Go E d 104 295 [a0, a1, .int x, a3, a4, a5] (.int x :: st) h r := gr_loc m104 f104_294 rfl rfl
theorem f104_295 : gm_ft 104 295 = some (.bipush 122, 2) := by decide +kernel
theorem r104_295 {E : Nat → Value} {d : Nat} {st : List Value} {h : gm_H} {r : gm_R × gm_H} {lv : List Value} : gm_Go E d 104 295 lv st h r ↔ gm_Go E d 104 297 lv (.int (122 : Int32) :: st) h r := gr_pure m104 f104_295 rfl
theorem f104_297 : gm_ft 104 297 = some (.if_icmp .ne 8, 3) := by decide +kernel
theorem r104_297 {E : Nat → Value} {d : Nat} {st : List Value} {h : gm_H} {r : gm_R × gm_H} {lv : List Value} {x y : Int32} : gm_Go E d 104 297 lv (.int y :: .int x :: st) h r ↔ (if x = y then gm_Go E d 104 300 lv st h r else gm_Go E d 104 305 lv st h r) := (gr_br m104 f104_297 rfl rfl rfl rfl).trans gr_ifn
theorem f104_300 : gm_ft 104 300 = some (.bipush (-7), 2) := by decide +kernel
theorem r104_300 {E : Nat → Value} {d : Nat} {st : List Value} {h : gm_H} {r : gm_R × gm_H} {lv : List Value} : gm_Go E d 104 300 lv st h r ↔ gm_Go E d 104 302 lv (.int (-7 : Int32) :: st) h r := gr_pure m104 f104_300 rfl
theorem f104_302 : gm_ft 104 302 = some (.goto 5, 3) := by decide +kernel
theorem r104_302 {E : Nat → Value} {d : Nat} {st : List Value} {h : gm_H} {r : gm_R × gm_H} {lv : List Value} : gm_Go E d 104 302 lv st h r ↔ gm_Go E d 104 307 lv st h r := gr_brT m104 f104_302 rfl rfl rfl rfl
theorem f104_305 : gm_ft 104 305 = some (.bipush (-4), 2) := by decide +kernel
theorem r104_305 {E : Nat → Value} {d : Nat} {st : List Value} {h : gm_H} {r : gm_R × gm_H} {lv : List Value} : gm_Go E d 104 305 lv st h r ↔ gm_Go E d 104 307 lv (.int (-4 : Int32) :: st) h r := gr_pure m104 f104_305 rfl
theorem f104_307 : gm_ft 104 307 = some (.invokevirtual 151, 3) := by decide +kernel
theorem n104_307 {st : List Value} {h : gm_H} {E : Nat → Value} {lv : List Value} {b0 : Value} {a : Nat} (hs : (st.map fun v => v.category).sum ≤ 8) (he : (gm_en1 [.ref a, b0]).length ≤ 2) {vs : List Value} (hr : gm_rd h a = some (5, vs)) : gm_next E 104 307 lv (b0 :: .ref a :: st) h = some (.inr (.inl (0, 98, [.ref a, b0], st))) := gn_call m104 f104_307 rfl rfl rfl rfl rfl rfl rfl (gc_virt (bs := [b0]) (w := 844) rfl rfl rfl rfl hs he hr) (by decide)
theorem f104_310 : gm_ft 104 310 = some (.return_, 1) := by decide +kernel
theorem r104_310 {E : Nat → Value} {d : Nat} {h : gm_H} {r : gm_R × gm_H} {lv : List Value} : gm_Go E d 104 310 lv [] h r ↔ r = (.inl none, h) := gr_ret m104 f104_310 rfl rfl rfl rfl rfl rfl rfl rfl rfl
/-! GraphReaderModel.give(I)V -/
theorem m105 : gm_mt[105]? = some (⟨"GraphReaderModel", "give", "(I)V"⟩, prog_7_method_15_code, 2, none, [], 5, 2) := rfl
theorem f105_0 : gm_ft 105 0 = some (.aload_n 0, 1) := by decide +kernel
theorem r105_0 {E : Nat → Value} {d : Nat} {st : List Value} {h : gm_H} {r : gm_R × gm_H} {a1 : Value} {x : Nat} : gm_Go E d 105 0 [.ref x, a1] st h r ↔ gm_Go E d 105 1 [.ref x, a1] (.ref x :: st) h r := gr_loc m105 f105_0 rfl rfl
theorem r105_0n {E : Nat → Value} {d : Nat} {st : List Value} {h : gm_H} {r : gm_R × gm_H} {a1 : Value}  : gm_Go E d 105 0 [.null, a1] st h r ↔ gm_Go E d 105 1 [.null, a1] (.null :: st) h r := gr_loc m105 f105_0 rfl rfl
theorem f105_1 : gm_ft 105 1 = some (.iload_n 1, 1) := by decide +kernel
theorem r105_1 {E : Nat → Value} {d : Nat} {st : List Value} {h : gm_H} {r : gm_R × gm_H} {a0 : Value} {x : Int32} : gm_Go E d 105 1 [a0, .int x] st h r ↔ gm_Go E d 105 2 [a0, .int x] (.int x :: st) h r := gr_loc m105 f105_1 rfl rfl
theorem f105_2 : gm_ft 105 2 = some (.putfield 178, 3) := by decide +kernel
theorem r105_2 {E : Nat → Value} {d : Nat} {st : List Value} {h : gm_H} {r : gm_R × gm_H} {lv : List Value} {a : Nat} {vs : List Value} {v : Value} (hr : gm_rd h a = some (5, vs)) (hk : 9 < vs.length) (hn : narrow (gm_ty 5 9) v = v ∧ fits (gm_ty 5 9) v = true) : gm_Go E d 105 2 lv (v :: .ref a :: st) h r ↔ gm_Go E d 105 5 lv st (gm_wr h a (5, vs.set 9 v)) r := gr_wr m105 f105_2 rfl rfl rfl rfl rfl (gf_put k5_178 hr (by decide) hk hn (by decide))
theorem f105_5 : gm_ft 105 5 = some (.aload_n 0, 1) := by decide +kernel
theorem r105_5 {E : Nat → Value} {d : Nat} {st : List Value} {h : gm_H} {r : gm_R × gm_H} {a1 : Value} {x : Nat} : gm_Go E d 105 5 [.ref x, a1] st h r ↔ gm_Go E d 105 6 [.ref x, a1] (.ref x :: st) h r := gr_loc m105 f105_5 rfl rfl
theorem r105_5n {E : Nat → Value} {d : Nat} {st : List Value} {h : gm_H} {r : gm_R × gm_H} {a1 : Value}  : gm_Go E d 105 5 [.null, a1] st h r ↔ gm_Go E d 105 6 [.null, a1] (.null :: st) h r := gr_loc m105 f105_5 rfl rfl
theorem f105_6 : gm_ft 105 6 = some (.dup, 1) := by decide +kernel
theorem r105_6 {E : Nat → Value} {d : Nat} {st : List Value} {h : gm_H} {r : gm_R × gm_H} {lv : List Value} {a : Nat} : gm_Go E d 105 6 lv (.ref a :: st) h r ↔ gm_Go E d 105 7 lv (.ref a :: .ref a :: st) h r := gr_pure m105 f105_6 rfl
theorem r105_6i {E : Nat → Value} {d : Nat} {st : List Value} {h : gm_H} {r : gm_R × gm_H} {lv : List Value} {x : Int32} : gm_Go E d 105 6 lv (.int x :: st) h r ↔ gm_Go E d 105 7 lv (.int x :: .int x :: st) h r := gr_pure m105 f105_6 rfl
theorem f105_7 : gm_ft 105 7 = some (.getfield 175, 3) := by decide +kernel
theorem r105_7 {E : Nat → Value} {d : Nat} {st : List Value} {h : gm_H} {r : gm_R × gm_H} {lv : List Value} {a : Nat} {vs : List Value} {v : Value} (hr : gm_rd h a = some (5, vs)) (hv : vs[47]? = some v) : gm_Go E d 105 7 lv (.ref a :: st) h r ↔ gm_Go E d 105 10 lv (v :: st) h r := gr_rd m105 f105_7 rfl rfl rfl rfl (gf_get k5_175 hr hv)
theorem f105_10 : gm_ft 105 10 = some (.iconst 1, 1) := by decide +kernel
theorem r105_10 {E : Nat → Value} {d : Nat} {st : List Value} {h : gm_H} {r : gm_R × gm_H} {lv : List Value} : gm_Go E d 105 10 lv st h r ↔ gm_Go E d 105 11 lv (.int (1 : Int32) :: st) h r := gr_pure m105 f105_10 rfl
theorem f105_11 : gm_ft 105 11 = some (.isub, 1) := by decide +kernel
theorem r105_11 {E : Nat → Value} {d : Nat} {st : List Value} {h : gm_H} {r : gm_R × gm_H} {lv : List Value} {x y : Int32} : gm_Go E d 105 11 lv (.int y :: .int x :: st) h r ↔ gm_Go E d 105 12 lv (.int (x - y) :: st) h r := gr_pure m105 f105_11 rfl
theorem f105_12 : gm_ft 105 12 = some (.putfield 175, 3) := by decide +kernel
theorem r105_12 {E : Nat → Value} {d : Nat} {st : List Value} {h : gm_H} {r : gm_R × gm_H} {lv : List Value} {a : Nat} {vs : List Value} {v : Value} (hr : gm_rd h a = some (5, vs)) (hk : 47 < vs.length) (hn : narrow (gm_ty 5 47) v = v ∧ fits (gm_ty 5 47) v = true) : gm_Go E d 105 12 lv (v :: .ref a :: st) h r ↔ gm_Go E d 105 15 lv st (gm_wr h a (5, vs.set 47 v)) r := gr_wr m105 f105_12 rfl rfl rfl rfl rfl (gf_put k5_175 hr (by decide) hk hn (by decide))
theorem f105_15 : gm_ft 105 15 = some (.return_, 1) := by decide +kernel
theorem r105_15 {E : Nat → Value} {d : Nat} {h : gm_H} {r : gm_R × gm_H} {lv : List Value} : gm_Go E d 105 15 lv [] h r ↔ r = (.inl none, h) := gr_ret m105 f105_15 rfl rfl rfl rfl rfl rfl rfl rfl rfl
/-! GraphReaderModel.reference(IZ)V -/
theorem m106 : gm_mt[106]? = some (⟨"GraphReaderModel", "reference", "(IZ)V"⟩, prog_7_method_21_code, 5, none, [], 5, 2) := rfl
theorem f106_0 : gm_ft 106 0 = some (.aload_n 0, 1) := by decide +kernel
theorem r106_0 {E : Nat → Value} {d : Nat} {st : List Value} {h : gm_H} {r : gm_R × gm_H} {a1 a2 a3 a4 : Value} {x : Nat} : gm_Go E d 106 0 [.ref x, a1, a2, a3, a4] st h r ↔ gm_Go E d 106 1 [.ref x, a1, a2, a3, a4] (.ref x :: st) h r := gr_loc m106 f106_0 rfl rfl
theorem r106_0n {E : Nat → Value} {d : Nat} {st : List Value} {h : gm_H} {r : gm_R × gm_H} {a1 a2 a3 a4 : Value}  : gm_Go E d 106 0 [.null, a1, a2, a3, a4] st h r ↔ gm_Go E d 106 1 [.null, a1, a2, a3, a4] (.null :: st) h r := gr_loc m106 f106_0 rfl rfl
theorem f106_1 : gm_ft 106 1 = some (.iconst 4, 1) := by decide +kernel
theorem r106_1 {E : Nat → Value} {d : Nat} {st : List Value} {h : gm_H} {r : gm_R × gm_H} {lv : List Value} : gm_Go E d 106 1 lv st h r ↔ gm_Go E d 106 2 lv (.int (4 : Int32) :: st) h r := gr_pure m106 f106_1 rfl
theorem f106_2 : gm_ft 106 2 = some (.invokevirtual 159, 3) := by decide +kernel
theorem n106_2 {st : List Value} {h : gm_H} {E : Nat → Value} {lv : List Value} {b0 : Value} {a : Nat} (hs : (st.map fun v => v.category).sum ≤ 8) (he : (gm_en1 [.ref a, b0]).length ≤ 5) {vs : List Value} (hr : gm_rd h a = some (5, vs)) : gm_next E 106 2 lv (b0 :: .ref a :: st) h = some (.inr (.inl (0, 107, [.ref a, b0], st))) := gn_call m106 f106_2 rfl rfl rfl rfl rfl rfl rfl (gc_virt (bs := [b0]) (w := 880) rfl rfl rfl rfl hs he hr) (by decide)
theorem f106_5 : gm_ft 106 5 = some (.l2i, 1) := by decide +kernel
theorem r106_5 {E : Nat → Value} {d : Nat} {st : List Value} {h : gm_H} {r : gm_R × gm_H} {lv : List Value} {x : Int64} : gm_Go E d 106 5 lv (.long x :: st) h r ↔ gm_Go E d 106 6 lv (.int (x.toInt32) :: st) h r := gr_pure m106 f106_5 rfl
theorem f106_6 : gm_ft 106 6 = some (.ldc 181, 2) := by decide +kernel
theorem r106_6 {E : Nat → Value} {d : Nat} {st : List Value} {h : gm_H} {r : gm_R × gm_H} {lv : List Value} : gm_Go E d 106 6 lv st h r ↔ gm_Go E d 106 8 lv (.int (8257536 : Int32) :: st) h r := gr_rd m106 f106_6 rfl rfl rfl rfl rfl
theorem f106_8 : gm_ft 106 8 = some (.isub, 1) := by decide +kernel
theorem r106_8 {E : Nat → Value} {d : Nat} {st : List Value} {h : gm_H} {r : gm_R × gm_H} {lv : List Value} {x y : Int32} : gm_Go E d 106 8 lv (.int y :: .int x :: st) h r ↔ gm_Go E d 106 9 lv (.int (x - y) :: st) h r := gr_pure m106 f106_8 rfl
theorem f106_9 : gm_ft 106 9 = some (.istore_n 3, 1) := by decide +kernel
theorem r106_9 {E : Nat → Value} {d : Nat} {st : List Value} {h : gm_H} {r : gm_R × gm_H} {a0 a1 a2 a3 a4 : Value} {x : Int32} : gm_Go E d 106 9 [a0, a1, a2, a3, a4] (.int x :: st) h r ↔ gm_Go E d 106 10 [a0, a1, gm_k a2, .int x, a4] st h r := gr_loc m106 f106_9 rfl rfl
theorem f106_10 : gm_ft 106 10 = some (.aload_n 0, 1) := by decide +kernel
theorem r106_10 {E : Nat → Value} {d : Nat} {st : List Value} {h : gm_H} {r : gm_R × gm_H} {a1 a2 a3 a4 : Value} {x : Nat} : gm_Go E d 106 10 [.ref x, a1, a2, a3, a4] st h r ↔ gm_Go E d 106 11 [.ref x, a1, a2, a3, a4] (.ref x :: st) h r := gr_loc m106 f106_10 rfl rfl
theorem r106_10n {E : Nat → Value} {d : Nat} {st : List Value} {h : gm_H} {r : gm_R × gm_H} {a1 a2 a3 a4 : Value}  : gm_Go E d 106 10 [.null, a1, a2, a3, a4] st h r ↔ gm_Go E d 106 11 [.null, a1, a2, a3, a4] (.null :: st) h r := gr_loc m106 f106_10 rfl rfl
theorem f106_11 : gm_ft 106 11 = some (.getfield 145, 3) := by decide +kernel
theorem r106_11 {E : Nat → Value} {d : Nat} {st : List Value} {h : gm_H} {r : gm_R × gm_H} {lv : List Value} {a : Nat} {vs : List Value} {v : Value} (hr : gm_rd h a = some (5, vs)) (hv : vs[8]? = some v) : gm_Go E d 106 11 lv (.ref a :: st) h r ↔ gm_Go E d 106 14 lv (v :: st) h r := gr_rd m106 f106_11 rfl rfl rfl rfl (gf_get k5_145 hr hv)
theorem f106_14 : gm_ft 106 14 = some (.ifCond .eq 4, 3) := by decide +kernel
theorem r106_14 {E : Nat → Value} {d : Nat} {st : List Value} {h : gm_H} {r : gm_R × gm_H} {lv : List Value} {x : Int32} : gm_Go E d 106 14 lv (.int x :: st) h r ↔ (if x = 0 then gm_Go E d 106 18 lv st h r else gm_Go E d 106 17 lv st h r) := (gr_br m106 f106_14 rfl rfl rfl rfl).trans gr_if
theorem f106_17 : gm_ft 106 17 = some (.return_, 1) := by decide +kernel
theorem r106_17 {E : Nat → Value} {d : Nat} {h : gm_H} {r : gm_R × gm_H} {lv : List Value} : gm_Go E d 106 17 lv [] h r ↔ r = (.inl none, h) := gr_ret m106 f106_17 rfl rfl rfl rfl rfl rfl rfl rfl rfl
theorem f106_18 : gm_ft 106 18 = some (.aload_n 0, 1) := by decide +kernel
theorem r106_18 {E : Nat → Value} {d : Nat} {st : List Value} {h : gm_H} {r : gm_R × gm_H} {a1 a2 a3 a4 : Value} {x : Nat} : gm_Go E d 106 18 [.ref x, a1, a2, a3, a4] st h r ↔ gm_Go E d 106 19 [.ref x, a1, a2, a3, a4] (.ref x :: st) h r := gr_loc m106 f106_18 rfl rfl
theorem r106_18n {E : Nat → Value} {d : Nat} {st : List Value} {h : gm_H} {r : gm_R × gm_H} {a1 a2 a3 a4 : Value}  : gm_Go E d 106 18 [.null, a1, a2, a3, a4] st h r ↔ gm_Go E d 106 19 [.null, a1, a2, a3, a4] (.null :: st) h r := gr_loc m106 f106_18 rfl rfl
theorem f106_19 : gm_ft 106 19 = some (.iload_n 3, 1) := by decide +kernel
theorem r106_19 {E : Nat → Value} {d : Nat} {st : List Value} {h : gm_H} {r : gm_R × gm_H} {a0 a1 a2 a4 : Value} {x : Int32} : gm_Go E d 106 19 [a0, a1, a2, .int x, a4] st h r ↔ gm_Go E d 106 20 [a0, a1, a2, .int x, a4] (.int x :: st) h r := gr_loc m106 f106_19 rfl rfl
theorem f106_20 : gm_ft 106 20 = some (.aload_n 0, 1) := by decide +kernel
theorem r106_20 {E : Nat → Value} {d : Nat} {st : List Value} {h : gm_H} {r : gm_R × gm_H} {a1 a2 a3 a4 : Value} {x : Nat} : gm_Go E d 106 20 [.ref x, a1, a2, a3, a4] st h r ↔ gm_Go E d 106 21 [.ref x, a1, a2, a3, a4] (.ref x :: st) h r := gr_loc m106 f106_20 rfl rfl
theorem r106_20n {E : Nat → Value} {d : Nat} {st : List Value} {h : gm_H} {r : gm_R × gm_H} {a1 a2 a3 a4 : Value}  : gm_Go E d 106 20 [.null, a1, a2, a3, a4] st h r ↔ gm_Go E d 106 21 [.null, a1, a2, a3, a4] (.null :: st) h r := gr_loc m106 f106_20 rfl rfl
theorem f106_21 : gm_ft 106 21 = some (.getfield 166, 3) := by decide +kernel
theorem r106_21 {E : Nat → Value} {d : Nat} {st : List Value} {h : gm_H} {r : gm_R × gm_H} {lv : List Value} {a : Nat} {vs : List Value} {v : Value} (hr : gm_rd h a = some (5, vs)) (hv : vs[28]? = some v) : gm_Go E d 106 21 lv (.ref a :: st) h r ↔ gm_Go E d 106 24 lv (v :: st) h r := gr_rd m106 f106_21 rfl rfl rfl rfl (gf_get k5_166 hr hv)
theorem f106_24 : gm_ft 106 24 = some (.invokevirtual 131, 3) := by decide +kernel
theorem n106_24 {st : List Value} {h : gm_H} {E : Nat → Value} {lv : List Value} {b0 b1 : Value} {a : Nat} (hs : (st.map fun v => v.category).sum ≤ 8) (he : (gm_en1 [.ref a, b0, b1]).length ≤ 3) {vs : List Value} (hr : gm_rd h a = some (5, vs)) : gm_next E 106 24 lv (b1 :: b0 :: .ref a :: st) h = some (.inr (.inl (0, 92, [.ref a, b0, b1], st))) := gn_call m106 f106_24 rfl rfl rfl rfl rfl rfl rfl (gc_virt (bs := [b1, b0]) (w := 820) rfl rfl rfl rfl hs he hr) (by decide)
theorem f106_27 : gm_ft 106 27 = some (.ifCond .ne 34, 3) := by decide +kernel
theorem r106_27 {E : Nat → Value} {d : Nat} {st : List Value} {h : gm_H} {r : gm_R × gm_H} {lv : List Value} {x : Int32} : gm_Go E d 106 27 lv (.int x :: st) h r ↔ (if x = 0 then gm_Go E d 106 30 lv st h r else gm_Go E d 106 61 lv st h r) := (gr_br m106 f106_27 rfl rfl rfl rfl).trans gr_ifn
theorem f106_30 : gm_ft 106 30 = some (.iload_n 2, 1) := by decide +kernel
theorem r106_30 {E : Nat → Value} {d : Nat} {st : List Value} {h : gm_H} {r : gm_R × gm_H} {a0 a1 a3 a4 : Value} {x : Int32} : gm_Go E d 106 30 [a0, a1, .int x, a3, a4] st h r ↔ gm_Go E d 106 31 [a0, a1, .int x, a3, a4] (.int x :: st) h r := gr_loc m106 f106_30 rfl rfl
theorem f106_31 : gm_ft 106 31 = some (.ifCond .eq 16, 3) := by decide +kernel
theorem r106_31 {E : Nat → Value} {d : Nat} {st : List Value} {h : gm_H} {r : gm_R × gm_H} {lv : List Value} {x : Int32} : gm_Go E d 106 31 lv (.int x :: st) h r ↔ (if x = 0 then gm_Go E d 106 47 lv st h r else gm_Go E d 106 34 lv st h r) := (gr_br m106 f106_31 rfl rfl rfl rfl).trans gr_if
theorem f106_34 : gm_ft 106 34 = some (.aload_n 0, 1) := by decide +kernel
theorem r106_34 {E : Nat → Value} {d : Nat} {st : List Value} {h : gm_H} {r : gm_R × gm_H} {a1 a2 a3 a4 : Value} {x : Nat} : gm_Go E d 106 34 [.ref x, a1, a2, a3, a4] st h r ↔ gm_Go E d 106 35 [.ref x, a1, a2, a3, a4] (.ref x :: st) h r := gr_loc m106 f106_34 rfl rfl
theorem r106_34n {E : Nat → Value} {d : Nat} {st : List Value} {h : gm_H} {r : gm_R × gm_H} {a1 a2 a3 a4 : Value}  : gm_Go E d 106 34 [.null, a1, a2, a3, a4] st h r ↔ gm_Go E d 106 35 [.null, a1, a2, a3, a4] (.null :: st) h r := gr_loc m106 f106_34 rfl rfl
theorem f106_35 : gm_ft 106 35 = some (.getfield 57, 3) := by decide +kernel
theorem r106_35 {E : Nat → Value} {d : Nat} {st : List Value} {h : gm_H} {r : gm_R × gm_H} {lv : List Value} {a : Nat} {vs : List Value} {v : Value} (hr : gm_rd h a = some (5, vs)) (hv : vs[26]? = some v) : gm_Go E d 106 35 lv (.ref a :: st) h r ↔ gm_Go E d 106 38 lv (v :: st) h r := gr_rd m106 f106_35 rfl rfl rfl rfl (gf_get k5_57 hr hv)
theorem f106_38 : gm_ft 106 38 = some (.iload_n 3, 1) := by decide +kernel
theorem r106_38 {E : Nat → Value} {d : Nat} {st : List Value} {h : gm_H} {r : gm_R × gm_H} {a0 a1 a2 a4 : Value} {x : Int32} : gm_Go E d 106 38 [a0, a1, a2, .int x, a4] st h r ↔ gm_Go E d 106 39 [a0, a1, a2, .int x, a4] (.int x :: st) h r := gr_loc m106 f106_38 rfl rfl
theorem f106_39 : gm_ft 106 39 = some (.iaload, 1) := by decide +kernel
theorem r106_39 {E : Nat → Value} {d : Nat} {st : List Value} {h : gm_H} {r : gm_R × gm_H} {lv : List Value} {a k j : Nat} {vs : List Value} {v : Value} (hr : gm_rd h a = some (k, vs)) (hk : 100 ≤ k ∧ (fun t => t == 0) (k % 100) = true) (hj : j < 2 ^ 31) (hv : vs[j]? = some v) : gm_Go E d 106 39 lv (.int (nI j) :: .ref a :: st) h r ↔ gm_Go E d 106 40 lv (v :: st) h r := gr_rd m106 f106_39 rfl rfl rfl rfl (ga_ld (P := fun t => t == 0) hr hk hj hv)
theorem f106_40 : gm_ft 106 40 = some (.iconst 1, 1) := by decide +kernel
theorem r106_40 {E : Nat → Value} {d : Nat} {st : List Value} {h : gm_H} {r : gm_R × gm_H} {lv : List Value} : gm_Go E d 106 40 lv st h r ↔ gm_Go E d 106 41 lv (.int (1 : Int32) :: st) h r := gr_pure m106 f106_40 rfl
theorem f106_41 : gm_ft 106 41 = some (.if_icmp .ne 20, 3) := by decide +kernel
theorem r106_41 {E : Nat → Value} {d : Nat} {st : List Value} {h : gm_H} {r : gm_R × gm_H} {lv : List Value} {x y : Int32} : gm_Go E d 106 41 lv (.int y :: .int x :: st) h r ↔ (if x = y then gm_Go E d 106 44 lv st h r else gm_Go E d 106 61 lv st h r) := (gr_br m106 f106_41 rfl rfl rfl rfl).trans gr_ifn
theorem f106_44 : gm_ft 106 44 = some (.goto 13, 3) := by decide +kernel
theorem r106_44 {E : Nat → Value} {d : Nat} {st : List Value} {h : gm_H} {r : gm_R × gm_H} {lv : List Value} : gm_Go E d 106 44 lv st h r ↔ gm_Go E d 106 57 lv st h r := gr_brT m106 f106_44 rfl rfl rfl rfl
theorem f106_47 : gm_ft 106 47 = some (.aload_n 0, 1) := by decide +kernel
theorem r106_47 {E : Nat → Value} {d : Nat} {st : List Value} {h : gm_H} {r : gm_R × gm_H} {a1 a2 a3 a4 : Value} {x : Nat} : gm_Go E d 106 47 [.ref x, a1, a2, a3, a4] st h r ↔ gm_Go E d 106 48 [.ref x, a1, a2, a3, a4] (.ref x :: st) h r := gr_loc m106 f106_47 rfl rfl
theorem r106_47n {E : Nat → Value} {d : Nat} {st : List Value} {h : gm_H} {r : gm_R × gm_H} {a1 a2 a3 a4 : Value}  : gm_Go E d 106 47 [.null, a1, a2, a3, a4] st h r ↔ gm_Go E d 106 48 [.null, a1, a2, a3, a4] (.null :: st) h r := gr_loc m106 f106_47 rfl rfl
theorem f106_48 : gm_ft 106 48 = some (.getfield 57, 3) := by decide +kernel
theorem r106_48 {E : Nat → Value} {d : Nat} {st : List Value} {h : gm_H} {r : gm_R × gm_H} {lv : List Value} {a : Nat} {vs : List Value} {v : Value} (hr : gm_rd h a = some (5, vs)) (hv : vs[26]? = some v) : gm_Go E d 106 48 lv (.ref a :: st) h r ↔ gm_Go E d 106 51 lv (v :: st) h r := gr_rd m106 f106_48 rfl rfl rfl rfl (gf_get k5_57 hr hv)
theorem f106_51 : gm_ft 106 51 = some (.iload_n 3, 1) := by decide +kernel
theorem r106_51 {E : Nat → Value} {d : Nat} {st : List Value} {h : gm_H} {r : gm_R × gm_H} {a0 a1 a2 a4 : Value} {x : Int32} : gm_Go E d 106 51 [a0, a1, a2, .int x, a4] st h r ↔ gm_Go E d 106 52 [a0, a1, a2, .int x, a4] (.int x :: st) h r := gr_loc m106 f106_51 rfl rfl
theorem f106_52 : gm_ft 106 52 = some (.iaload, 1) := by decide +kernel
theorem r106_52 {E : Nat → Value} {d : Nat} {st : List Value} {h : gm_H} {r : gm_R × gm_H} {lv : List Value} {a k j : Nat} {vs : List Value} {v : Value} (hr : gm_rd h a = some (k, vs)) (hk : 100 ≤ k ∧ (fun t => t == 0) (k % 100) = true) (hj : j < 2 ^ 31) (hv : vs[j]? = some v) : gm_Go E d 106 52 lv (.int (nI j) :: .ref a :: st) h r ↔ gm_Go E d 106 53 lv (v :: st) h r := gr_rd m106 f106_52 rfl rfl rfl rfl (ga_ld (P := fun t => t == 0) hr hk hj hv)
theorem f106_53 : gm_ft 106 53 = some (.iconst 1, 1) := by decide +kernel
theorem r106_53 {E : Nat → Value} {d : Nat} {st : List Value} {h : gm_H} {r : gm_R × gm_H} {lv : List Value} : gm_Go E d 106 53 lv st h r ↔ gm_Go E d 106 54 lv (.int (1 : Int32) :: st) h r := gr_pure m106 f106_53 rfl
theorem f106_54 : gm_ft 106 54 = some (.if_icmp .le 7, 3) := by decide +kernel
theorem r106_54 {E : Nat → Value} {d : Nat} {st : List Value} {h : gm_H} {r : gm_R × gm_H} {lv : List Value} {x y : Int32} : gm_Go E d 106 54 lv (.int y :: .int x :: st) h r ↔ (if x ≤ y then gm_Go E d 106 61 lv st h r else gm_Go E d 106 57 lv st h r) := (gr_br m106 f106_54 rfl rfl rfl rfl).trans gr_if
theorem f106_57 : gm_ft 106 57 = some (.iconst 1, 1) := by decide +kernel
theorem r106_57 {E : Nat → Value} {d : Nat} {st : List Value} {h : gm_H} {r : gm_R × gm_H} {lv : List Value} : gm_Go E d 106 57 lv st h r ↔ gm_Go E d 106 58 lv (.int (1 : Int32) :: st) h r := gr_pure m106 f106_57 rfl
theorem f106_58 : gm_ft 106 58 = some (.goto 4, 3) := by decide +kernel
theorem r106_58 {E : Nat → Value} {d : Nat} {st : List Value} {h : gm_H} {r : gm_R × gm_H} {lv : List Value} : gm_Go E d 106 58 lv st h r ↔ gm_Go E d 106 62 lv st h r := gr_brT m106 f106_58 rfl rfl rfl rfl
theorem f106_61 : gm_ft 106 61 = some (.iconst 0, 1) := by decide +kernel
theorem r106_61 {E : Nat → Value} {d : Nat} {st : List Value} {h : gm_H} {r : gm_R × gm_H} {lv : List Value} : gm_Go E d 106 61 lv st h r ↔ gm_Go E d 106 62 lv (.int (0 : Int32) :: st) h r := gr_pure m106 f106_61 rfl
theorem f106_62 : gm_ft 106 62 = some (.istore 4, 2) := by decide +kernel
theorem r106_62 {E : Nat → Value} {d : Nat} {st : List Value} {h : gm_H} {r : gm_R × gm_H} {a0 a1 a2 a3 a4 : Value} {x : Int32} : gm_Go E d 106 62 [a0, a1, a2, a3, a4] (.int x :: st) h r ↔ gm_Go E d 106 64 [a0, a1, a2, gm_k a3, .int x] st h r := gr_loc m106 f106_62 rfl rfl
theorem f106_64 : gm_ft 106 64 = some (.iload 4, 2) := by decide +kernel
theorem r106_64 {E : Nat → Value} {d : Nat} {st : List Value} {h : gm_H} {r : gm_R × gm_H} {a0 a1 a2 a3 : Value} {x : Int32} : gm_Go E d 106 64 [a0, a1, a2, a3, .int x] st h r ↔ gm_Go E d 106 66 [a0, a1, a2, a3, .int x] (.int x :: st) h r := gr_loc m106 f106_64 rfl rfl
theorem f106_66 : gm_ft 106 66 = some (.ifCond .ne 12, 3) := by decide +kernel
theorem r106_66 {E : Nat → Value} {d : Nat} {st : List Value} {h : gm_H} {r : gm_R × gm_H} {lv : List Value} {x : Int32} : gm_Go E d 106 66 lv (.int x :: st) h r ↔ (if x = 0 then gm_Go E d 106 69 lv st h r else gm_Go E d 106 78 lv st h r) := (gr_br m106 f106_66 rfl rfl rfl rfl).trans gr_ifn
theorem f106_69 : gm_ft 106 69 = some (.aload_n 0, 1) := by decide +kernel
theorem r106_69 {E : Nat → Value} {d : Nat} {st : List Value} {h : gm_H} {r : gm_R × gm_H} {a1 a2 a3 a4 : Value} {x : Nat} : gm_Go E d 106 69 [.ref x, a1, a2, a3, a4] st h r ↔ gm_Go E d 106 70 [.ref x, a1, a2, a3, a4] (.ref x :: st) h r := gr_loc m106 f106_69 rfl rfl
theorem r106_69n {E : Nat → Value} {d : Nat} {st : List Value} {h : gm_H} {r : gm_R × gm_H} {a1 a2 a3 a4 : Value}  : gm_Go E d 106 69 [.null, a1, a2, a3, a4] st h r ↔ gm_Go E d 106 70 [.null, a1, a2, a3, a4] (.null :: st) h r := gr_loc m106 f106_69 rfl rfl
theorem f106_70 : gm_ft 106 70 = some (.bipush (-4), 2) := by decide +kernel
theorem r106_70 {E : Nat → Value} {d : Nat} {st : List Value} {h : gm_H} {r : gm_R × gm_H} {lv : List Value} : gm_Go E d 106 70 lv st h r ↔ gm_Go E d 106 72 lv (.int (-4 : Int32) :: st) h r := gr_pure m106 f106_70 rfl
theorem f106_72 : gm_ft 106 72 = some (.invokevirtual 151, 3) := by decide +kernel
theorem n106_72 {st : List Value} {h : gm_H} {E : Nat → Value} {lv : List Value} {b0 : Value} {a : Nat} (hs : (st.map fun v => v.category).sum ≤ 8) (he : (gm_en1 [.ref a, b0]).length ≤ 2) {vs : List Value} (hr : gm_rd h a = some (5, vs)) : gm_next E 106 72 lv (b0 :: .ref a :: st) h = some (.inr (.inl (0, 98, [.ref a, b0], st))) := gn_call m106 f106_72 rfl rfl rfl rfl rfl rfl rfl (gc_virt (bs := [b0]) (w := 844) rfl rfl rfl rfl hs he hr) (by decide)
theorem f106_75 : gm_ft 106 75 = some (.goto 28, 3) := by decide +kernel
theorem r106_75 {E : Nat → Value} {d : Nat} {st : List Value} {h : gm_H} {r : gm_R × gm_H} {lv : List Value} : gm_Go E d 106 75 lv st h r ↔ gm_Go E d 106 103 lv st h r := gr_brT m106 f106_75 rfl rfl rfl rfl
theorem f106_78 : gm_ft 106 78 = some (.aload_n 0, 1) := by decide +kernel
theorem r106_78 {E : Nat → Value} {d : Nat} {st : List Value} {h : gm_H} {r : gm_R × gm_H} {a1 a2 a3 a4 : Value} {x : Nat} : gm_Go E d 106 78 [.ref x, a1, a2, a3, a4] st h r ↔ gm_Go E d 106 79 [.ref x, a1, a2, a3, a4] (.ref x :: st) h r := gr_loc m106 f106_78 rfl rfl
theorem r106_78n {E : Nat → Value} {d : Nat} {st : List Value} {h : gm_H} {r : gm_R × gm_H} {a1 a2 a3 a4 : Value}  : gm_Go E d 106 78 [.null, a1, a2, a3, a4] st h r ↔ gm_Go E d 106 79 [.null, a1, a2, a3, a4] (.null :: st) h r := gr_loc m106 f106_78 rfl rfl
theorem f106_79 : gm_ft 106 79 = some (.aload_n 0, 1) := by decide +kernel
theorem r106_79 {E : Nat → Value} {d : Nat} {st : List Value} {h : gm_H} {r : gm_R × gm_H} {a1 a2 a3 a4 : Value} {x : Nat} : gm_Go E d 106 79 [.ref x, a1, a2, a3, a4] st h r ↔ gm_Go E d 106 80 [.ref x, a1, a2, a3, a4] (.ref x :: st) h r := gr_loc m106 f106_79 rfl rfl
theorem r106_79n {E : Nat → Value} {d : Nat} {st : List Value} {h : gm_H} {r : gm_R × gm_H} {a1 a2 a3 a4 : Value}  : gm_Go E d 106 79 [.null, a1, a2, a3, a4] st h r ↔ gm_Go E d 106 80 [.null, a1, a2, a3, a4] (.null :: st) h r := gr_loc m106 f106_79 rfl rfl
theorem f106_80 : gm_ft 106 80 = some (.getfield 57, 3) := by decide +kernel
theorem r106_80 {E : Nat → Value} {d : Nat} {st : List Value} {h : gm_H} {r : gm_R × gm_H} {lv : List Value} {a : Nat} {vs : List Value} {v : Value} (hr : gm_rd h a = some (5, vs)) (hv : vs[26]? = some v) : gm_Go E d 106 80 lv (.ref a :: st) h r ↔ gm_Go E d 106 83 lv (v :: st) h r := gr_rd m106 f106_80 rfl rfl rfl rfl (gf_get k5_57 hr hv)
theorem f106_83 : gm_ft 106 83 = some (.iload_n 3, 1) := by decide +kernel
theorem r106_83 {E : Nat → Value} {d : Nat} {st : List Value} {h : gm_H} {r : gm_R × gm_H} {a0 a1 a2 a4 : Value} {x : Int32} : gm_Go E d 106 83 [a0, a1, a2, .int x, a4] st h r ↔ gm_Go E d 106 84 [a0, a1, a2, .int x, a4] (.int x :: st) h r := gr_loc m106 f106_83 rfl rfl
theorem f106_84 : gm_ft 106 84 = some (.iaload, 1) := by decide +kernel
theorem r106_84 {E : Nat → Value} {d : Nat} {st : List Value} {h : gm_H} {r : gm_R × gm_H} {lv : List Value} {a k j : Nat} {vs : List Value} {v : Value} (hr : gm_rd h a = some (k, vs)) (hk : 100 ≤ k ∧ (fun t => t == 0) (k % 100) = true) (hj : j < 2 ^ 31) (hv : vs[j]? = some v) : gm_Go E d 106 84 lv (.int (nI j) :: .ref a :: st) h r ↔ gm_Go E d 106 85 lv (v :: st) h r := gr_rd m106 f106_84 rfl rfl rfl rfl (ga_ld (P := fun t => t == 0) hr hk hj hv)
theorem f106_85 : gm_ft 106 85 = some (.iconst 3, 1) := by decide +kernel
theorem r106_85 {E : Nat → Value} {d : Nat} {st : List Value} {h : gm_H} {r : gm_R × gm_H} {lv : List Value} : gm_Go E d 106 85 lv st h r ↔ gm_Go E d 106 86 lv (.int (3 : Int32) :: st) h r := gr_pure m106 f106_85 rfl
theorem f106_86 : gm_ft 106 86 = some (.if_icmp .ne 8, 3) := by decide +kernel
theorem r106_86 {E : Nat → Value} {d : Nat} {st : List Value} {h : gm_H} {r : gm_R × gm_H} {lv : List Value} {x y : Int32} : gm_Go E d 106 86 lv (.int y :: .int x :: st) h r ↔ (if x = y then gm_Go E d 106 89 lv st h r else gm_Go E d 106 94 lv st h r) := (gr_br m106 f106_86 rfl rfl rfl rfl).trans gr_ifn
theorem f106_89 : gm_ft 106 89 = some (.bipush (-2), 2) := by decide +kernel
theorem r106_89 {E : Nat → Value} {d : Nat} {st : List Value} {h : gm_H} {r : gm_R × gm_H} {lv : List Value} : gm_Go E d 106 89 lv st h r ↔ gm_Go E d 106 91 lv (.int (-2 : Int32) :: st) h r := gr_pure m106 f106_89 rfl
theorem f106_91 : gm_ft 106 91 = some (.goto 9, 3) := by decide +kernel
theorem r106_91 {E : Nat → Value} {d : Nat} {st : List Value} {h : gm_H} {r : gm_R × gm_H} {lv : List Value} : gm_Go E d 106 91 lv st h r ↔ gm_Go E d 106 100 lv st h r := gr_brT m106 f106_91 rfl rfl rfl rfl
theorem f106_94 : gm_ft 106 94 = some (.aload_n 0, 1) := by decide +kernel
theorem r106_94 {E : Nat → Value} {d : Nat} {st : List Value} {h : gm_H} {r : gm_R × gm_H} {a1 a2 a3 a4 : Value} {x : Nat} : gm_Go E d 106 94 [.ref x, a1, a2, a3, a4] st h r ↔ gm_Go E d 106 95 [.ref x, a1, a2, a3, a4] (.ref x :: st) h r := gr_loc m106 f106_94 rfl rfl
theorem r106_94n {E : Nat → Value} {d : Nat} {st : List Value} {h : gm_H} {r : gm_R × gm_H} {a1 a2 a3 a4 : Value}  : gm_Go E d 106 94 [.null, a1, a2, a3, a4] st h r ↔ gm_Go E d 106 95 [.null, a1, a2, a3, a4] (.null :: st) h r := gr_loc m106 f106_94 rfl rfl
theorem f106_95 : gm_ft 106 95 = some (.getfield 60, 3) := by decide +kernel
theorem r106_95 {E : Nat → Value} {d : Nat} {st : List Value} {h : gm_H} {r : gm_R × gm_H} {lv : List Value} {a : Nat} {vs : List Value} {v : Value} (hr : gm_rd h a = some (5, vs)) (hv : vs[27]? = some v) : gm_Go E d 106 95 lv (.ref a :: st) h r ↔ gm_Go E d 106 98 lv (v :: st) h r := gr_rd m106 f106_95 rfl rfl rfl rfl (gf_get k5_60 hr hv)
theorem f106_98 : gm_ft 106 98 = some (.iload_n 3, 1) := by decide +kernel
theorem r106_98 {E : Nat → Value} {d : Nat} {st : List Value} {h : gm_H} {r : gm_R × gm_H} {a0 a1 a2 a4 : Value} {x : Int32} : gm_Go E d 106 98 [a0, a1, a2, .int x, a4] st h r ↔ gm_Go E d 106 99 [a0, a1, a2, .int x, a4] (.int x :: st) h r := gr_loc m106 f106_98 rfl rfl
theorem f106_99 : gm_ft 106 99 = some (.iaload, 1) := by decide +kernel
theorem r106_99 {E : Nat → Value} {d : Nat} {st : List Value} {h : gm_H} {r : gm_R × gm_H} {lv : List Value} {a k j : Nat} {vs : List Value} {v : Value} (hr : gm_rd h a = some (k, vs)) (hk : 100 ≤ k ∧ (fun t => t == 0) (k % 100) = true) (hj : j < 2 ^ 31) (hv : vs[j]? = some v) : gm_Go E d 106 99 lv (.int (nI j) :: .ref a :: st) h r ↔ gm_Go E d 106 100 lv (v :: st) h r := gr_rd m106 f106_99 rfl rfl rfl rfl (ga_ld (P := fun t => t == 0) hr hk hj hv)
theorem f106_100 : gm_ft 106 100 = some (.invokevirtual 182, 3) := by decide +kernel
theorem n106_100 {st : List Value} {h : gm_H} {E : Nat → Value} {lv : List Value} {b0 : Value} {a : Nat} (hs : (st.map fun v => v.category).sum ≤ 8) (he : (gm_en1 [.ref a, b0]).length ≤ 2) {vs : List Value} (hr : gm_rd h a = some (5, vs)) : gm_next E 106 100 lv (b0 :: .ref a :: st) h = some (.inr (.inl (0, 105, [.ref a, b0], st))) := gn_call m106 f106_100 rfl rfl rfl rfl rfl rfl rfl (gc_virt (bs := [b0]) (w := 872) rfl rfl rfl rfl hs he hr) (by decide)
theorem f106_103 : gm_ft 106 103 = some (.return_, 1) := by decide +kernel
theorem r106_103 {E : Nat → Value} {d : Nat} {h : gm_H} {r : gm_R × gm_H} {lv : List Value} : gm_Go E d 106 103 lv [] h r ↔ r = (.inl none, h) := gr_ret m106 f106_103 rfl rfl rfl rfl rfl rfl rfl rfl rfl
/-! GraphReaderModel.number(I)J -/
theorem m107 : gm_mt[107]? = some (⟨"GraphReaderModel", "number", "(I)J"⟩, prog_7_method_11_code, 5, (some .long), [], 5, 2) := rfl
theorem f107_0 : gm_ft 107 0 = some (.lconst 0, 1) := by decide +kernel
theorem r107_0 {E : Nat → Value} {d : Nat} {st : List Value} {h : gm_H} {r : gm_R × gm_H} {lv : List Value} : gm_Go E d 107 0 lv st h r ↔ gm_Go E d 107 1 lv (.long 0 :: st) h r := gr_pure m107 f107_0 rfl
theorem f107_1 : gm_ft 107 1 = some (.lstore_n 2, 1) := by decide +kernel
theorem r107_1 {E : Nat → Value} {d : Nat} {st : List Value} {h : gm_H} {r : gm_R × gm_H} {a0 a1 a2 a3 a4 : Value} {x : Int64} : gm_Go E d 107 1 [a0, a1, a2, a3, a4] (.long x :: st) h r ↔ gm_Go E d 107 2 [a0, gm_k a1, .long x, gm_u, a4] st h r := gr_loc m107 f107_1 rfl rfl
theorem f107_2 : gm_ft 107 2 = some (.iconst 0, 1) := by decide +kernel
theorem r107_2 {E : Nat → Value} {d : Nat} {st : List Value} {h : gm_H} {r : gm_R × gm_H} {lv : List Value} : gm_Go E d 107 2 lv st h r ↔ gm_Go E d 107 3 lv (.int (0 : Int32) :: st) h r := gr_pure m107 f107_2 rfl
theorem f107_3 : gm_ft 107 3 = some (.istore 4, 2) := by decide +kernel
theorem r107_3 {E : Nat → Value} {d : Nat} {st : List Value} {h : gm_H} {r : gm_R × gm_H} {a0 a1 a2 a3 a4 : Value} {x : Int32} : gm_Go E d 107 3 [a0, a1, a2, a3, a4] (.int x :: st) h r ↔ gm_Go E d 107 5 [a0, a1, a2, gm_k a3, .int x] st h r := gr_loc m107 f107_3 rfl rfl
theorem f107_5 : gm_ft 107 5 = some (.iload 4, 2) := by decide +kernel
theorem r107_5 {E : Nat → Value} {d : Nat} {st : List Value} {h : gm_H} {r : gm_R × gm_H} {a0 a1 a2 a3 : Value} {x : Int32} : gm_Go E d 107 5 [a0, a1, a2, a3, .int x] st h r ↔ gm_Go E d 107 7 [a0, a1, a2, a3, .int x] (.int x :: st) h r := gr_loc m107 f107_5 rfl rfl
theorem f107_7 : gm_ft 107 7 = some (.iload_n 1, 1) := by decide +kernel
theorem r107_7 {E : Nat → Value} {d : Nat} {st : List Value} {h : gm_H} {r : gm_R × gm_H} {a0 a2 a3 a4 : Value} {x : Int32} : gm_Go E d 107 7 [a0, .int x, a2, a3, a4] st h r ↔ gm_Go E d 107 8 [a0, .int x, a2, a3, a4] (.int x :: st) h r := gr_loc m107 f107_7 rfl rfl
theorem f107_8 : gm_ft 107 8 = some (.if_icmp .ge 20, 3) := by decide +kernel
theorem r107_8 {E : Nat → Value} {d : Nat} {st : List Value} {h : gm_H} {r : gm_R × gm_H} {lv : List Value} {x y : Int32} : gm_Go E d 107 8 lv (.int y :: .int x :: st) h r ↔ (if y ≤ x then gm_Go E d 107 28 lv st h r else gm_Go E d 107 11 lv st h r) := (gr_br m107 f107_8 rfl rfl rfl rfl).trans gr_if
theorem f107_11 : gm_ft 107 11 = some (.lload_n 2, 1) := by decide +kernel
theorem r107_11 {E : Nat → Value} {d : Nat} {st : List Value} {h : gm_H} {r : gm_R × gm_H} {a0 a1 a3 a4 : Value} {x : Int64} : gm_Go E d 107 11 [a0, a1, .long x, a3, a4] st h r ↔ gm_Go E d 107 12 [a0, a1, .long x, a3, a4] (.long x :: st) h r := gr_loc m107 f107_11 rfl rfl
theorem f107_12 : gm_ft 107 12 = some (.bipush 8, 2) := by decide +kernel
theorem r107_12 {E : Nat → Value} {d : Nat} {st : List Value} {h : gm_H} {r : gm_R × gm_H} {lv : List Value} : gm_Go E d 107 12 lv st h r ↔ gm_Go E d 107 14 lv (.int (8 : Int32) :: st) h r := gr_pure m107 f107_12 rfl
theorem f107_14 : gm_ft 107 14 = some (.lshl, 1) := by decide +kernel
theorem r107_14 {E : Nat → Value} {d : Nat} {st : List Value} {h : gm_H} {r : gm_R × gm_H} {lv : List Value} {x : Int64} {y : Int32} : gm_Go E d 107 14 lv (.int y :: .long x :: st) h r ↔ gm_Go E d 107 15 lv (.long (x <<< (y.toInt64 &&& 63)) :: st) h r := gr_pure m107 f107_14 rfl
theorem f107_15 : gm_ft 107 15 = some (.aload_n 0, 1) := by decide +kernel
theorem r107_15 {E : Nat → Value} {d : Nat} {st : List Value} {h : gm_H} {r : gm_R × gm_H} {a1 a2 a3 a4 : Value} {x : Nat} : gm_Go E d 107 15 [.ref x, a1, a2, a3, a4] st h r ↔ gm_Go E d 107 16 [.ref x, a1, a2, a3, a4] (.ref x :: st) h r := gr_loc m107 f107_15 rfl rfl
theorem r107_15n {E : Nat → Value} {d : Nat} {st : List Value} {h : gm_H} {r : gm_R × gm_H} {a1 a2 a3 a4 : Value}  : gm_Go E d 107 15 [.null, a1, a2, a3, a4] st h r ↔ gm_Go E d 107 16 [.null, a1, a2, a3, a4] (.null :: st) h r := gr_loc m107 f107_15 rfl rfl
theorem f107_16 : gm_ft 107 16 = some (.invokevirtual 155, 3) := by decide +kernel
theorem n107_16 {st : List Value} {h : gm_H} {E : Nat → Value} {lv : List Value} {a : Nat} (hs : (st.map fun v => v.category).sum ≤ 8) (he : (gm_en1 [.ref a]).length ≤ 1) {vs : List Value} (hr : gm_rd h a = some (5, vs)) : gm_next E 107 16 lv (.ref a :: st) h = some (.inr (.inl (0, 99, [.ref a], st))) := gn_call m107 f107_16 rfl rfl rfl rfl rfl rfl rfl (gc_virt (bs := []) (w := 848) rfl rfl rfl rfl hs he hr) (by decide)
theorem f107_19 : gm_ft 107 19 = some (.i2l, 1) := by decide +kernel
theorem r107_19 {E : Nat → Value} {d : Nat} {st : List Value} {h : gm_H} {r : gm_R × gm_H} {lv : List Value} {x : Int32} : gm_Go E d 107 19 lv (.int x :: st) h r ↔ gm_Go E d 107 20 lv (.long (x.toInt64) :: st) h r := gr_pure m107 f107_19 rfl
theorem f107_20 : gm_ft 107 20 = some (.lor, 1) := by decide +kernel
theorem r107_20 {E : Nat → Value} {d : Nat} {st : List Value} {h : gm_H} {r : gm_R × gm_H} {lv : List Value} {x y : Int64} : gm_Go E d 107 20 lv (.long y :: .long x :: st) h r ↔ gm_Go E d 107 21 lv (.long (x ||| y) :: st) h r := gr_pure m107 f107_20 rfl
theorem f107_21 : gm_ft 107 21 = some (.lstore_n 2, 1) := by decide +kernel
theorem r107_21 {E : Nat → Value} {d : Nat} {st : List Value} {h : gm_H} {r : gm_R × gm_H} {a0 a1 a2 a3 a4 : Value} {x : Int64} : gm_Go E d 107 21 [a0, a1, a2, a3, a4] (.long x :: st) h r ↔ gm_Go E d 107 22 [a0, gm_k a1, .long x, gm_u, a4] st h r := gr_loc m107 f107_21 rfl rfl
theorem f107_22 : gm_ft 107 22 = some (.iinc 4 1, 3) := by decide +kernel
theorem r107_22 {E : Nat → Value} {d : Nat} {st : List Value} {h : gm_H} {r : gm_R × gm_H} {a0 a1 a2 a3 : Value} {x : Int32} : gm_Go E d 107 22 [a0, a1, a2, a3, .int x] st h r ↔ gm_Go E d 107 25 [a0, a1, a2, gm_k a3, .int (x + (1 : Int32))] st h r := gr_loc m107 f107_22 rfl rfl
theorem f107_25 : gm_ft 107 25 = some (.goto (-20), 3) := by decide +kernel
theorem r107_25 {E : Nat → Value} {d : Nat} {st : List Value} {h : gm_H} {r : gm_R × gm_H} {lv : List Value} : gm_Go E d 107 25 lv st h r ↔ gm_Go E d 107 5 lv st h r := gr_brT m107 f107_25 rfl rfl rfl rfl
theorem f107_28 : gm_ft 107 28 = some (.lload_n 2, 1) := by decide +kernel
theorem r107_28 {E : Nat → Value} {d : Nat} {st : List Value} {h : gm_H} {r : gm_R × gm_H} {a0 a1 a3 a4 : Value} {x : Int64} : gm_Go E d 107 28 [a0, a1, .long x, a3, a4] st h r ↔ gm_Go E d 107 29 [a0, a1, .long x, a3, a4] (.long x :: st) h r := gr_loc m107 f107_28 rfl rfl
theorem f107_29 : gm_ft 107 29 = some (.lreturn, 1) := by decide +kernel
theorem r107_29 {E : Nat → Value} {d : Nat} {h : gm_H} {r : gm_R × gm_H} {lv : List Value} {x : Int64} : gm_Go E d 107 29 lv [.long x] h r ↔ r = (.inl (some (.long x)), h) := gr_ret m107 f107_29 rfl rfl rfl rfl rfl rfl rfl rfl rfl
/-! GraphReaderModel.entry(II)I -/
theorem m108 : gm_mt[108]? = some (⟨"GraphReaderModel", "entry", "(II)I"⟩, prog_7_method_16_code, 3, (some .int), [], 5, 2) := rfl
theorem f108_0 : gm_ft 108 0 = some (.aload_n 0, 1) := by decide +kernel
theorem r108_0 {E : Nat → Value} {d : Nat} {st : List Value} {h : gm_H} {r : gm_R × gm_H} {a1 a2 : Value} {x : Nat} : gm_Go E d 108 0 [.ref x, a1, a2] st h r ↔ gm_Go E d 108 1 [.ref x, a1, a2] (.ref x :: st) h r := gr_loc m108 f108_0 rfl rfl
theorem r108_0n {E : Nat → Value} {d : Nat} {st : List Value} {h : gm_H} {r : gm_R × gm_H} {a1 a2 : Value}  : gm_Go E d 108 0 [.null, a1, a2] st h r ↔ gm_Go E d 108 1 [.null, a1, a2] (.null :: st) h r := gr_loc m108 f108_0 rfl rfl
theorem f108_1 : gm_ft 108 1 = some (.getfield 57, 3) := by decide +kernel
theorem r108_1 {E : Nat → Value} {d : Nat} {st : List Value} {h : gm_H} {r : gm_R × gm_H} {lv : List Value} {a : Nat} {vs : List Value} {v : Value} (hr : gm_rd h a = some (5, vs)) (hv : vs[26]? = some v) : gm_Go E d 108 1 lv (.ref a :: st) h r ↔ gm_Go E d 108 4 lv (v :: st) h r := gr_rd m108 f108_1 rfl rfl rfl rfl (gf_get k5_57 hr hv)
theorem f108_4 : gm_ft 108 4 = some (.aload_n 0, 1) := by decide +kernel
theorem r108_4 {E : Nat → Value} {d : Nat} {st : List Value} {h : gm_H} {r : gm_R × gm_H} {a1 a2 : Value} {x : Nat} : gm_Go E d 108 4 [.ref x, a1, a2] st h r ↔ gm_Go E d 108 5 [.ref x, a1, a2] (.ref x :: st) h r := gr_loc m108 f108_4 rfl rfl
theorem r108_4n {E : Nat → Value} {d : Nat} {st : List Value} {h : gm_H} {r : gm_R × gm_H} {a1 a2 : Value}  : gm_Go E d 108 4 [.null, a1, a2] st h r ↔ gm_Go E d 108 5 [.null, a1, a2] (.null :: st) h r := gr_loc m108 f108_4 rfl rfl
theorem f108_5 : gm_ft 108 5 = some (.getfield 166, 3) := by decide +kernel
theorem r108_5 {E : Nat → Value} {d : Nat} {st : List Value} {h : gm_H} {r : gm_R × gm_H} {lv : List Value} {a : Nat} {vs : List Value} {v : Value} (hr : gm_rd h a = some (5, vs)) (hv : vs[28]? = some v) : gm_Go E d 108 5 lv (.ref a :: st) h r ↔ gm_Go E d 108 8 lv (v :: st) h r := gr_rd m108 f108_5 rfl rfl rfl rfl (gf_get k5_166 hr hv)
theorem f108_8 : gm_ft 108 8 = some (.iload_n 1, 1) := by decide +kernel
theorem r108_8 {E : Nat → Value} {d : Nat} {st : List Value} {h : gm_H} {r : gm_R × gm_H} {a0 a2 : Value} {x : Int32} : gm_Go E d 108 8 [a0, .int x, a2] st h r ↔ gm_Go E d 108 9 [a0, .int x, a2] (.int x :: st) h r := gr_loc m108 f108_8 rfl rfl
theorem f108_9 : gm_ft 108 9 = some (.iastore, 1) := by decide +kernel
theorem r108_9 {E : Nat → Value} {d : Nat} {st : List Value} {h : gm_H} {r : gm_R × gm_H} {lv : List Value} {a k j : Nat} {vs : List Value} {x : Int32} (hr : gm_rd h a = some (k, vs)) (hk : 100 ≤ k ∧ k % 100 = 0 ∧ gm_ko k = 2 ∧ 2 < 3) (hj : j < 2 ^ 31) (hl : j < vs.length) : gm_Go E d 108 9 lv (.int x :: .int (nI j) :: .ref a :: st) h r ↔ gm_Go E d 108 10 lv st (gm_wr h a (k, vs.set j (.int x))) r := gr_wr m108 f108_9 rfl rfl rfl rfl rfl (ga_st hr hk hj hl)
theorem f108_10 : gm_ft 108 10 = some (.aload_n 0, 1) := by decide +kernel
theorem r108_10 {E : Nat → Value} {d : Nat} {st : List Value} {h : gm_H} {r : gm_R × gm_H} {a1 a2 : Value} {x : Nat} : gm_Go E d 108 10 [.ref x, a1, a2] st h r ↔ gm_Go E d 108 11 [.ref x, a1, a2] (.ref x :: st) h r := gr_loc m108 f108_10 rfl rfl
theorem r108_10n {E : Nat → Value} {d : Nat} {st : List Value} {h : gm_H} {r : gm_R × gm_H} {a1 a2 : Value}  : gm_Go E d 108 10 [.null, a1, a2] st h r ↔ gm_Go E d 108 11 [.null, a1, a2] (.null :: st) h r := gr_loc m108 f108_10 rfl rfl
theorem f108_11 : gm_ft 108 11 = some (.getfield 60, 3) := by decide +kernel
theorem r108_11 {E : Nat → Value} {d : Nat} {st : List Value} {h : gm_H} {r : gm_R × gm_H} {lv : List Value} {a : Nat} {vs : List Value} {v : Value} (hr : gm_rd h a = some (5, vs)) (hv : vs[27]? = some v) : gm_Go E d 108 11 lv (.ref a :: st) h r ↔ gm_Go E d 108 14 lv (v :: st) h r := gr_rd m108 f108_11 rfl rfl rfl rfl (gf_get k5_60 hr hv)
theorem f108_14 : gm_ft 108 14 = some (.aload_n 0, 1) := by decide +kernel
theorem r108_14 {E : Nat → Value} {d : Nat} {st : List Value} {h : gm_H} {r : gm_R × gm_H} {a1 a2 : Value} {x : Nat} : gm_Go E d 108 14 [.ref x, a1, a2] st h r ↔ gm_Go E d 108 15 [.ref x, a1, a2] (.ref x :: st) h r := gr_loc m108 f108_14 rfl rfl
theorem r108_14n {E : Nat → Value} {d : Nat} {st : List Value} {h : gm_H} {r : gm_R × gm_H} {a1 a2 : Value}  : gm_Go E d 108 14 [.null, a1, a2] st h r ↔ gm_Go E d 108 15 [.null, a1, a2] (.null :: st) h r := gr_loc m108 f108_14 rfl rfl
theorem f108_15 : gm_ft 108 15 = some (.getfield 166, 3) := by decide +kernel
theorem r108_15 {E : Nat → Value} {d : Nat} {st : List Value} {h : gm_H} {r : gm_R × gm_H} {lv : List Value} {a : Nat} {vs : List Value} {v : Value} (hr : gm_rd h a = some (5, vs)) (hv : vs[28]? = some v) : gm_Go E d 108 15 lv (.ref a :: st) h r ↔ gm_Go E d 108 18 lv (v :: st) h r := gr_rd m108 f108_15 rfl rfl rfl rfl (gf_get k5_166 hr hv)
theorem f108_18 : gm_ft 108 18 = some (.iload_n 2, 1) := by decide +kernel
theorem r108_18 {E : Nat → Value} {d : Nat} {st : List Value} {h : gm_H} {r : gm_R × gm_H} {a0 a1 : Value} {x : Int32} : gm_Go E d 108 18 [a0, a1, .int x] st h r ↔ gm_Go E d 108 19 [a0, a1, .int x] (.int x :: st) h r := gr_loc m108 f108_18 rfl rfl
theorem f108_19 : gm_ft 108 19 = some (.iastore, 1) := by decide +kernel
theorem r108_19 {E : Nat → Value} {d : Nat} {st : List Value} {h : gm_H} {r : gm_R × gm_H} {lv : List Value} {a k j : Nat} {vs : List Value} {x : Int32} (hr : gm_rd h a = some (k, vs)) (hk : 100 ≤ k ∧ k % 100 = 0 ∧ gm_ko k = 2 ∧ 2 < 3) (hj : j < 2 ^ 31) (hl : j < vs.length) : gm_Go E d 108 19 lv (.int x :: .int (nI j) :: .ref a :: st) h r ↔ gm_Go E d 108 20 lv st (gm_wr h a (k, vs.set j (.int x))) r := gr_wr m108 f108_19 rfl rfl rfl rfl rfl (ga_st hr hk hj hl)
theorem f108_20 : gm_ft 108 20 = some (.aload_n 0, 1) := by decide +kernel
theorem r108_20 {E : Nat → Value} {d : Nat} {st : List Value} {h : gm_H} {r : gm_R × gm_H} {a1 a2 : Value} {x : Nat} : gm_Go E d 108 20 [.ref x, a1, a2] st h r ↔ gm_Go E d 108 21 [.ref x, a1, a2] (.ref x :: st) h r := gr_loc m108 f108_20 rfl rfl
theorem r108_20n {E : Nat → Value} {d : Nat} {st : List Value} {h : gm_H} {r : gm_R × gm_H} {a1 a2 : Value}  : gm_Go E d 108 20 [.null, a1, a2] st h r ↔ gm_Go E d 108 21 [.null, a1, a2] (.null :: st) h r := gr_loc m108 f108_20 rfl rfl
theorem f108_21 : gm_ft 108 21 = some (.dup, 1) := by decide +kernel
theorem r108_21 {E : Nat → Value} {d : Nat} {st : List Value} {h : gm_H} {r : gm_R × gm_H} {lv : List Value} {a : Nat} : gm_Go E d 108 21 lv (.ref a :: st) h r ↔ gm_Go E d 108 22 lv (.ref a :: .ref a :: st) h r := gr_pure m108 f108_21 rfl
theorem r108_21i {E : Nat → Value} {d : Nat} {st : List Value} {h : gm_H} {r : gm_R × gm_H} {lv : List Value} {x : Int32} : gm_Go E d 108 21 lv (.int x :: st) h r ↔ gm_Go E d 108 22 lv (.int x :: .int x :: st) h r := gr_pure m108 f108_21 rfl
theorem f108_22 : gm_ft 108 22 = some (.getfield 166, 3) := by decide +kernel
theorem r108_22 {E : Nat → Value} {d : Nat} {st : List Value} {h : gm_H} {r : gm_R × gm_H} {lv : List Value} {a : Nat} {vs : List Value} {v : Value} (hr : gm_rd h a = some (5, vs)) (hv : vs[28]? = some v) : gm_Go E d 108 22 lv (.ref a :: st) h r ↔ gm_Go E d 108 25 lv (v :: st) h r := gr_rd m108 f108_22 rfl rfl rfl rfl (gf_get k5_166 hr hv)
theorem f108_25 : gm_ft 108 25 = some (.iconst 1, 1) := by decide +kernel
theorem r108_25 {E : Nat → Value} {d : Nat} {st : List Value} {h : gm_H} {r : gm_R × gm_H} {lv : List Value} : gm_Go E d 108 25 lv st h r ↔ gm_Go E d 108 26 lv (.int (1 : Int32) :: st) h r := gr_pure m108 f108_25 rfl
theorem f108_26 : gm_ft 108 26 = some (.iadd, 1) := by decide +kernel
theorem r108_26 {E : Nat → Value} {d : Nat} {st : List Value} {h : gm_H} {r : gm_R × gm_H} {lv : List Value} {x y : Int32} : gm_Go E d 108 26 lv (.int y :: .int x :: st) h r ↔ gm_Go E d 108 27 lv (.int (x + y) :: st) h r := gr_pure m108 f108_26 rfl
theorem f108_27 : gm_ft 108 27 = some (.putfield 166, 3) := by decide +kernel
theorem r108_27 {E : Nat → Value} {d : Nat} {st : List Value} {h : gm_H} {r : gm_R × gm_H} {lv : List Value} {a : Nat} {vs : List Value} {v : Value} (hr : gm_rd h a = some (5, vs)) (hk : 28 < vs.length) (hn : narrow (gm_ty 5 28) v = v ∧ fits (gm_ty 5 28) v = true) : gm_Go E d 108 27 lv (v :: .ref a :: st) h r ↔ gm_Go E d 108 30 lv st (gm_wr h a (5, vs.set 28 v)) r := gr_wr m108 f108_27 rfl rfl rfl rfl rfl (gf_put k5_166 hr (by decide) hk hn (by decide))
theorem f108_30 : gm_ft 108 30 = some (.aload_n 0, 1) := by decide +kernel
theorem r108_30 {E : Nat → Value} {d : Nat} {st : List Value} {h : gm_H} {r : gm_R × gm_H} {a1 a2 : Value} {x : Nat} : gm_Go E d 108 30 [.ref x, a1, a2] st h r ↔ gm_Go E d 108 31 [.ref x, a1, a2] (.ref x :: st) h r := gr_loc m108 f108_30 rfl rfl
theorem r108_30n {E : Nat → Value} {d : Nat} {st : List Value} {h : gm_H} {r : gm_R × gm_H} {a1 a2 : Value}  : gm_Go E d 108 30 [.null, a1, a2] st h r ↔ gm_Go E d 108 31 [.null, a1, a2] (.null :: st) h r := gr_loc m108 f108_30 rfl rfl
theorem f108_31 : gm_ft 108 31 = some (.getfield 166, 3) := by decide +kernel
theorem r108_31 {E : Nat → Value} {d : Nat} {st : List Value} {h : gm_H} {r : gm_R × gm_H} {lv : List Value} {a : Nat} {vs : List Value} {v : Value} (hr : gm_rd h a = some (5, vs)) (hv : vs[28]? = some v) : gm_Go E d 108 31 lv (.ref a :: st) h r ↔ gm_Go E d 108 34 lv (v :: st) h r := gr_rd m108 f108_31 rfl rfl rfl rfl (gf_get k5_166 hr hv)
theorem f108_34 : gm_ft 108 34 = some (.iconst 1, 1) := by decide +kernel
theorem r108_34 {E : Nat → Value} {d : Nat} {st : List Value} {h : gm_H} {r : gm_R × gm_H} {lv : List Value} : gm_Go E d 108 34 lv st h r ↔ gm_Go E d 108 35 lv (.int (1 : Int32) :: st) h r := gr_pure m108 f108_34 rfl
theorem f108_35 : gm_ft 108 35 = some (.isub, 1) := by decide +kernel
theorem r108_35 {E : Nat → Value} {d : Nat} {st : List Value} {h : gm_H} {r : gm_R × gm_H} {lv : List Value} {x y : Int32} : gm_Go E d 108 35 lv (.int y :: .int x :: st) h r ↔ gm_Go E d 108 36 lv (.int (x - y) :: st) h r := gr_pure m108 f108_35 rfl
theorem f108_36 : gm_ft 108 36 = some (.ireturn, 1) := by decide +kernel
theorem r108_36 {E : Nat → Value} {d : Nat} {h : gm_H} {r : gm_R × gm_H} {lv : List Value} {x : Int32} : gm_Go E d 108 36 lv [.int x] h r ↔ r = (.inl (some (.int x)), h) := gr_ret m108 f108_36 rfl rfl rfl rfl rfl rfl rfl rfl (by unfold gm_rt; dsimp only; rw [if_pos ⟨rfl, rfl⟩])
/-! GraphReaderModel.utf()I -/
theorem m109 : gm_mt[109]? = some (⟨"GraphReaderModel", "utf", "()I"⟩, prog_7_method_12_code, 4, (some .int), [], 5, 2) := rfl
theorem f109_0 : gm_ft 109 0 = some (.aload_n 0, 1) := by decide +kernel
theorem r109_0 {E : Nat → Value} {d : Nat} {st : List Value} {h : gm_H} {r : gm_R × gm_H} {a1 a2 a3 : Value} {x : Nat} : gm_Go E d 109 0 [.ref x, a1, a2, a3] st h r ↔ gm_Go E d 109 1 [.ref x, a1, a2, a3] (.ref x :: st) h r := gr_loc m109 f109_0 rfl rfl
theorem r109_0n {E : Nat → Value} {d : Nat} {st : List Value} {h : gm_H} {r : gm_R × gm_H} {a1 a2 a3 : Value}  : gm_Go E d 109 0 [.null, a1, a2, a3] st h r ↔ gm_Go E d 109 1 [.null, a1, a2, a3] (.null :: st) h r := gr_loc m109 f109_0 rfl rfl
theorem f109_1 : gm_ft 109 1 = some (.iconst 2, 1) := by decide +kernel
theorem r109_1 {E : Nat → Value} {d : Nat} {st : List Value} {h : gm_H} {r : gm_R × gm_H} {lv : List Value} : gm_Go E d 109 1 lv st h r ↔ gm_Go E d 109 2 lv (.int (2 : Int32) :: st) h r := gr_pure m109 f109_1 rfl
theorem f109_2 : gm_ft 109 2 = some (.invokevirtual 159, 3) := by decide +kernel
theorem n109_2 {st : List Value} {h : gm_H} {E : Nat → Value} {lv : List Value} {b0 : Value} {a : Nat} (hs : (st.map fun v => v.category).sum ≤ 8) (he : (gm_en1 [.ref a, b0]).length ≤ 5) {vs : List Value} (hr : gm_rd h a = some (5, vs)) : gm_next E 109 2 lv (b0 :: .ref a :: st) h = some (.inr (.inl (0, 107, [.ref a, b0], st))) := gn_call m109 f109_2 rfl rfl rfl rfl rfl rfl rfl (gc_virt (bs := [b0]) (w := 880) rfl rfl rfl rfl hs he hr) (by decide)
theorem f109_5 : gm_ft 109 5 = some (.l2i, 1) := by decide +kernel
theorem r109_5 {E : Nat → Value} {d : Nat} {st : List Value} {h : gm_H} {r : gm_R × gm_H} {lv : List Value} {x : Int64} : gm_Go E d 109 5 lv (.long x :: st) h r ↔ gm_Go E d 109 6 lv (.int (x.toInt32) :: st) h r := gr_pure m109 f109_5 rfl
theorem f109_6 : gm_ft 109 6 = some (.istore_n 1, 1) := by decide +kernel
theorem r109_6 {E : Nat → Value} {d : Nat} {st : List Value} {h : gm_H} {r : gm_R × gm_H} {a0 a1 a2 a3 : Value} {x : Int32} : gm_Go E d 109 6 [a0, a1, a2, a3] (.int x :: st) h r ↔ gm_Go E d 109 7 [gm_k a0, .int x, a2, a3] st h r := gr_loc m109 f109_6 rfl rfl
theorem f109_7 : gm_ft 109 7 = some (.iconst 0, 1) := by decide +kernel
theorem r109_7 {E : Nat → Value} {d : Nat} {st : List Value} {h : gm_H} {r : gm_R × gm_H} {lv : List Value} : gm_Go E d 109 7 lv st h r ↔ gm_Go E d 109 8 lv (.int (0 : Int32) :: st) h r := gr_pure m109 f109_7 rfl
theorem f109_8 : gm_ft 109 8 = some (.istore_n 2, 1) := by decide +kernel
theorem r109_8 {E : Nat → Value} {d : Nat} {st : List Value} {h : gm_H} {r : gm_R × gm_H} {a0 a1 a2 a3 : Value} {x : Int32} : gm_Go E d 109 8 [a0, a1, a2, a3] (.int x :: st) h r ↔ gm_Go E d 109 9 [a0, gm_k a1, .int x, a3] st h r := gr_loc m109 f109_8 rfl rfl
theorem f109_9 : gm_ft 109 9 = some (.iload_n 2, 1) := by decide +kernel
theorem r109_9 {E : Nat → Value} {d : Nat} {st : List Value} {h : gm_H} {r : gm_R × gm_H} {a0 a1 a3 : Value} {x : Int32} : gm_Go E d 109 9 [a0, a1, .int x, a3] st h r ↔ gm_Go E d 109 10 [a0, a1, .int x, a3] (.int x :: st) h r := gr_loc m109 f109_9 rfl rfl
theorem f109_10 : gm_ft 109 10 = some (.iload_n 1, 1) := by decide +kernel
theorem r109_10 {E : Nat → Value} {d : Nat} {st : List Value} {h : gm_H} {r : gm_R × gm_H} {a0 a2 a3 : Value} {x : Int32} : gm_Go E d 109 10 [a0, .int x, a2, a3] st h r ↔ gm_Go E d 109 11 [a0, .int x, a2, a3] (.int x :: st) h r := gr_loc m109 f109_10 rfl rfl
theorem f109_11 : gm_ft 109 11 = some (.if_icmp .ge 44, 3) := by decide +kernel
theorem r109_11 {E : Nat → Value} {d : Nat} {st : List Value} {h : gm_H} {r : gm_R × gm_H} {lv : List Value} {x y : Int32} : gm_Go E d 109 11 lv (.int y :: .int x :: st) h r ↔ (if y ≤ x then gm_Go E d 109 55 lv st h r else gm_Go E d 109 14 lv st h r) := (gr_br m109 f109_11 rfl rfl rfl rfl).trans gr_if
theorem f109_14 : gm_ft 109 14 = some (.aload_n 0, 1) := by decide +kernel
theorem r109_14 {E : Nat → Value} {d : Nat} {st : List Value} {h : gm_H} {r : gm_R × gm_H} {a1 a2 a3 : Value} {x : Nat} : gm_Go E d 109 14 [.ref x, a1, a2, a3] st h r ↔ gm_Go E d 109 15 [.ref x, a1, a2, a3] (.ref x :: st) h r := gr_loc m109 f109_14 rfl rfl
theorem r109_14n {E : Nat → Value} {d : Nat} {st : List Value} {h : gm_H} {r : gm_R × gm_H} {a1 a2 a3 : Value}  : gm_Go E d 109 14 [.null, a1, a2, a3] st h r ↔ gm_Go E d 109 15 [.null, a1, a2, a3] (.null :: st) h r := gr_loc m109 f109_14 rfl rfl
theorem f109_15 : gm_ft 109 15 = some (.getfield 145, 3) := by decide +kernel
theorem r109_15 {E : Nat → Value} {d : Nat} {st : List Value} {h : gm_H} {r : gm_R × gm_H} {lv : List Value} {a : Nat} {vs : List Value} {v : Value} (hr : gm_rd h a = some (5, vs)) (hv : vs[8]? = some v) : gm_Go E d 109 15 lv (.ref a :: st) h r ↔ gm_Go E d 109 18 lv (v :: st) h r := gr_rd m109 f109_15 rfl rfl rfl rfl (gf_get k5_145 hr hv)
theorem f109_18 : gm_ft 109 18 = some (.ifCond .ne 37, 3) := by decide +kernel
theorem r109_18 {E : Nat → Value} {d : Nat} {st : List Value} {h : gm_H} {r : gm_R × gm_H} {lv : List Value} {x : Int32} : gm_Go E d 109 18 lv (.int x :: st) h r ↔ (if x = 0 then gm_Go E d 109 21 lv st h r else gm_Go E d 109 55 lv st h r) := (gr_br m109 f109_18 rfl rfl rfl rfl).trans gr_ifn
theorem f109_21 : gm_ft 109 21 = some (.aload_n 0, 1) := by decide +kernel
theorem r109_21 {E : Nat → Value} {d : Nat} {st : List Value} {h : gm_H} {r : gm_R × gm_H} {a1 a2 a3 : Value} {x : Nat} : gm_Go E d 109 21 [.ref x, a1, a2, a3] st h r ↔ gm_Go E d 109 22 [.ref x, a1, a2, a3] (.ref x :: st) h r := gr_loc m109 f109_21 rfl rfl
theorem r109_21n {E : Nat → Value} {d : Nat} {st : List Value} {h : gm_H} {r : gm_R × gm_H} {a1 a2 a3 : Value}  : gm_Go E d 109 21 [.null, a1, a2, a3] st h r ↔ gm_Go E d 109 22 [.null, a1, a2, a3] (.null :: st) h r := gr_loc m109 f109_21 rfl rfl
theorem f109_22 : gm_ft 109 22 = some (.invokevirtual 155, 3) := by decide +kernel
theorem n109_22 {st : List Value} {h : gm_H} {E : Nat → Value} {lv : List Value} {a : Nat} (hs : (st.map fun v => v.category).sum ≤ 8) (he : (gm_en1 [.ref a]).length ≤ 1) {vs : List Value} (hr : gm_rd h a = some (5, vs)) : gm_next E 109 22 lv (.ref a :: st) h = some (.inr (.inl (0, 99, [.ref a], st))) := gn_call m109 f109_22 rfl rfl rfl rfl rfl rfl rfl (gc_virt (bs := []) (w := 848) rfl rfl rfl rfl hs he hr) (by decide)
theorem f109_25 : gm_ft 109 25 = some (.istore_n 3, 1) := by decide +kernel
theorem r109_25 {E : Nat → Value} {d : Nat} {st : List Value} {h : gm_H} {r : gm_R × gm_H} {a0 a1 a2 a3 : Value} {x : Int32} : gm_Go E d 109 25 [a0, a1, a2, a3] (.int x :: st) h r ↔ gm_Go E d 109 26 [a0, a1, gm_k a2, .int x] st h r := gr_loc m109 f109_25 rfl rfl
theorem f109_26 : gm_ft 109 26 = some (.aload_n 0, 1) := by decide +kernel
theorem r109_26 {E : Nat → Value} {d : Nat} {st : List Value} {h : gm_H} {r : gm_R × gm_H} {a1 a2 a3 : Value} {x : Nat} : gm_Go E d 109 26 [.ref x, a1, a2, a3] st h r ↔ gm_Go E d 109 27 [.ref x, a1, a2, a3] (.ref x :: st) h r := gr_loc m109 f109_26 rfl rfl
theorem r109_26n {E : Nat → Value} {d : Nat} {st : List Value} {h : gm_H} {r : gm_R × gm_H} {a1 a2 a3 : Value}  : gm_Go E d 109 26 [.null, a1, a2, a3] st h r ↔ gm_Go E d 109 27 [.null, a1, a2, a3] (.null :: st) h r := gr_loc m109 f109_26 rfl rfl
theorem f109_27 : gm_ft 109 27 = some (.getfield 145, 3) := by decide +kernel
theorem r109_27 {E : Nat → Value} {d : Nat} {st : List Value} {h : gm_H} {r : gm_R × gm_H} {lv : List Value} {a : Nat} {vs : List Value} {v : Value} (hr : gm_rd h a = some (5, vs)) (hv : vs[8]? = some v) : gm_Go E d 109 27 lv (.ref a :: st) h r ↔ gm_Go E d 109 30 lv (v :: st) h r := gr_rd m109 f109_27 rfl rfl rfl rfl (gf_get k5_145 hr hv)
theorem f109_30 : gm_ft 109 30 = some (.ifCond .ne 19, 3) := by decide +kernel
theorem r109_30 {E : Nat → Value} {d : Nat} {st : List Value} {h : gm_H} {r : gm_R × gm_H} {lv : List Value} {x : Int32} : gm_Go E d 109 30 lv (.int x :: st) h r ↔ (if x = 0 then gm_Go E d 109 33 lv st h r else gm_Go E d 109 49 lv st h r) := (gr_br m109 f109_30 rfl rfl rfl rfl).trans gr_ifn
theorem f109_33 : gm_ft 109 33 = some (.iload_n 3, 1) := by decide +kernel
theorem r109_33 {E : Nat → Value} {d : Nat} {st : List Value} {h : gm_H} {r : gm_R × gm_H} {a0 a1 a2 : Value} {x : Int32} : gm_Go E d 109 33 [a0, a1, a2, .int x] st h r ↔ gm_Go E d 109 34 [a0, a1, a2, .int x] (.int x :: st) h r := gr_loc m109 f109_33 rfl rfl
theorem f109_34 : gm_ft 109 34 = some (.ifCond .eq 9, 3) := by decide +kernel
theorem r109_34 {E : Nat → Value} {d : Nat} {st : List Value} {h : gm_H} {r : gm_R × gm_H} {lv : List Value} {x : Int32} : gm_Go E d 109 34 lv (.int x :: st) h r ↔ (if x = 0 then gm_Go E d 109 43 lv st h r else gm_Go E d 109 37 lv st h r) := (gr_br m109 f109_34 rfl rfl rfl rfl).trans gr_if
theorem f109_37 : gm_ft 109 37 = some (.iload_n 3, 1) := by decide +kernel
theorem r109_37 {E : Nat → Value} {d : Nat} {st : List Value} {h : gm_H} {r : gm_R × gm_H} {a0 a1 a2 : Value} {x : Int32} : gm_Go E d 109 37 [a0, a1, a2, .int x] st h r ↔ gm_Go E d 109 38 [a0, a1, a2, .int x] (.int x :: st) h r := gr_loc m109 f109_37 rfl rfl
theorem f109_38 : gm_ft 109 38 = some (.bipush 127, 2) := by decide +kernel
theorem r109_38 {E : Nat → Value} {d : Nat} {st : List Value} {h : gm_H} {r : gm_R × gm_H} {lv : List Value} : gm_Go E d 109 38 lv st h r ↔ gm_Go E d 109 40 lv (.int (127 : Int32) :: st) h r := gr_pure m109 f109_38 rfl
theorem f109_40 : gm_ft 109 40 = some (.if_icmp .le 9, 3) := by decide +kernel
theorem r109_40 {E : Nat → Value} {d : Nat} {st : List Value} {h : gm_H} {r : gm_R × gm_H} {lv : List Value} {x y : Int32} : gm_Go E d 109 40 lv (.int y :: .int x :: st) h r ↔ (if x ≤ y then gm_Go E d 109 49 lv st h r else gm_Go E d 109 43 lv st h r) := (gr_br m109 f109_40 rfl rfl rfl rfl).trans gr_if
theorem f109_43 : gm_ft 109 43 = some (.aload_n 0, 1) := by decide +kernel
theorem r109_43 {E : Nat → Value} {d : Nat} {st : List Value} {h : gm_H} {r : gm_R × gm_H} {a1 a2 a3 : Value} {x : Nat} : gm_Go E d 109 43 [.ref x, a1, a2, a3] st h r ↔ gm_Go E d 109 44 [.ref x, a1, a2, a3] (.ref x :: st) h r := gr_loc m109 f109_43 rfl rfl
theorem r109_43n {E : Nat → Value} {d : Nat} {st : List Value} {h : gm_H} {r : gm_R × gm_H} {a1 a2 a3 : Value}  : gm_Go E d 109 43 [.null, a1, a2, a3] st h r ↔ gm_Go E d 109 44 [.null, a1, a2, a3] (.null :: st) h r := gr_loc m109 f109_43 rfl rfl
theorem f109_44 : gm_ft 109 44 = some (.bipush (-4), 2) := by decide +kernel
theorem r109_44 {E : Nat → Value} {d : Nat} {st : List Value} {h : gm_H} {r : gm_R × gm_H} {lv : List Value} : gm_Go E d 109 44 lv st h r ↔ gm_Go E d 109 46 lv (.int (-4 : Int32) :: st) h r := gr_pure m109 f109_44 rfl
theorem f109_46 : gm_ft 109 46 = some (.invokevirtual 151, 3) := by decide +kernel
theorem n109_46 {st : List Value} {h : gm_H} {E : Nat → Value} {lv : List Value} {b0 : Value} {a : Nat} (hs : (st.map fun v => v.category).sum ≤ 8) (he : (gm_en1 [.ref a, b0]).length ≤ 2) {vs : List Value} (hr : gm_rd h a = some (5, vs)) : gm_next E 109 46 lv (b0 :: .ref a :: st) h = some (.inr (.inl (0, 98, [.ref a, b0], st))) := gn_call m109 f109_46 rfl rfl rfl rfl rfl rfl rfl (gc_virt (bs := [b0]) (w := 844) rfl rfl rfl rfl hs he hr) (by decide)
theorem f109_49 : gm_ft 109 49 = some (.iinc 2 1, 3) := by decide +kernel
theorem r109_49 {E : Nat → Value} {d : Nat} {st : List Value} {h : gm_H} {r : gm_R × gm_H} {a0 a1 a3 : Value} {x : Int32} : gm_Go E d 109 49 [a0, a1, .int x, a3] st h r ↔ gm_Go E d 109 52 [a0, gm_k a1, .int (x + (1 : Int32)), a3] st h r := gr_loc m109 f109_49 rfl rfl
theorem f109_52 : gm_ft 109 52 = some (.goto (-43), 3) := by decide +kernel
theorem r109_52 {E : Nat → Value} {d : Nat} {st : List Value} {h : gm_H} {r : gm_R × gm_H} {lv : List Value} : gm_Go E d 109 52 lv st h r ↔ gm_Go E d 109 9 lv st h r := gr_brT m109 f109_52 rfl rfl rfl rfl
theorem f109_55 : gm_ft 109 55 = some (.iload_n 1, 1) := by decide +kernel
theorem r109_55 {E : Nat → Value} {d : Nat} {st : List Value} {h : gm_H} {r : gm_R × gm_H} {a0 a2 a3 : Value} {x : Int32} : gm_Go E d 109 55 [a0, .int x, a2, a3] st h r ↔ gm_Go E d 109 56 [a0, .int x, a2, a3] (.int x :: st) h r := gr_loc m109 f109_55 rfl rfl
theorem f109_56 : gm_ft 109 56 = some (.ireturn, 1) := by decide +kernel
theorem r109_56 {E : Nat → Value} {d : Nat} {h : gm_H} {r : gm_R × gm_H} {lv : List Value} {x : Int32} : gm_Go E d 109 56 lv [.int x] h r ↔ r = (.inl (some (.int x)), h) := gr_ret m109 f109_56 rfl rfl rfl rfl rfl rfl rfl rfl (by unfold gm_rt; dsimp only; rw [if_pos ⟨rfl, rfl⟩])
/-! GraphReaderModel.make(IIII)I -/
theorem m110 : gm_mt[110]? = some (⟨"GraphReaderModel", "make", "(IIII)I"⟩, prog_7_method_17_code, 5, (some .int), [], 5, 2) := rfl
theorem f110_0 : gm_ft 110 0 = some (.aload_n 0, 1) := by decide +kernel
theorem r110_0 {E : Nat → Value} {d : Nat} {st : List Value} {h : gm_H} {r : gm_R × gm_H} {a1 a2 a3 a4 : Value} {x : Nat} : gm_Go E d 110 0 [.ref x, a1, a2, a3, a4] st h r ↔ gm_Go E d 110 1 [.ref x, a1, a2, a3, a4] (.ref x :: st) h r := gr_loc m110 f110_0 rfl rfl
theorem r110_0n {E : Nat → Value} {d : Nat} {st : List Value} {h : gm_H} {r : gm_R × gm_H} {a1 a2 a3 a4 : Value}  : gm_Go E d 110 0 [.null, a1, a2, a3, a4] st h r ↔ gm_Go E d 110 1 [.null, a1, a2, a3, a4] (.null :: st) h r := gr_loc m110 f110_0 rfl rfl
theorem f110_1 : gm_ft 110 1 = some (.getfield 39, 3) := by decide +kernel
theorem r110_1 {E : Nat → Value} {d : Nat} {st : List Value} {h : gm_H} {r : gm_R × gm_H} {lv : List Value} {a : Nat} {vs : List Value} {v : Value} (hr : gm_rd h a = some (5, vs)) (hv : vs[18]? = some v) : gm_Go E d 110 1 lv (.ref a :: st) h r ↔ gm_Go E d 110 4 lv (v :: st) h r := gr_rd m110 f110_1 rfl rfl rfl rfl (gf_get k5_39 hr hv)
theorem f110_4 : gm_ft 110 4 = some (.aload_n 0, 1) := by decide +kernel
theorem r110_4 {E : Nat → Value} {d : Nat} {st : List Value} {h : gm_H} {r : gm_R × gm_H} {a1 a2 a3 a4 : Value} {x : Nat} : gm_Go E d 110 4 [.ref x, a1, a2, a3, a4] st h r ↔ gm_Go E d 110 5 [.ref x, a1, a2, a3, a4] (.ref x :: st) h r := gr_loc m110 f110_4 rfl rfl
theorem r110_4n {E : Nat → Value} {d : Nat} {st : List Value} {h : gm_H} {r : gm_R × gm_H} {a1 a2 a3 a4 : Value}  : gm_Go E d 110 4 [.null, a1, a2, a3, a4] st h r ↔ gm_Go E d 110 5 [.null, a1, a2, a3, a4] (.null :: st) h r := gr_loc m110 f110_4 rfl rfl
theorem f110_5 : gm_ft 110 5 = some (.getfield 139, 3) := by decide +kernel
theorem r110_5 {E : Nat → Value} {d : Nat} {st : List Value} {h : gm_H} {r : gm_R × gm_H} {lv : List Value} {a : Nat} {vs : List Value} {v : Value} (hr : gm_rd h a = some (5, vs)) (hv : vs[23]? = some v) : gm_Go E d 110 5 lv (.ref a :: st) h r ↔ gm_Go E d 110 8 lv (v :: st) h r := gr_rd m110 f110_5 rfl rfl rfl rfl (gf_get k5_139 hr hv)
theorem f110_8 : gm_ft 110 8 = some (.iload_n 1, 1) := by decide +kernel
theorem r110_8 {E : Nat → Value} {d : Nat} {st : List Value} {h : gm_H} {r : gm_R × gm_H} {a0 a2 a3 a4 : Value} {x : Int32} : gm_Go E d 110 8 [a0, .int x, a2, a3, a4] st h r ↔ gm_Go E d 110 9 [a0, .int x, a2, a3, a4] (.int x :: st) h r := gr_loc m110 f110_8 rfl rfl
theorem f110_9 : gm_ft 110 9 = some (.iastore, 1) := by decide +kernel
theorem r110_9 {E : Nat → Value} {d : Nat} {st : List Value} {h : gm_H} {r : gm_R × gm_H} {lv : List Value} {a k j : Nat} {vs : List Value} {x : Int32} (hr : gm_rd h a = some (k, vs)) (hk : 100 ≤ k ∧ k % 100 = 0 ∧ gm_ko k = 2 ∧ 2 < 3) (hj : j < 2 ^ 31) (hl : j < vs.length) : gm_Go E d 110 9 lv (.int x :: .int (nI j) :: .ref a :: st) h r ↔ gm_Go E d 110 10 lv st (gm_wr h a (k, vs.set j (.int x))) r := gr_wr m110 f110_9 rfl rfl rfl rfl rfl (ga_st hr hk hj hl)
theorem f110_10 : gm_ft 110 10 = some (.aload_n 0, 1) := by decide +kernel
theorem r110_10 {E : Nat → Value} {d : Nat} {st : List Value} {h : gm_H} {r : gm_R × gm_H} {a1 a2 a3 a4 : Value} {x : Nat} : gm_Go E d 110 10 [.ref x, a1, a2, a3, a4] st h r ↔ gm_Go E d 110 11 [.ref x, a1, a2, a3, a4] (.ref x :: st) h r := gr_loc m110 f110_10 rfl rfl
theorem r110_10n {E : Nat → Value} {d : Nat} {st : List Value} {h : gm_H} {r : gm_R × gm_H} {a1 a2 a3 a4 : Value}  : gm_Go E d 110 10 [.null, a1, a2, a3, a4] st h r ↔ gm_Go E d 110 11 [.null, a1, a2, a3, a4] (.null :: st) h r := gr_loc m110 f110_10 rfl rfl
theorem f110_11 : gm_ft 110 11 = some (.getfield 42, 3) := by decide +kernel
theorem r110_11 {E : Nat → Value} {d : Nat} {st : List Value} {h : gm_H} {r : gm_R × gm_H} {lv : List Value} {a : Nat} {vs : List Value} {v : Value} (hr : gm_rd h a = some (5, vs)) (hv : vs[19]? = some v) : gm_Go E d 110 11 lv (.ref a :: st) h r ↔ gm_Go E d 110 14 lv (v :: st) h r := gr_rd m110 f110_11 rfl rfl rfl rfl (gf_get k5_42 hr hv)
theorem f110_14 : gm_ft 110 14 = some (.aload_n 0, 1) := by decide +kernel
theorem r110_14 {E : Nat → Value} {d : Nat} {st : List Value} {h : gm_H} {r : gm_R × gm_H} {a1 a2 a3 a4 : Value} {x : Nat} : gm_Go E d 110 14 [.ref x, a1, a2, a3, a4] st h r ↔ gm_Go E d 110 15 [.ref x, a1, a2, a3, a4] (.ref x :: st) h r := gr_loc m110 f110_14 rfl rfl
theorem r110_14n {E : Nat → Value} {d : Nat} {st : List Value} {h : gm_H} {r : gm_R × gm_H} {a1 a2 a3 a4 : Value}  : gm_Go E d 110 14 [.null, a1, a2, a3, a4] st h r ↔ gm_Go E d 110 15 [.null, a1, a2, a3, a4] (.null :: st) h r := gr_loc m110 f110_14 rfl rfl
theorem f110_15 : gm_ft 110 15 = some (.getfield 139, 3) := by decide +kernel
theorem r110_15 {E : Nat → Value} {d : Nat} {st : List Value} {h : gm_H} {r : gm_R × gm_H} {lv : List Value} {a : Nat} {vs : List Value} {v : Value} (hr : gm_rd h a = some (5, vs)) (hv : vs[23]? = some v) : gm_Go E d 110 15 lv (.ref a :: st) h r ↔ gm_Go E d 110 18 lv (v :: st) h r := gr_rd m110 f110_15 rfl rfl rfl rfl (gf_get k5_139 hr hv)
theorem f110_18 : gm_ft 110 18 = some (.iload_n 2, 1) := by decide +kernel
theorem r110_18 {E : Nat → Value} {d : Nat} {st : List Value} {h : gm_H} {r : gm_R × gm_H} {a0 a1 a3 a4 : Value} {x : Int32} : gm_Go E d 110 18 [a0, a1, .int x, a3, a4] st h r ↔ gm_Go E d 110 19 [a0, a1, .int x, a3, a4] (.int x :: st) h r := gr_loc m110 f110_18 rfl rfl
theorem f110_19 : gm_ft 110 19 = some (.iastore, 1) := by decide +kernel
theorem r110_19 {E : Nat → Value} {d : Nat} {st : List Value} {h : gm_H} {r : gm_R × gm_H} {lv : List Value} {a k j : Nat} {vs : List Value} {x : Int32} (hr : gm_rd h a = some (k, vs)) (hk : 100 ≤ k ∧ k % 100 = 0 ∧ gm_ko k = 2 ∧ 2 < 3) (hj : j < 2 ^ 31) (hl : j < vs.length) : gm_Go E d 110 19 lv (.int x :: .int (nI j) :: .ref a :: st) h r ↔ gm_Go E d 110 20 lv st (gm_wr h a (k, vs.set j (.int x))) r := gr_wr m110 f110_19 rfl rfl rfl rfl rfl (ga_st hr hk hj hl)
theorem f110_20 : gm_ft 110 20 = some (.aload_n 0, 1) := by decide +kernel
theorem r110_20 {E : Nat → Value} {d : Nat} {st : List Value} {h : gm_H} {r : gm_R × gm_H} {a1 a2 a3 a4 : Value} {x : Nat} : gm_Go E d 110 20 [.ref x, a1, a2, a3, a4] st h r ↔ gm_Go E d 110 21 [.ref x, a1, a2, a3, a4] (.ref x :: st) h r := gr_loc m110 f110_20 rfl rfl
theorem r110_20n {E : Nat → Value} {d : Nat} {st : List Value} {h : gm_H} {r : gm_R × gm_H} {a1 a2 a3 a4 : Value}  : gm_Go E d 110 20 [.null, a1, a2, a3, a4] st h r ↔ gm_Go E d 110 21 [.null, a1, a2, a3, a4] (.null :: st) h r := gr_loc m110 f110_20 rfl rfl
theorem f110_21 : gm_ft 110 21 = some (.getfield 45, 3) := by decide +kernel
theorem r110_21 {E : Nat → Value} {d : Nat} {st : List Value} {h : gm_H} {r : gm_R × gm_H} {lv : List Value} {a : Nat} {vs : List Value} {v : Value} (hr : gm_rd h a = some (5, vs)) (hv : vs[20]? = some v) : gm_Go E d 110 21 lv (.ref a :: st) h r ↔ gm_Go E d 110 24 lv (v :: st) h r := gr_rd m110 f110_21 rfl rfl rfl rfl (gf_get k5_45 hr hv)
theorem f110_24 : gm_ft 110 24 = some (.aload_n 0, 1) := by decide +kernel
theorem r110_24 {E : Nat → Value} {d : Nat} {st : List Value} {h : gm_H} {r : gm_R × gm_H} {a1 a2 a3 a4 : Value} {x : Nat} : gm_Go E d 110 24 [.ref x, a1, a2, a3, a4] st h r ↔ gm_Go E d 110 25 [.ref x, a1, a2, a3, a4] (.ref x :: st) h r := gr_loc m110 f110_24 rfl rfl
theorem r110_24n {E : Nat → Value} {d : Nat} {st : List Value} {h : gm_H} {r : gm_R × gm_H} {a1 a2 a3 a4 : Value}  : gm_Go E d 110 24 [.null, a1, a2, a3, a4] st h r ↔ gm_Go E d 110 25 [.null, a1, a2, a3, a4] (.null :: st) h r := gr_loc m110 f110_24 rfl rfl
theorem f110_25 : gm_ft 110 25 = some (.getfield 139, 3) := by decide +kernel
theorem r110_25 {E : Nat → Value} {d : Nat} {st : List Value} {h : gm_H} {r : gm_R × gm_H} {lv : List Value} {a : Nat} {vs : List Value} {v : Value} (hr : gm_rd h a = some (5, vs)) (hv : vs[23]? = some v) : gm_Go E d 110 25 lv (.ref a :: st) h r ↔ gm_Go E d 110 28 lv (v :: st) h r := gr_rd m110 f110_25 rfl rfl rfl rfl (gf_get k5_139 hr hv)
theorem f110_28 : gm_ft 110 28 = some (.iload_n 3, 1) := by decide +kernel
theorem r110_28 {E : Nat → Value} {d : Nat} {st : List Value} {h : gm_H} {r : gm_R × gm_H} {a0 a1 a2 a4 : Value} {x : Int32} : gm_Go E d 110 28 [a0, a1, a2, .int x, a4] st h r ↔ gm_Go E d 110 29 [a0, a1, a2, .int x, a4] (.int x :: st) h r := gr_loc m110 f110_28 rfl rfl
theorem f110_29 : gm_ft 110 29 = some (.iastore, 1) := by decide +kernel
theorem r110_29 {E : Nat → Value} {d : Nat} {st : List Value} {h : gm_H} {r : gm_R × gm_H} {lv : List Value} {a k j : Nat} {vs : List Value} {x : Int32} (hr : gm_rd h a = some (k, vs)) (hk : 100 ≤ k ∧ k % 100 = 0 ∧ gm_ko k = 2 ∧ 2 < 3) (hj : j < 2 ^ 31) (hl : j < vs.length) : gm_Go E d 110 29 lv (.int x :: .int (nI j) :: .ref a :: st) h r ↔ gm_Go E d 110 30 lv st (gm_wr h a (k, vs.set j (.int x))) r := gr_wr m110 f110_29 rfl rfl rfl rfl rfl (ga_st hr hk hj hl)
theorem f110_30 : gm_ft 110 30 = some (.aload_n 0, 1) := by decide +kernel
theorem r110_30 {E : Nat → Value} {d : Nat} {st : List Value} {h : gm_H} {r : gm_R × gm_H} {a1 a2 a3 a4 : Value} {x : Nat} : gm_Go E d 110 30 [.ref x, a1, a2, a3, a4] st h r ↔ gm_Go E d 110 31 [.ref x, a1, a2, a3, a4] (.ref x :: st) h r := gr_loc m110 f110_30 rfl rfl
theorem r110_30n {E : Nat → Value} {d : Nat} {st : List Value} {h : gm_H} {r : gm_R × gm_H} {a1 a2 a3 a4 : Value}  : gm_Go E d 110 30 [.null, a1, a2, a3, a4] st h r ↔ gm_Go E d 110 31 [.null, a1, a2, a3, a4] (.null :: st) h r := gr_loc m110 f110_30 rfl rfl
theorem f110_31 : gm_ft 110 31 = some (.getfield 48, 3) := by decide +kernel
theorem r110_31 {E : Nat → Value} {d : Nat} {st : List Value} {h : gm_H} {r : gm_R × gm_H} {lv : List Value} {a : Nat} {vs : List Value} {v : Value} (hr : gm_rd h a = some (5, vs)) (hv : vs[21]? = some v) : gm_Go E d 110 31 lv (.ref a :: st) h r ↔ gm_Go E d 110 34 lv (v :: st) h r := gr_rd m110 f110_31 rfl rfl rfl rfl (gf_get k5_48 hr hv)
theorem f110_34 : gm_ft 110 34 = some (.aload_n 0, 1) := by decide +kernel
theorem r110_34 {E : Nat → Value} {d : Nat} {st : List Value} {h : gm_H} {r : gm_R × gm_H} {a1 a2 a3 a4 : Value} {x : Nat} : gm_Go E d 110 34 [.ref x, a1, a2, a3, a4] st h r ↔ gm_Go E d 110 35 [.ref x, a1, a2, a3, a4] (.ref x :: st) h r := gr_loc m110 f110_34 rfl rfl
theorem r110_34n {E : Nat → Value} {d : Nat} {st : List Value} {h : gm_H} {r : gm_R × gm_H} {a1 a2 a3 a4 : Value}  : gm_Go E d 110 34 [.null, a1, a2, a3, a4] st h r ↔ gm_Go E d 110 35 [.null, a1, a2, a3, a4] (.null :: st) h r := gr_loc m110 f110_34 rfl rfl
theorem f110_35 : gm_ft 110 35 = some (.getfield 139, 3) := by decide +kernel
theorem r110_35 {E : Nat → Value} {d : Nat} {st : List Value} {h : gm_H} {r : gm_R × gm_H} {lv : List Value} {a : Nat} {vs : List Value} {v : Value} (hr : gm_rd h a = some (5, vs)) (hv : vs[23]? = some v) : gm_Go E d 110 35 lv (.ref a :: st) h r ↔ gm_Go E d 110 38 lv (v :: st) h r := gr_rd m110 f110_35 rfl rfl rfl rfl (gf_get k5_139 hr hv)
theorem f110_38 : gm_ft 110 38 = some (.iload 4, 2) := by decide +kernel
theorem r110_38 {E : Nat → Value} {d : Nat} {st : List Value} {h : gm_H} {r : gm_R × gm_H} {a0 a1 a2 a3 : Value} {x : Int32} : gm_Go E d 110 38 [a0, a1, a2, a3, .int x] st h r ↔ gm_Go E d 110 40 [a0, a1, a2, a3, .int x] (.int x :: st) h r := gr_loc m110 f110_38 rfl rfl
theorem f110_40 : gm_ft 110 40 = some (.iastore, 1) := by decide +kernel
theorem r110_40 {E : Nat → Value} {d : Nat} {st : List Value} {h : gm_H} {r : gm_R × gm_H} {lv : List Value} {a k j : Nat} {vs : List Value} {x : Int32} (hr : gm_rd h a = some (k, vs)) (hk : 100 ≤ k ∧ k % 100 = 0 ∧ gm_ko k = 2 ∧ 2 < 3) (hj : j < 2 ^ 31) (hl : j < vs.length) : gm_Go E d 110 40 lv (.int x :: .int (nI j) :: .ref a :: st) h r ↔ gm_Go E d 110 41 lv st (gm_wr h a (k, vs.set j (.int x))) r := gr_wr m110 f110_40 rfl rfl rfl rfl rfl (ga_st hr hk hj hl)
theorem f110_41 : gm_ft 110 41 = some (.aload_n 0, 1) := by decide +kernel
theorem r110_41 {E : Nat → Value} {d : Nat} {st : List Value} {h : gm_H} {r : gm_R × gm_H} {a1 a2 a3 a4 : Value} {x : Nat} : gm_Go E d 110 41 [.ref x, a1, a2, a3, a4] st h r ↔ gm_Go E d 110 42 [.ref x, a1, a2, a3, a4] (.ref x :: st) h r := gr_loc m110 f110_41 rfl rfl
theorem r110_41n {E : Nat → Value} {d : Nat} {st : List Value} {h : gm_H} {r : gm_R × gm_H} {a1 a2 a3 a4 : Value}  : gm_Go E d 110 41 [.null, a1, a2, a3, a4] st h r ↔ gm_Go E d 110 42 [.null, a1, a2, a3, a4] (.null :: st) h r := gr_loc m110 f110_41 rfl rfl
theorem f110_42 : gm_ft 110 42 = some (.getfield 51, 3) := by decide +kernel
theorem r110_42 {E : Nat → Value} {d : Nat} {st : List Value} {h : gm_H} {r : gm_R × gm_H} {lv : List Value} {a : Nat} {vs : List Value} {v : Value} (hr : gm_rd h a = some (5, vs)) (hv : vs[22]? = some v) : gm_Go E d 110 42 lv (.ref a :: st) h r ↔ gm_Go E d 110 45 lv (v :: st) h r := gr_rd m110 f110_42 rfl rfl rfl rfl (gf_get k5_51 hr hv)
theorem f110_45 : gm_ft 110 45 = some (.aload_n 0, 1) := by decide +kernel
theorem r110_45 {E : Nat → Value} {d : Nat} {st : List Value} {h : gm_H} {r : gm_R × gm_H} {a1 a2 a3 a4 : Value} {x : Nat} : gm_Go E d 110 45 [.ref x, a1, a2, a3, a4] st h r ↔ gm_Go E d 110 46 [.ref x, a1, a2, a3, a4] (.ref x :: st) h r := gr_loc m110 f110_45 rfl rfl
theorem r110_45n {E : Nat → Value} {d : Nat} {st : List Value} {h : gm_H} {r : gm_R × gm_H} {a1 a2 a3 a4 : Value}  : gm_Go E d 110 45 [.null, a1, a2, a3, a4] st h r ↔ gm_Go E d 110 46 [.null, a1, a2, a3, a4] (.null :: st) h r := gr_loc m110 f110_45 rfl rfl
theorem f110_46 : gm_ft 110 46 = some (.getfield 139, 3) := by decide +kernel
theorem r110_46 {E : Nat → Value} {d : Nat} {st : List Value} {h : gm_H} {r : gm_R × gm_H} {lv : List Value} {a : Nat} {vs : List Value} {v : Value} (hr : gm_rd h a = some (5, vs)) (hv : vs[23]? = some v) : gm_Go E d 110 46 lv (.ref a :: st) h r ↔ gm_Go E d 110 49 lv (v :: st) h r := gr_rd m110 f110_46 rfl rfl rfl rfl (gf_get k5_139 hr hv)
theorem f110_49 : gm_ft 110 49 = some (.iconst 0, 1) := by decide +kernel
theorem r110_49 {E : Nat → Value} {d : Nat} {st : List Value} {h : gm_H} {r : gm_R × gm_H} {lv : List Value} : gm_Go E d 110 49 lv st h r ↔ gm_Go E d 110 50 lv (.int (0 : Int32) :: st) h r := gr_pure m110 f110_49 rfl
theorem f110_50 : gm_ft 110 50 = some (.iastore, 1) := by decide +kernel
theorem r110_50 {E : Nat → Value} {d : Nat} {st : List Value} {h : gm_H} {r : gm_R × gm_H} {lv : List Value} {a k j : Nat} {vs : List Value} {x : Int32} (hr : gm_rd h a = some (k, vs)) (hk : 100 ≤ k ∧ k % 100 = 0 ∧ gm_ko k = 2 ∧ 2 < 3) (hj : j < 2 ^ 31) (hl : j < vs.length) : gm_Go E d 110 50 lv (.int x :: .int (nI j) :: .ref a :: st) h r ↔ gm_Go E d 110 51 lv st (gm_wr h a (k, vs.set j (.int x))) r := gr_wr m110 f110_50 rfl rfl rfl rfl rfl (ga_st hr hk hj hl)
theorem f110_51 : gm_ft 110 51 = some (.aload_n 0, 1) := by decide +kernel
theorem r110_51 {E : Nat → Value} {d : Nat} {st : List Value} {h : gm_H} {r : gm_R × gm_H} {a1 a2 a3 a4 : Value} {x : Nat} : gm_Go E d 110 51 [.ref x, a1, a2, a3, a4] st h r ↔ gm_Go E d 110 52 [.ref x, a1, a2, a3, a4] (.ref x :: st) h r := gr_loc m110 f110_51 rfl rfl
theorem r110_51n {E : Nat → Value} {d : Nat} {st : List Value} {h : gm_H} {r : gm_R × gm_H} {a1 a2 a3 a4 : Value}  : gm_Go E d 110 51 [.null, a1, a2, a3, a4] st h r ↔ gm_Go E d 110 52 [.null, a1, a2, a3, a4] (.null :: st) h r := gr_loc m110 f110_51 rfl rfl
theorem f110_52 : gm_ft 110 52 = some (.dup, 1) := by decide +kernel
theorem r110_52 {E : Nat → Value} {d : Nat} {st : List Value} {h : gm_H} {r : gm_R × gm_H} {lv : List Value} {a : Nat} : gm_Go E d 110 52 lv (.ref a :: st) h r ↔ gm_Go E d 110 53 lv (.ref a :: .ref a :: st) h r := gr_pure m110 f110_52 rfl
theorem r110_52i {E : Nat → Value} {d : Nat} {st : List Value} {h : gm_H} {r : gm_R × gm_H} {lv : List Value} {x : Int32} : gm_Go E d 110 52 lv (.int x :: st) h r ↔ gm_Go E d 110 53 lv (.int x :: .int x :: st) h r := gr_pure m110 f110_52 rfl
theorem f110_53 : gm_ft 110 53 = some (.getfield 139, 3) := by decide +kernel
theorem r110_53 {E : Nat → Value} {d : Nat} {st : List Value} {h : gm_H} {r : gm_R × gm_H} {lv : List Value} {a : Nat} {vs : List Value} {v : Value} (hr : gm_rd h a = some (5, vs)) (hv : vs[23]? = some v) : gm_Go E d 110 53 lv (.ref a :: st) h r ↔ gm_Go E d 110 56 lv (v :: st) h r := gr_rd m110 f110_53 rfl rfl rfl rfl (gf_get k5_139 hr hv)
theorem f110_56 : gm_ft 110 56 = some (.iconst 1, 1) := by decide +kernel
theorem r110_56 {E : Nat → Value} {d : Nat} {st : List Value} {h : gm_H} {r : gm_R × gm_H} {lv : List Value} : gm_Go E d 110 56 lv st h r ↔ gm_Go E d 110 57 lv (.int (1 : Int32) :: st) h r := gr_pure m110 f110_56 rfl
theorem f110_57 : gm_ft 110 57 = some (.iadd, 1) := by decide +kernel
theorem r110_57 {E : Nat → Value} {d : Nat} {st : List Value} {h : gm_H} {r : gm_R × gm_H} {lv : List Value} {x y : Int32} : gm_Go E d 110 57 lv (.int y :: .int x :: st) h r ↔ gm_Go E d 110 58 lv (.int (x + y) :: st) h r := gr_pure m110 f110_57 rfl
theorem f110_58 : gm_ft 110 58 = some (.putfield 139, 3) := by decide +kernel
theorem r110_58 {E : Nat → Value} {d : Nat} {st : List Value} {h : gm_H} {r : gm_R × gm_H} {lv : List Value} {a : Nat} {vs : List Value} {v : Value} (hr : gm_rd h a = some (5, vs)) (hk : 23 < vs.length) (hn : narrow (gm_ty 5 23) v = v ∧ fits (gm_ty 5 23) v = true) : gm_Go E d 110 58 lv (v :: .ref a :: st) h r ↔ gm_Go E d 110 61 lv st (gm_wr h a (5, vs.set 23 v)) r := gr_wr m110 f110_58 rfl rfl rfl rfl rfl (gf_put k5_139 hr (by decide) hk hn (by decide))
theorem f110_61 : gm_ft 110 61 = some (.aload_n 0, 1) := by decide +kernel
theorem r110_61 {E : Nat → Value} {d : Nat} {st : List Value} {h : gm_H} {r : gm_R × gm_H} {a1 a2 a3 a4 : Value} {x : Nat} : gm_Go E d 110 61 [.ref x, a1, a2, a3, a4] st h r ↔ gm_Go E d 110 62 [.ref x, a1, a2, a3, a4] (.ref x :: st) h r := gr_loc m110 f110_61 rfl rfl
theorem r110_61n {E : Nat → Value} {d : Nat} {st : List Value} {h : gm_H} {r : gm_R × gm_H} {a1 a2 a3 a4 : Value}  : gm_Go E d 110 61 [.null, a1, a2, a3, a4] st h r ↔ gm_Go E d 110 62 [.null, a1, a2, a3, a4] (.null :: st) h r := gr_loc m110 f110_61 rfl rfl
theorem f110_62 : gm_ft 110 62 = some (.getfield 139, 3) := by decide +kernel
theorem r110_62 {E : Nat → Value} {d : Nat} {st : List Value} {h : gm_H} {r : gm_R × gm_H} {lv : List Value} {a : Nat} {vs : List Value} {v : Value} (hr : gm_rd h a = some (5, vs)) (hv : vs[23]? = some v) : gm_Go E d 110 62 lv (.ref a :: st) h r ↔ gm_Go E d 110 65 lv (v :: st) h r := gr_rd m110 f110_62 rfl rfl rfl rfl (gf_get k5_139 hr hv)
theorem f110_65 : gm_ft 110 65 = some (.iconst 1, 1) := by decide +kernel
theorem r110_65 {E : Nat → Value} {d : Nat} {st : List Value} {h : gm_H} {r : gm_R × gm_H} {lv : List Value} : gm_Go E d 110 65 lv st h r ↔ gm_Go E d 110 66 lv (.int (1 : Int32) :: st) h r := gr_pure m110 f110_65 rfl
theorem f110_66 : gm_ft 110 66 = some (.isub, 1) := by decide +kernel
theorem r110_66 {E : Nat → Value} {d : Nat} {st : List Value} {h : gm_H} {r : gm_R × gm_H} {lv : List Value} {x y : Int32} : gm_Go E d 110 66 lv (.int y :: .int x :: st) h r ↔ gm_Go E d 110 67 lv (.int (x - y) :: st) h r := gr_pure m110 f110_66 rfl
theorem f110_67 : gm_ft 110 67 = some (.ireturn, 1) := by decide +kernel
theorem r110_67 {E : Nat → Value} {d : Nat} {h : gm_H} {r : gm_R × gm_H} {lv : List Value} {x : Int32} : gm_Go E d 110 67 lv [.int x] h r ↔ r = (.inl (some (.int x)), h) := gr_ret m110 f110_67 rfl rfl rfl rfl rfl rfl rfl rfl (by unfold gm_rt; dsimp only; rw [if_pos ⟨rfl, rfl⟩])
/-! GraphReaderModel.newInstance(I)V -/
theorem m111 : gm_mt[111]? = some (⟨"GraphReaderModel", "newInstance", "(I)V"⟩, prog_7_method_23_code, 9, none, [], 5, 2) := rfl
theorem f111_0 : gm_ft 111 0 = some (.aload_n 0, 1) := by decide +kernel
theorem r111_0 {E : Nat → Value} {d : Nat} {st : List Value} {h : gm_H} {r : gm_R × gm_H} {a1 a2 a3 a4 a5 a6 a7 a8 : Value} {x : Nat} : gm_Go E d 111 0 [.ref x, a1, a2, a3, a4, a5, a6, a7, a8] st h r ↔ gm_Go E d 111 1 [.ref x, a1, a2, a3, a4, a5, a6, a7, a8] (.ref x :: st) h r := gr_loc m111 f111_0 rfl rfl
theorem r111_0n {E : Nat → Value} {d : Nat} {st : List Value} {h : gm_H} {r : gm_R × gm_H} {a1 a2 a3 a4 a5 a6 a7 a8 : Value}  : gm_Go E d 111 0 [.null, a1, a2, a3, a4, a5, a6, a7, a8] st h r ↔ gm_Go E d 111 1 [.null, a1, a2, a3, a4, a5, a6, a7, a8] (.null :: st) h r := gr_loc m111 f111_0 rfl rfl
theorem f111_1 : gm_ft 111 1 = some (.getfield 178, 3) := by decide +kernel
theorem r111_1 {E : Nat → Value} {d : Nat} {st : List Value} {h : gm_H} {r : gm_R × gm_H} {lv : List Value} {a : Nat} {vs : List Value} {v : Value} (hr : gm_rd h a = some (5, vs)) (hv : vs[9]? = some v) : gm_Go E d 111 1 lv (.ref a :: st) h r ↔ gm_Go E d 111 4 lv (v :: st) h r := gr_rd m111 f111_1 rfl rfl rfl rfl (gf_get k5_178 hr hv)
theorem f111_4 : gm_ft 111 4 = some (.istore_n 2, 1) := by decide +kernel
theorem r111_4 {E : Nat → Value} {d : Nat} {st : List Value} {h : gm_H} {r : gm_R × gm_H} {a0 a1 a2 a3 a4 a5 a6 a7 a8 : Value} {x : Int32} : gm_Go E d 111 4 [a0, a1, a2, a3, a4, a5, a6, a7, a8] (.int x :: st) h r ↔ gm_Go E d 111 5 [a0, gm_k a1, .int x, a3, a4, a5, a6, a7, a8] st h r := gr_loc m111 f111_4 rfl rfl
theorem f111_5 : gm_ft 111 5 = some (.iload_n 2, 1) := by decide +kernel
theorem r111_5 {E : Nat → Value} {d : Nat} {st : List Value} {h : gm_H} {r : gm_R × gm_H} {a0 a1 a3 a4 a5 a6 a7 a8 : Value} {x : Int32} : gm_Go E d 111 5 [a0, a1, .int x, a3, a4, a5, a6, a7, a8] st h r ↔ gm_Go E d 111 6 [a0, a1, .int x, a3, a4, a5, a6, a7, a8] (.int x :: st) h r := gr_loc m111 f111_5 rfl rfl
theorem f111_6 : gm_ft 111 6 = some (.bipush (-2), 2) := by decide +kernel
theorem r111_6 {E : Nat → Value} {d : Nat} {st : List Value} {h : gm_H} {r : gm_R × gm_H} {lv : List Value} : gm_Go E d 111 6 lv st h r ↔ gm_Go E d 111 8 lv (.int (-2 : Int32) :: st) h r := gr_pure m111 f111_6 rfl
theorem f111_8 : gm_ft 111 8 = some (.if_icmp .ne 9, 3) := by decide +kernel
theorem r111_8 {E : Nat → Value} {d : Nat} {st : List Value} {h : gm_H} {r : gm_R × gm_H} {lv : List Value} {x y : Int32} : gm_Go E d 111 8 lv (.int y :: .int x :: st) h r ↔ (if x = y then gm_Go E d 111 11 lv st h r else gm_Go E d 111 17 lv st h r) := (gr_br m111 f111_8 rfl rfl rfl rfl).trans gr_ifn
theorem f111_11 : gm_ft 111 11 = some (.aload_n 0, 1) := by decide +kernel
theorem r111_11 {E : Nat → Value} {d : Nat} {st : List Value} {h : gm_H} {r : gm_R × gm_H} {a1 a2 a3 a4 a5 a6 a7 a8 : Value} {x : Nat} : gm_Go E d 111 11 [.ref x, a1, a2, a3, a4, a5, a6, a7, a8] st h r ↔ gm_Go E d 111 12 [.ref x, a1, a2, a3, a4, a5, a6, a7, a8] (.ref x :: st) h r := gr_loc m111 f111_11 rfl rfl
theorem r111_11n {E : Nat → Value} {d : Nat} {st : List Value} {h : gm_H} {r : gm_R × gm_H} {a1 a2 a3 a4 a5 a6 a7 a8 : Value}  : gm_Go E d 111 11 [.null, a1, a2, a3, a4, a5, a6, a7, a8] st h r ↔ gm_Go E d 111 12 [.null, a1, a2, a3, a4, a5, a6, a7, a8] (.null :: st) h r := gr_loc m111 f111_11 rfl rfl
theorem f111_12 : gm_ft 111 12 = some (.bipush (-4), 2) := by decide +kernel
theorem r111_12 {E : Nat → Value} {d : Nat} {st : List Value} {h : gm_H} {r : gm_R × gm_H} {lv : List Value} : gm_Go E d 111 12 lv st h r ↔ gm_Go E d 111 14 lv (.int (-4 : Int32) :: st) h r := gr_pure m111 f111_12 rfl
theorem f111_14 : gm_ft 111 14 = some (.invokevirtual 151, 3) := by decide +kernel
theorem n111_14 {st : List Value} {h : gm_H} {E : Nat → Value} {lv : List Value} {b0 : Value} {a : Nat} (hs : (st.map fun v => v.category).sum ≤ 8) (he : (gm_en1 [.ref a, b0]).length ≤ 2) {vs : List Value} (hr : gm_rd h a = some (5, vs)) : gm_next E 111 14 lv (b0 :: .ref a :: st) h = some (.inr (.inl (0, 98, [.ref a, b0], st))) := gn_call m111 f111_14 rfl rfl rfl rfl rfl rfl rfl (gc_virt (bs := [b0]) (w := 844) rfl rfl rfl rfl hs he hr) (by decide)
theorem f111_17 : gm_ft 111 17 = some (.aload_n 0, 1) := by decide +kernel
theorem r111_17 {E : Nat → Value} {d : Nat} {st : List Value} {h : gm_H} {r : gm_R × gm_H} {a1 a2 a3 a4 a5 a6 a7 a8 : Value} {x : Nat} : gm_Go E d 111 17 [.ref x, a1, a2, a3, a4, a5, a6, a7, a8] st h r ↔ gm_Go E d 111 18 [.ref x, a1, a2, a3, a4, a5, a6, a7, a8] (.ref x :: st) h r := gr_loc m111 f111_17 rfl rfl
theorem r111_17n {E : Nat → Value} {d : Nat} {st : List Value} {h : gm_H} {r : gm_R × gm_H} {a1 a2 a3 a4 a5 a6 a7 a8 : Value}  : gm_Go E d 111 17 [.null, a1, a2, a3, a4, a5, a6, a7, a8] st h r ↔ gm_Go E d 111 18 [.null, a1, a2, a3, a4, a5, a6, a7, a8] (.null :: st) h r := gr_loc m111 f111_17 rfl rfl
theorem f111_18 : gm_ft 111 18 = some (.getfield 145, 3) := by decide +kernel
theorem r111_18 {E : Nat → Value} {d : Nat} {st : List Value} {h : gm_H} {r : gm_R × gm_H} {lv : List Value} {a : Nat} {vs : List Value} {v : Value} (hr : gm_rd h a = some (5, vs)) (hv : vs[8]? = some v) : gm_Go E d 111 18 lv (.ref a :: st) h r ↔ gm_Go E d 111 21 lv (v :: st) h r := gr_rd m111 f111_18 rfl rfl rfl rfl (gf_get k5_145 hr hv)
theorem f111_21 : gm_ft 111 21 = some (.ifCond .ne 18, 3) := by decide +kernel
theorem r111_21 {E : Nat → Value} {d : Nat} {st : List Value} {h : gm_H} {r : gm_R × gm_H} {lv : List Value} {x : Int32} : gm_Go E d 111 21 lv (.int x :: st) h r ↔ (if x = 0 then gm_Go E d 111 24 lv st h r else gm_Go E d 111 39 lv st h r) := (gr_br m111 f111_21 rfl rfl rfl rfl).trans gr_ifn
theorem f111_24 : gm_ft 111 24 = some (.aload_n 0, 1) := by decide +kernel
theorem r111_24 {E : Nat → Value} {d : Nat} {st : List Value} {h : gm_H} {r : gm_R × gm_H} {a1 a2 a3 a4 a5 a6 a7 a8 : Value} {x : Nat} : gm_Go E d 111 24 [.ref x, a1, a2, a3, a4, a5, a6, a7, a8] st h r ↔ gm_Go E d 111 25 [.ref x, a1, a2, a3, a4, a5, a6, a7, a8] (.ref x :: st) h r := gr_loc m111 f111_24 rfl rfl
theorem r111_24n {E : Nat → Value} {d : Nat} {st : List Value} {h : gm_H} {r : gm_R × gm_H} {a1 a2 a3 a4 a5 a6 a7 a8 : Value}  : gm_Go E d 111 24 [.null, a1, a2, a3, a4, a5, a6, a7, a8] st h r ↔ gm_Go E d 111 25 [.null, a1, a2, a3, a4, a5, a6, a7, a8] (.null :: st) h r := gr_loc m111 f111_24 rfl rfl
theorem f111_25 : gm_ft 111 25 = some (.aload_n 0, 1) := by decide +kernel
theorem r111_25 {E : Nat → Value} {d : Nat} {st : List Value} {h : gm_H} {r : gm_R × gm_H} {a1 a2 a3 a4 a5 a6 a7 a8 : Value} {x : Nat} : gm_Go E d 111 25 [.ref x, a1, a2, a3, a4, a5, a6, a7, a8] st h r ↔ gm_Go E d 111 26 [.ref x, a1, a2, a3, a4, a5, a6, a7, a8] (.ref x :: st) h r := gr_loc m111 f111_25 rfl rfl
theorem r111_25n {E : Nat → Value} {d : Nat} {st : List Value} {h : gm_H} {r : gm_R × gm_H} {a1 a2 a3 a4 a5 a6 a7 a8 : Value}  : gm_Go E d 111 25 [.null, a1, a2, a3, a4, a5, a6, a7, a8] st h r ↔ gm_Go E d 111 26 [.null, a1, a2, a3, a4, a5, a6, a7, a8] (.null :: st) h r := gr_loc m111 f111_25 rfl rfl
theorem f111_26 : gm_ft 111 26 = some (.getfield 99, 3) := by decide +kernel
theorem r111_26 {E : Nat → Value} {d : Nat} {st : List Value} {h : gm_H} {r : gm_R × gm_H} {lv : List Value} {a : Nat} {vs : List Value} {v : Value} (hr : gm_rd h a = some (5, vs)) (hv : vs[42]? = some v) : gm_Go E d 111 26 lv (.ref a :: st) h r ↔ gm_Go E d 111 29 lv (v :: st) h r := gr_rd m111 f111_26 rfl rfl rfl rfl (gf_get k5_99 hr hv)
theorem f111_29 : gm_ft 111 29 = some (.iload_n 1, 1) := by decide +kernel
theorem r111_29 {E : Nat → Value} {d : Nat} {st : List Value} {h : gm_H} {r : gm_R × gm_H} {a0 a2 a3 a4 a5 a6 a7 a8 : Value} {x : Int32} : gm_Go E d 111 29 [a0, .int x, a2, a3, a4, a5, a6, a7, a8] st h r ↔ gm_Go E d 111 30 [a0, .int x, a2, a3, a4, a5, a6, a7, a8] (.int x :: st) h r := gr_loc m111 f111_29 rfl rfl
theorem f111_30 : gm_ft 111 30 = some (.iaload, 1) := by decide +kernel
theorem r111_30 {E : Nat → Value} {d : Nat} {st : List Value} {h : gm_H} {r : gm_R × gm_H} {lv : List Value} {a k j : Nat} {vs : List Value} {v : Value} (hr : gm_rd h a = some (k, vs)) (hk : 100 ≤ k ∧ (fun t => t == 0) (k % 100) = true) (hj : j < 2 ^ 31) (hv : vs[j]? = some v) : gm_Go E d 111 30 lv (.int (nI j) :: .ref a :: st) h r ↔ gm_Go E d 111 31 lv (v :: st) h r := gr_rd m111 f111_30 rfl rfl rfl rfl (ga_ld (P := fun t => t == 0) hr hk hj hv)
theorem f111_31 : gm_ft 111 31 = some (.iconst 0, 1) := by decide +kernel
theorem r111_31 {E : Nat → Value} {d : Nat} {st : List Value} {h : gm_H} {r : gm_R × gm_H} {lv : List Value} : gm_Go E d 111 31 lv st h r ↔ gm_Go E d 111 32 lv (.int (0 : Int32) :: st) h r := gr_pure m111 f111_31 rfl
theorem f111_32 : gm_ft 111 32 = some (.iload_n 2, 1) := by decide +kernel
theorem r111_32 {E : Nat → Value} {d : Nat} {st : List Value} {h : gm_H} {r : gm_R × gm_H} {a0 a1 a3 a4 a5 a6 a7 a8 : Value} {x : Int32} : gm_Go E d 111 32 [a0, a1, .int x, a3, a4, a5, a6, a7, a8] st h r ↔ gm_Go E d 111 33 [a0, a1, .int x, a3, a4, a5, a6, a7, a8] (.int x :: st) h r := gr_loc m111 f111_32 rfl rfl
theorem f111_33 : gm_ft 111 33 = some (.invokevirtual 204, 3) := by decide +kernel
theorem n111_33 {st : List Value} {h : gm_H} {E : Nat → Value} {lv : List Value} {b0 b1 b2 : Value} {a : Nat} (hs : (st.map fun v => v.category).sum ≤ 8) (he : (gm_en1 [.ref a, b0, b1, b2]).length ≤ 5) {vs : List Value} (hr : gm_rd h a = some (5, vs)) : gm_next E 111 33 lv (b2 :: b1 :: b0 :: .ref a :: st) h = some (.inr (.inl (0, 112, [.ref a, b0, b1, b2], st))) := gn_call m111 f111_33 rfl rfl rfl rfl rfl rfl rfl (gc_virt (bs := [b2, b1, b0]) (w := 901) rfl rfl rfl rfl hs he hr) (by decide)
theorem f111_36 : gm_ft 111 36 = some (.ifCond .ne 4, 3) := by decide +kernel
theorem r111_36 {E : Nat → Value} {d : Nat} {st : List Value} {h : gm_H} {r : gm_R × gm_H} {lv : List Value} {x : Int32} : gm_Go E d 111 36 lv (.int x :: st) h r ↔ (if x = 0 then gm_Go E d 111 39 lv st h r else gm_Go E d 111 40 lv st h r) := (gr_br m111 f111_36 rfl rfl rfl rfl).trans gr_ifn
theorem f111_39 : gm_ft 111 39 = some (.return_, 1) := by decide +kernel
theorem r111_39 {E : Nat → Value} {d : Nat} {h : gm_H} {r : gm_R × gm_H} {lv : List Value} : gm_Go E d 111 39 lv [] h r ↔ r = (.inl none, h) := gr_ret m111 f111_39 rfl rfl rfl rfl rfl rfl rfl rfl rfl
theorem f111_40 : gm_ft 111 40 = some (.aload_n 0, 1) := by decide +kernel
theorem r111_40 {E : Nat → Value} {d : Nat} {st : List Value} {h : gm_H} {r : gm_R × gm_H} {a1 a2 a3 a4 a5 a6 a7 a8 : Value} {x : Nat} : gm_Go E d 111 40 [.ref x, a1, a2, a3, a4, a5, a6, a7, a8] st h r ↔ gm_Go E d 111 41 [.ref x, a1, a2, a3, a4, a5, a6, a7, a8] (.ref x :: st) h r := gr_loc m111 f111_40 rfl rfl
theorem r111_40n {E : Nat → Value} {d : Nat} {st : List Value} {h : gm_H} {r : gm_R × gm_H} {a1 a2 a3 a4 a5 a6 a7 a8 : Value}  : gm_Go E d 111 40 [.null, a1, a2, a3, a4, a5, a6, a7, a8] st h r ↔ gm_Go E d 111 41 [.null, a1, a2, a3, a4, a5, a6, a7, a8] (.null :: st) h r := gr_loc m111 f111_40 rfl rfl
theorem f111_41 : gm_ft 111 41 = some (.getfield 69, 3) := by decide +kernel
theorem r111_41 {E : Nat → Value} {d : Nat} {st : List Value} {h : gm_H} {r : gm_R × gm_H} {lv : List Value} {a : Nat} {vs : List Value} {v : Value} (hr : gm_rd h a = some (5, vs)) (hv : vs[31]? = some v) : gm_Go E d 111 41 lv (.ref a :: st) h r ↔ gm_Go E d 111 44 lv (v :: st) h r := gr_rd m111 f111_41 rfl rfl rfl rfl (gf_get k5_69 hr hv)
theorem f111_44 : gm_ft 111 44 = some (.iload_n 2, 1) := by decide +kernel
theorem r111_44 {E : Nat → Value} {d : Nat} {st : List Value} {h : gm_H} {r : gm_R × gm_H} {a0 a1 a3 a4 a5 a6 a7 a8 : Value} {x : Int32} : gm_Go E d 111 44 [a0, a1, .int x, a3, a4, a5, a6, a7, a8] st h r ↔ gm_Go E d 111 45 [a0, a1, .int x, a3, a4, a5, a6, a7, a8] (.int x :: st) h r := gr_loc m111 f111_44 rfl rfl
theorem f111_45 : gm_ft 111 45 = some (.iaload, 1) := by decide +kernel
theorem r111_45 {E : Nat → Value} {d : Nat} {st : List Value} {h : gm_H} {r : gm_R × gm_H} {lv : List Value} {a k j : Nat} {vs : List Value} {v : Value} (hr : gm_rd h a = some (k, vs)) (hk : 100 ≤ k ∧ (fun t => t == 0) (k % 100) = true) (hj : j < 2 ^ 31) (hv : vs[j]? = some v) : gm_Go E d 111 45 lv (.int (nI j) :: .ref a :: st) h r ↔ gm_Go E d 111 46 lv (v :: st) h r := gr_rd m111 f111_45 rfl rfl rfl rfl (ga_ld (P := fun t => t == 0) hr hk hj hv)
theorem f111_46 : gm_ft 111 46 = some (.istore_n 3, 1) := by decide +kernel
theorem r111_46 {E : Nat → Value} {d : Nat} {st : List Value} {h : gm_H} {r : gm_R × gm_H} {a0 a1 a2 a3 a4 a5 a6 a7 a8 : Value} {x : Int32} : gm_Go E d 111 46 [a0, a1, a2, a3, a4, a5, a6, a7, a8] (.int x :: st) h r ↔ gm_Go E d 111 47 [a0, a1, gm_k a2, .int x, a4, a5, a6, a7, a8] st h r := gr_loc m111 f111_46 rfl rfl
theorem f111_47 : gm_ft 111 47 = some (.aload_n 0, 1) := by decide +kernel
theorem r111_47 {E : Nat → Value} {d : Nat} {st : List Value} {h : gm_H} {r : gm_R × gm_H} {a1 a2 a3 a4 a5 a6 a7 a8 : Value} {x : Nat} : gm_Go E d 111 47 [.ref x, a1, a2, a3, a4, a5, a6, a7, a8] st h r ↔ gm_Go E d 111 48 [.ref x, a1, a2, a3, a4, a5, a6, a7, a8] (.ref x :: st) h r := gr_loc m111 f111_47 rfl rfl
theorem r111_47n {E : Nat → Value} {d : Nat} {st : List Value} {h : gm_H} {r : gm_R × gm_H} {a1 a2 a3 a4 a5 a6 a7 a8 : Value}  : gm_Go E d 111 47 [.null, a1, a2, a3, a4, a5, a6, a7, a8] st h r ↔ gm_Go E d 111 48 [.null, a1, a2, a3, a4, a5, a6, a7, a8] (.null :: st) h r := gr_loc m111 f111_47 rfl rfl
theorem f111_48 : gm_ft 111 48 = some (.getfield 75, 3) := by decide +kernel
theorem r111_48 {E : Nat → Value} {d : Nat} {st : List Value} {h : gm_H} {r : gm_R × gm_H} {lv : List Value} {a : Nat} {vs : List Value} {v : Value} (hr : gm_rd h a = some (5, vs)) (hv : vs[33]? = some v) : gm_Go E d 111 48 lv (.ref a :: st) h r ↔ gm_Go E d 111 51 lv (v :: st) h r := gr_rd m111 f111_48 rfl rfl rfl rfl (gf_get k5_75 hr hv)
theorem f111_51 : gm_ft 111 51 = some (.iload_n 2, 1) := by decide +kernel
theorem r111_51 {E : Nat → Value} {d : Nat} {st : List Value} {h : gm_H} {r : gm_R × gm_H} {a0 a1 a3 a4 a5 a6 a7 a8 : Value} {x : Int32} : gm_Go E d 111 51 [a0, a1, .int x, a3, a4, a5, a6, a7, a8] st h r ↔ gm_Go E d 111 52 [a0, a1, .int x, a3, a4, a5, a6, a7, a8] (.int x :: st) h r := gr_loc m111 f111_51 rfl rfl
theorem f111_52 : gm_ft 111 52 = some (.iaload, 1) := by decide +kernel
theorem r111_52 {E : Nat → Value} {d : Nat} {st : List Value} {h : gm_H} {r : gm_R × gm_H} {lv : List Value} {a k j : Nat} {vs : List Value} {v : Value} (hr : gm_rd h a = some (k, vs)) (hk : 100 ≤ k ∧ (fun t => t == 0) (k % 100) = true) (hj : j < 2 ^ 31) (hv : vs[j]? = some v) : gm_Go E d 111 52 lv (.int (nI j) :: .ref a :: st) h r ↔ gm_Go E d 111 53 lv (v :: st) h r := gr_rd m111 f111_52 rfl rfl rfl rfl (ga_ld (P := fun t => t == 0) hr hk hj hv)
theorem f111_53 : gm_ft 111 53 = some (.bipush 16, 2) := by decide +kernel
theorem r111_53 {E : Nat → Value} {d : Nat} {st : List Value} {h : gm_H} {r : gm_R × gm_H} {lv : List Value} : gm_Go E d 111 53 lv st h r ↔ gm_Go E d 111 55 lv (.int (16 : Int32) :: st) h r := gr_pure m111 f111_53 rfl
theorem f111_55 : gm_ft 111 55 = some (.iand, 1) := by decide +kernel
theorem r111_55 {E : Nat → Value} {d : Nat} {st : List Value} {h : gm_H} {r : gm_R × gm_H} {lv : List Value} {x y : Int32} : gm_Go E d 111 55 lv (.int y :: .int x :: st) h r ↔ gm_Go E d 111 56 lv (.int (x &&& y) :: st) h r := gr_pure m111 f111_55 rfl
theorem f111_56 : gm_ft 111 56 = some (.ifCond .eq 12, 3) := by decide +kernel
theorem r111_56 {E : Nat → Value} {d : Nat} {st : List Value} {h : gm_H} {r : gm_R × gm_H} {lv : List Value} {x : Int32} : gm_Go E d 111 56 lv (.int x :: st) h r ↔ (if x = 0 then gm_Go E d 111 68 lv st h r else gm_Go E d 111 59 lv st h r) := (gr_br m111 f111_56 rfl rfl rfl rfl).trans gr_if
theorem f111_59 : gm_ft 111 59 = some (.aload_n 0, 1) := by decide +kernel
theorem r111_59 {E : Nat → Value} {d : Nat} {st : List Value} {h : gm_H} {r : gm_R × gm_H} {a1 a2 a3 a4 a5 a6 a7 a8 : Value} {x : Nat} : gm_Go E d 111 59 [.ref x, a1, a2, a3, a4, a5, a6, a7, a8] st h r ↔ gm_Go E d 111 60 [.ref x, a1, a2, a3, a4, a5, a6, a7, a8] (.ref x :: st) h r := gr_loc m111 f111_59 rfl rfl
theorem r111_59n {E : Nat → Value} {d : Nat} {st : List Value} {h : gm_H} {r : gm_R × gm_H} {a1 a2 a3 a4 a5 a6 a7 a8 : Value}  : gm_Go E d 111 59 [.null, a1, a2, a3, a4, a5, a6, a7, a8] st h r ↔ gm_Go E d 111 60 [.null, a1, a2, a3, a4, a5, a6, a7, a8] (.null :: st) h r := gr_loc m111 f111_59 rfl rfl
theorem f111_60 : gm_ft 111 60 = some (.bipush (-5), 2) := by decide +kernel
theorem r111_60 {E : Nat → Value} {d : Nat} {st : List Value} {h : gm_H} {r : gm_R × gm_H} {lv : List Value} : gm_Go E d 111 60 lv st h r ↔ gm_Go E d 111 62 lv (.int (-5 : Int32) :: st) h r := gr_pure m111 f111_60 rfl
theorem f111_62 : gm_ft 111 62 = some (.invokevirtual 151, 3) := by decide +kernel
theorem n111_62 {st : List Value} {h : gm_H} {E : Nat → Value} {lv : List Value} {b0 : Value} {a : Nat} (hs : (st.map fun v => v.category).sum ≤ 8) (he : (gm_en1 [.ref a, b0]).length ≤ 2) {vs : List Value} (hr : gm_rd h a = some (5, vs)) : gm_next E 111 62 lv (b0 :: .ref a :: st) h = some (.inr (.inl (0, 98, [.ref a, b0], st))) := gn_call m111 f111_62 rfl rfl rfl rfl rfl rfl rfl (gc_virt (bs := [b0]) (w := 844) rfl rfl rfl rfl hs he hr) (by decide)
theorem f111_65 : gm_ft 111 65 = some (.goto 41, 3) := by decide +kernel
theorem r111_65 {E : Nat → Value} {d : Nat} {st : List Value} {h : gm_H} {r : gm_R × gm_H} {lv : List Value} : gm_Go E d 111 65 lv st h r ↔ gm_Go E d 111 106 lv st h r := gr_brT m111 f111_65 rfl rfl rfl rfl
theorem f111_68 : gm_ft 111 68 = some (.iload_n 3, 1) := by decide +kernel
theorem r111_68 {E : Nat → Value} {d : Nat} {st : List Value} {h : gm_H} {r : gm_R × gm_H} {a0 a1 a2 a4 a5 a6 a7 a8 : Value} {x : Int32} : gm_Go E d 111 68 [a0, a1, a2, .int x, a4, a5, a6, a7, a8] st h r ↔ gm_Go E d 111 69 [a0, a1, a2, .int x, a4, a5, a6, a7, a8] (.int x :: st) h r := gr_loc m111 f111_68 rfl rfl
theorem f111_69 : gm_ft 111 69 = some (.ifCond .ge 12, 3) := by decide +kernel
theorem r111_69 {E : Nat → Value} {d : Nat} {st : List Value} {h : gm_H} {r : gm_R × gm_H} {lv : List Value} {x : Int32} : gm_Go E d 111 69 lv (.int x :: st) h r ↔ (if 0 ≤ x then gm_Go E d 111 81 lv st h r else gm_Go E d 111 72 lv st h r) := (gr_br m111 f111_69 rfl rfl rfl rfl).trans gr_if
theorem f111_72 : gm_ft 111 72 = some (.aload_n 0, 1) := by decide +kernel
theorem r111_72 {E : Nat → Value} {d : Nat} {st : List Value} {h : gm_H} {r : gm_R × gm_H} {a1 a2 a3 a4 a5 a6 a7 a8 : Value} {x : Nat} : gm_Go E d 111 72 [.ref x, a1, a2, a3, a4, a5, a6, a7, a8] st h r ↔ gm_Go E d 111 73 [.ref x, a1, a2, a3, a4, a5, a6, a7, a8] (.ref x :: st) h r := gr_loc m111 f111_72 rfl rfl
theorem r111_72n {E : Nat → Value} {d : Nat} {st : List Value} {h : gm_H} {r : gm_R × gm_H} {a1 a2 a3 a4 a5 a6 a7 a8 : Value}  : gm_Go E d 111 72 [.null, a1, a2, a3, a4, a5, a6, a7, a8] st h r ↔ gm_Go E d 111 73 [.null, a1, a2, a3, a4, a5, a6, a7, a8] (.null :: st) h r := gr_loc m111 f111_72 rfl rfl
theorem f111_73 : gm_ft 111 73 = some (.bipush (-9), 2) := by decide +kernel
theorem r111_73 {E : Nat → Value} {d : Nat} {st : List Value} {h : gm_H} {r : gm_R × gm_H} {lv : List Value} : gm_Go E d 111 73 lv st h r ↔ gm_Go E d 111 75 lv (.int (-9 : Int32) :: st) h r := gr_pure m111 f111_73 rfl
theorem f111_75 : gm_ft 111 75 = some (.invokevirtual 151, 3) := by decide +kernel
theorem n111_75 {st : List Value} {h : gm_H} {E : Nat → Value} {lv : List Value} {b0 : Value} {a : Nat} (hs : (st.map fun v => v.category).sum ≤ 8) (he : (gm_en1 [.ref a, b0]).length ≤ 2) {vs : List Value} (hr : gm_rd h a = some (5, vs)) : gm_next E 111 75 lv (b0 :: .ref a :: st) h = some (.inr (.inl (0, 98, [.ref a, b0], st))) := gn_call m111 f111_75 rfl rfl rfl rfl rfl rfl rfl (gc_virt (bs := [b0]) (w := 844) rfl rfl rfl rfl hs he hr) (by decide)
theorem f111_78 : gm_ft 111 78 = some (.goto 28, 3) := by decide +kernel
theorem r111_78 {E : Nat → Value} {d : Nat} {st : List Value} {h : gm_H} {r : gm_R × gm_H} {lv : List Value} : gm_Go E d 111 78 lv st h r ↔ gm_Go E d 111 106 lv st h r := gr_brT m111 f111_78 rfl rfl rfl rfl
theorem f111_81 : gm_ft 111 81 = some (.aload_n 0, 1) := by decide +kernel
theorem r111_81 {E : Nat → Value} {d : Nat} {st : List Value} {h : gm_H} {r : gm_R × gm_H} {a1 a2 a3 a4 a5 a6 a7 a8 : Value} {x : Nat} : gm_Go E d 111 81 [.ref x, a1, a2, a3, a4, a5, a6, a7, a8] st h r ↔ gm_Go E d 111 82 [.ref x, a1, a2, a3, a4, a5, a6, a7, a8] (.ref x :: st) h r := gr_loc m111 f111_81 rfl rfl
theorem r111_81n {E : Nat → Value} {d : Nat} {st : List Value} {h : gm_H} {r : gm_R × gm_H} {a1 a2 a3 a4 a5 a6 a7 a8 : Value}  : gm_Go E d 111 81 [.null, a1, a2, a3, a4, a5, a6, a7, a8] st h r ↔ gm_Go E d 111 82 [.null, a1, a2, a3, a4, a5, a6, a7, a8] (.null :: st) h r := gr_loc m111 f111_81 rfl rfl
theorem f111_82 : gm_ft 111 82 = some (.getfield 13, 3) := by decide +kernel
theorem r111_82 {E : Nat → Value} {d : Nat} {st : List Value} {h : gm_H} {r : gm_R × gm_H} {lv : List Value} {a : Nat} {vs : List Value} {v : Value} (hr : gm_rd h a = some (5, vs)) (hv : vs[10]? = some v) : gm_Go E d 111 82 lv (.ref a :: st) h r ↔ gm_Go E d 111 85 lv (v :: st) h r := gr_rd m111 f111_82 rfl rfl rfl rfl (gf_get k5_13 hr hv)
theorem f111_85 : gm_ft 111 85 = some (.iload_n 3, 1) := by decide +kernel
theorem r111_85 {E : Nat → Value} {d : Nat} {st : List Value} {h : gm_H} {r : gm_R × gm_H} {a0 a1 a2 a4 a5 a6 a7 a8 : Value} {x : Int32} : gm_Go E d 111 85 [a0, a1, a2, .int x, a4, a5, a6, a7, a8] st h r ↔ gm_Go E d 111 86 [a0, a1, a2, .int x, a4, a5, a6, a7, a8] (.int x :: st) h r := gr_loc m111 f111_85 rfl rfl
theorem f111_86 : gm_ft 111 86 = some (.iaload, 1) := by decide +kernel
theorem r111_86 {E : Nat → Value} {d : Nat} {st : List Value} {h : gm_H} {r : gm_R × gm_H} {lv : List Value} {a k j : Nat} {vs : List Value} {v : Value} (hr : gm_rd h a = some (k, vs)) (hk : 100 ≤ k ∧ (fun t => t == 0) (k % 100) = true) (hj : j < 2 ^ 31) (hv : vs[j]? = some v) : gm_Go E d 111 86 lv (.int (nI j) :: .ref a :: st) h r ↔ gm_Go E d 111 87 lv (v :: st) h r := gr_rd m111 f111_86 rfl rfl rfl rfl (ga_ld (P := fun t => t == 0) hr hk hj hv)
theorem f111_87 : gm_ft 111 87 = some (.ifCond .eq 13, 3) := by decide +kernel
theorem r111_87 {E : Nat → Value} {d : Nat} {st : List Value} {h : gm_H} {r : gm_R × gm_H} {lv : List Value} {x : Int32} : gm_Go E d 111 87 lv (.int x :: st) h r ↔ (if x = 0 then gm_Go E d 111 100 lv st h r else gm_Go E d 111 90 lv st h r) := (gr_br m111 f111_87 rfl rfl rfl rfl).trans gr_if
theorem f111_90 : gm_ft 111 90 = some (.aload_n 0, 1) := by decide +kernel
theorem r111_90 {E : Nat → Value} {d : Nat} {st : List Value} {h : gm_H} {r : gm_R × gm_H} {a1 a2 a3 a4 a5 a6 a7 a8 : Value} {x : Nat} : gm_Go E d 111 90 [.ref x, a1, a2, a3, a4, a5, a6, a7, a8] st h r ↔ gm_Go E d 111 91 [.ref x, a1, a2, a3, a4, a5, a6, a7, a8] (.ref x :: st) h r := gr_loc m111 f111_90 rfl rfl
theorem r111_90n {E : Nat → Value} {d : Nat} {st : List Value} {h : gm_H} {r : gm_R × gm_H} {a1 a2 a3 a4 a5 a6 a7 a8 : Value}  : gm_Go E d 111 90 [.null, a1, a2, a3, a4, a5, a6, a7, a8] st h r ↔ gm_Go E d 111 91 [.null, a1, a2, a3, a4, a5, a6, a7, a8] (.null :: st) h r := gr_loc m111 f111_90 rfl rfl
theorem f111_91 : gm_ft 111 91 = some (.getfield 13, 3) := by decide +kernel
theorem r111_91 {E : Nat → Value} {d : Nat} {st : List Value} {h : gm_H} {r : gm_R × gm_H} {lv : List Value} {a : Nat} {vs : List Value} {v : Value} (hr : gm_rd h a = some (5, vs)) (hv : vs[10]? = some v) : gm_Go E d 111 91 lv (.ref a :: st) h r ↔ gm_Go E d 111 94 lv (v :: st) h r := gr_rd m111 f111_91 rfl rfl rfl rfl (gf_get k5_13 hr hv)
theorem f111_94 : gm_ft 111 94 = some (.iload_n 3, 1) := by decide +kernel
theorem r111_94 {E : Nat → Value} {d : Nat} {st : List Value} {h : gm_H} {r : gm_R × gm_H} {a0 a1 a2 a4 a5 a6 a7 a8 : Value} {x : Int32} : gm_Go E d 111 94 [a0, a1, a2, .int x, a4, a5, a6, a7, a8] st h r ↔ gm_Go E d 111 95 [a0, a1, a2, .int x, a4, a5, a6, a7, a8] (.int x :: st) h r := gr_loc m111 f111_94 rfl rfl
theorem f111_95 : gm_ft 111 95 = some (.iaload, 1) := by decide +kernel
theorem r111_95 {E : Nat → Value} {d : Nat} {st : List Value} {h : gm_H} {r : gm_R × gm_H} {lv : List Value} {a k j : Nat} {vs : List Value} {v : Value} (hr : gm_rd h a = some (k, vs)) (hk : 100 ≤ k ∧ (fun t => t == 0) (k % 100) = true) (hj : j < 2 ^ 31) (hv : vs[j]? = some v) : gm_Go E d 111 95 lv (.int (nI j) :: .ref a :: st) h r ↔ gm_Go E d 111 96 lv (v :: st) h r := gr_rd m111 f111_95 rfl rfl rfl rfl (ga_ld (P := fun t => t == 0) hr hk hj hv)
theorem f111_96 : gm_ft 111 96 = some (.iconst 3, 1) := by decide +kernel
theorem r111_96 {E : Nat → Value} {d : Nat} {st : List Value} {h : gm_H} {r : gm_R × gm_H} {lv : List Value} : gm_Go E d 111 96 lv st h r ↔ gm_Go E d 111 97 lv (.int (3 : Int32) :: st) h r := gr_pure m111 f111_96 rfl
theorem f111_97 : gm_ft 111 97 = some (.if_icmp .ne 9, 3) := by decide +kernel
theorem r111_97 {E : Nat → Value} {d : Nat} {st : List Value} {h : gm_H} {r : gm_R × gm_H} {lv : List Value} {x y : Int32} : gm_Go E d 111 97 lv (.int y :: .int x :: st) h r ↔ (if x = y then gm_Go E d 111 100 lv st h r else gm_Go E d 111 106 lv st h r) := (gr_br m111 f111_97 rfl rfl rfl rfl).trans gr_ifn
theorem f111_100 : gm_ft 111 100 = some (.aload_n 0, 1) := by decide +kernel
theorem r111_100 {E : Nat → Value} {d : Nat} {st : List Value} {h : gm_H} {r : gm_R × gm_H} {a1 a2 a3 a4 a5 a6 a7 a8 : Value} {x : Nat} : gm_Go E d 111 100 [.ref x, a1, a2, a3, a4, a5, a6, a7, a8] st h r ↔ gm_Go E d 111 101 [.ref x, a1, a2, a3, a4, a5, a6, a7, a8] (.ref x :: st) h r := gr_loc m111 f111_100 rfl rfl
theorem r111_100n {E : Nat → Value} {d : Nat} {st : List Value} {h : gm_H} {r : gm_R × gm_H} {a1 a2 a3 a4 a5 a6 a7 a8 : Value}  : gm_Go E d 111 100 [.null, a1, a2, a3, a4, a5, a6, a7, a8] st h r ↔ gm_Go E d 111 101 [.null, a1, a2, a3, a4, a5, a6, a7, a8] (.null :: st) h r := gr_loc m111 f111_100 rfl rfl
theorem f111_101 : gm_ft 111 101 = some (.bipush (-5), 2) := by decide +kernel
theorem r111_101 {E : Nat → Value} {d : Nat} {st : List Value} {h : gm_H} {r : gm_R × gm_H} {lv : List Value} : gm_Go E d 111 101 lv st h r ↔ gm_Go E d 111 103 lv (.int (-5 : Int32) :: st) h r := gr_pure m111 f111_101 rfl
theorem f111_103 : gm_ft 111 103 = some (.invokevirtual 151, 3) := by decide +kernel
theorem n111_103 {st : List Value} {h : gm_H} {E : Nat → Value} {lv : List Value} {b0 : Value} {a : Nat} (hs : (st.map fun v => v.category).sum ≤ 8) (he : (gm_en1 [.ref a, b0]).length ≤ 2) {vs : List Value} (hr : gm_rd h a = some (5, vs)) : gm_next E 111 103 lv (b0 :: .ref a :: st) h = some (.inr (.inl (0, 98, [.ref a, b0], st))) := gn_call m111 f111_103 rfl rfl rfl rfl rfl rfl rfl (gc_virt (bs := [b0]) (w := 844) rfl rfl rfl rfl hs he hr) (by decide)
theorem f111_106 : gm_ft 111 106 = some (.aload_n 0, 1) := by decide +kernel
theorem r111_106 {E : Nat → Value} {d : Nat} {st : List Value} {h : gm_H} {r : gm_R × gm_H} {a1 a2 a3 a4 a5 a6 a7 a8 : Value} {x : Nat} : gm_Go E d 111 106 [.ref x, a1, a2, a3, a4, a5, a6, a7, a8] st h r ↔ gm_Go E d 111 107 [.ref x, a1, a2, a3, a4, a5, a6, a7, a8] (.ref x :: st) h r := gr_loc m111 f111_106 rfl rfl
theorem r111_106n {E : Nat → Value} {d : Nat} {st : List Value} {h : gm_H} {r : gm_R × gm_H} {a1 a2 a3 a4 a5 a6 a7 a8 : Value}  : gm_Go E d 111 106 [.null, a1, a2, a3, a4, a5, a6, a7, a8] st h r ↔ gm_Go E d 111 107 [.null, a1, a2, a3, a4, a5, a6, a7, a8] (.null :: st) h r := gr_loc m111 f111_106 rfl rfl
theorem f111_107 : gm_ft 111 107 = some (.getfield 145, 3) := by decide +kernel
theorem r111_107 {E : Nat → Value} {d : Nat} {st : List Value} {h : gm_H} {r : gm_R × gm_H} {lv : List Value} {a : Nat} {vs : List Value} {v : Value} (hr : gm_rd h a = some (5, vs)) (hv : vs[8]? = some v) : gm_Go E d 111 107 lv (.ref a :: st) h r ↔ gm_Go E d 111 110 lv (v :: st) h r := gr_rd m111 f111_107 rfl rfl rfl rfl (gf_get k5_145 hr hv)
theorem f111_110 : gm_ft 111 110 = some (.ifCond .eq 4, 3) := by decide +kernel
theorem r111_110 {E : Nat → Value} {d : Nat} {st : List Value} {h : gm_H} {r : gm_R × gm_H} {lv : List Value} {x : Int32} : gm_Go E d 111 110 lv (.int x :: st) h r ↔ (if x = 0 then gm_Go E d 111 114 lv st h r else gm_Go E d 111 113 lv st h r) := (gr_br m111 f111_110 rfl rfl rfl rfl).trans gr_if
theorem f111_113 : gm_ft 111 113 = some (.return_, 1) := by decide +kernel
theorem r111_113 {E : Nat → Value} {d : Nat} {h : gm_H} {r : gm_R × gm_H} {lv : List Value} : gm_Go E d 111 113 lv [] h r ↔ r = (.inl none, h) := gr_ret m111 f111_113 rfl rfl rfl rfl rfl rfl rfl rfl rfl
theorem f111_114 : gm_ft 111 114 = some (.aload_n 0, 1) := by decide +kernel
theorem r111_114 {E : Nat → Value} {d : Nat} {st : List Value} {h : gm_H} {r : gm_R × gm_H} {a1 a2 a3 a4 a5 a6 a7 a8 : Value} {x : Nat} : gm_Go E d 111 114 [.ref x, a1, a2, a3, a4, a5, a6, a7, a8] st h r ↔ gm_Go E d 111 115 [.ref x, a1, a2, a3, a4, a5, a6, a7, a8] (.ref x :: st) h r := gr_loc m111 f111_114 rfl rfl
theorem r111_114n {E : Nat → Value} {d : Nat} {st : List Value} {h : gm_H} {r : gm_R × gm_H} {a1 a2 a3 a4 a5 a6 a7 a8 : Value}  : gm_Go E d 111 114 [.null, a1, a2, a3, a4, a5, a6, a7, a8] st h r ↔ gm_Go E d 111 115 [.null, a1, a2, a3, a4, a5, a6, a7, a8] (.null :: st) h r := gr_loc m111 f111_114 rfl rfl
theorem f111_115 : gm_ft 111 115 = some (.iload_n 3, 1) := by decide +kernel
theorem r111_115 {E : Nat → Value} {d : Nat} {st : List Value} {h : gm_H} {r : gm_R × gm_H} {a0 a1 a2 a4 a5 a6 a7 a8 : Value} {x : Int32} : gm_Go E d 111 115 [a0, a1, a2, .int x, a4, a5, a6, a7, a8] st h r ↔ gm_Go E d 111 116 [a0, a1, a2, .int x, a4, a5, a6, a7, a8] (.int x :: st) h r := gr_loc m111 f111_115 rfl rfl
theorem f111_116 : gm_ft 111 116 = some (.invokevirtual 208, 3) := by decide +kernel
theorem n111_116 {st : List Value} {h : gm_H} {E : Nat → Value} {lv : List Value} {b0 : Value} {a : Nat} (hs : (st.map fun v => v.category).sum ≤ 8) (he : (gm_en1 [.ref a, b0]).length ≤ 4) {vs : List Value} (hr : gm_rd h a = some (5, vs)) : gm_next E 111 116 lv (b0 :: .ref a :: st) h = some (.inr (.inl (0, 113, [.ref a, b0], st))) := gn_call m111 f111_116 rfl rfl rfl rfl rfl rfl rfl (gc_virt (bs := [b0]) (w := 905) rfl rfl rfl rfl hs he hr) (by decide)
theorem f111_119 : gm_ft 111 119 = some (.aload_n 0, 1) := by decide +kernel
theorem r111_119 {E : Nat → Value} {d : Nat} {st : List Value} {h : gm_H} {r : gm_R × gm_H} {a1 a2 a3 a4 a5 a6 a7 a8 : Value} {x : Nat} : gm_Go E d 111 119 [.ref x, a1, a2, a3, a4, a5, a6, a7, a8] st h r ↔ gm_Go E d 111 120 [.ref x, a1, a2, a3, a4, a5, a6, a7, a8] (.ref x :: st) h r := gr_loc m111 f111_119 rfl rfl
theorem r111_119n {E : Nat → Value} {d : Nat} {st : List Value} {h : gm_H} {r : gm_R × gm_H} {a1 a2 a3 a4 a5 a6 a7 a8 : Value}  : gm_Go E d 111 119 [.null, a1, a2, a3, a4, a5, a6, a7, a8] st h r ↔ gm_Go E d 111 120 [.null, a1, a2, a3, a4, a5, a6, a7, a8] (.null :: st) h r := gr_loc m111 f111_119 rfl rfl
theorem f111_120 : gm_ft 111 120 = some (.getfield 23, 3) := by decide +kernel
theorem r111_120 {E : Nat → Value} {d : Nat} {st : List Value} {h : gm_H} {r : gm_R × gm_H} {lv : List Value} {a : Nat} {vs : List Value} {v : Value} (hr : gm_rd h a = some (5, vs)) (hv : vs[13]? = some v) : gm_Go E d 111 120 lv (.ref a :: st) h r ↔ gm_Go E d 111 123 lv (v :: st) h r := gr_rd m111 f111_120 rfl rfl rfl rfl (gf_get k5_23 hr hv)
theorem f111_123 : gm_ft 111 123 = some (.iload_n 3, 1) := by decide +kernel
theorem r111_123 {E : Nat → Value} {d : Nat} {st : List Value} {h : gm_H} {r : gm_R × gm_H} {a0 a1 a2 a4 a5 a6 a7 a8 : Value} {x : Int32} : gm_Go E d 111 123 [a0, a1, a2, .int x, a4, a5, a6, a7, a8] st h r ↔ gm_Go E d 111 124 [a0, a1, a2, .int x, a4, a5, a6, a7, a8] (.int x :: st) h r := gr_loc m111 f111_123 rfl rfl
theorem f111_124 : gm_ft 111 124 = some (.iaload, 1) := by decide +kernel
theorem r111_124 {E : Nat → Value} {d : Nat} {st : List Value} {h : gm_H} {r : gm_R × gm_H} {lv : List Value} {a k j : Nat} {vs : List Value} {v : Value} (hr : gm_rd h a = some (k, vs)) (hk : 100 ≤ k ∧ (fun t => t == 0) (k % 100) = true) (hj : j < 2 ^ 31) (hv : vs[j]? = some v) : gm_Go E d 111 124 lv (.int (nI j) :: .ref a :: st) h r ↔ gm_Go E d 111 125 lv (v :: st) h r := gr_rd m111 f111_124 rfl rfl rfl rfl (ga_ld (P := fun t => t == 0) hr hk hj hv)
theorem f111_125 : gm_ft 111 125 = some (.iadd, 1) := by decide +kernel
theorem r111_125 {E : Nat → Value} {d : Nat} {st : List Value} {h : gm_H} {r : gm_R × gm_H} {lv : List Value} {x y : Int32} : gm_Go E d 111 125 lv (.int y :: .int x :: st) h r ↔ gm_Go E d 111 126 lv (.int (x + y) :: st) h r := gr_pure m111 f111_125 rfl
theorem f111_126 : gm_ft 111 126 = some (.istore 4, 2) := by decide +kernel
theorem r111_126 {E : Nat → Value} {d : Nat} {st : List Value} {h : gm_H} {r : gm_R × gm_H} {a0 a1 a2 a3 a4 a5 a6 a7 a8 : Value} {x : Int32} : gm_Go E d 111 126 [a0, a1, a2, a3, a4, a5, a6, a7, a8] (.int x :: st) h r ↔ gm_Go E d 111 128 [a0, a1, a2, gm_k a3, .int x, a5, a6, a7, a8] st h r := gr_loc m111 f111_126 rfl rfl
theorem f111_128 : gm_ft 111 128 = some (.aload_n 0, 1) := by decide +kernel
theorem r111_128 {E : Nat → Value} {d : Nat} {st : List Value} {h : gm_H} {r : gm_R × gm_H} {a1 a2 a3 a4 a5 a6 a7 a8 : Value} {x : Nat} : gm_Go E d 111 128 [.ref x, a1, a2, a3, a4, a5, a6, a7, a8] st h r ↔ gm_Go E d 111 129 [.ref x, a1, a2, a3, a4, a5, a6, a7, a8] (.ref x :: st) h r := gr_loc m111 f111_128 rfl rfl
theorem r111_128n {E : Nat → Value} {d : Nat} {st : List Value} {h : gm_H} {r : gm_R × gm_H} {a1 a2 a3 a4 a5 a6 a7 a8 : Value}  : gm_Go E d 111 128 [.null, a1, a2, a3, a4, a5, a6, a7, a8] st h r ↔ gm_Go E d 111 129 [.null, a1, a2, a3, a4, a5, a6, a7, a8] (.null :: st) h r := gr_loc m111 f111_128 rfl rfl
theorem f111_129 : gm_ft 111 129 = some (.iconst 0, 1) := by decide +kernel
theorem r111_129 {E : Nat → Value} {d : Nat} {st : List Value} {h : gm_H} {r : gm_R × gm_H} {lv : List Value} : gm_Go E d 111 129 lv st h r ↔ gm_Go E d 111 130 lv (.int (0 : Int32) :: st) h r := gr_pure m111 f111_129 rfl
theorem f111_130 : gm_ft 111 130 = some (.iload_n 3, 1) := by decide +kernel
theorem r111_130 {E : Nat → Value} {d : Nat} {st : List Value} {h : gm_H} {r : gm_R × gm_H} {a0 a1 a2 a4 a5 a6 a7 a8 : Value} {x : Int32} : gm_Go E d 111 130 [a0, a1, a2, .int x, a4, a5, a6, a7, a8] st h r ↔ gm_Go E d 111 131 [a0, a1, a2, .int x, a4, a5, a6, a7, a8] (.int x :: st) h r := gr_loc m111 f111_130 rfl rfl
theorem f111_131 : gm_ft 111 131 = some (.iload 4, 2) := by decide +kernel
theorem r111_131 {E : Nat → Value} {d : Nat} {st : List Value} {h : gm_H} {r : gm_R × gm_H} {a0 a1 a2 a3 a5 a6 a7 a8 : Value} {x : Int32} : gm_Go E d 111 131 [a0, a1, a2, a3, .int x, a5, a6, a7, a8] st h r ↔ gm_Go E d 111 133 [a0, a1, a2, a3, .int x, a5, a6, a7, a8] (.int x :: st) h r := gr_loc m111 f111_131 rfl rfl
theorem f111_133 : gm_ft 111 133 = some (.aload_n 0, 1) := by decide +kernel
theorem r111_133 {E : Nat → Value} {d : Nat} {st : List Value} {h : gm_H} {r : gm_R × gm_H} {a1 a2 a3 a4 a5 a6 a7 a8 : Value} {x : Nat} : gm_Go E d 111 133 [.ref x, a1, a2, a3, a4, a5, a6, a7, a8] st h r ↔ gm_Go E d 111 134 [.ref x, a1, a2, a3, a4, a5, a6, a7, a8] (.ref x :: st) h r := gr_loc m111 f111_133 rfl rfl
theorem r111_133n {E : Nat → Value} {d : Nat} {st : List Value} {h : gm_H} {r : gm_R × gm_H} {a1 a2 a3 a4 a5 a6 a7 a8 : Value}  : gm_Go E d 111 133 [.null, a1, a2, a3, a4, a5, a6, a7, a8] st h r ↔ gm_Go E d 111 134 [.null, a1, a2, a3, a4, a5, a6, a7, a8] (.null :: st) h r := gr_loc m111 f111_133 rfl rfl
theorem f111_134 : gm_ft 111 134 = some (.getfield 163, 3) := by decide +kernel
theorem r111_134 {E : Nat → Value} {d : Nat} {st : List Value} {h : gm_H} {r : gm_R × gm_H} {lv : List Value} {a : Nat} {vs : List Value} {v : Value} (hr : gm_rd h a = some (5, vs)) (hv : vs[25]? = some v) : gm_Go E d 111 134 lv (.ref a :: st) h r ↔ gm_Go E d 111 137 lv (v :: st) h r := gr_rd m111 f111_134 rfl rfl rfl rfl (gf_get k5_163 hr hv)
theorem f111_137 : gm_ft 111 137 = some (.invokevirtual 196, 3) := by decide +kernel
theorem n111_137 {st : List Value} {h : gm_H} {E : Nat → Value} {lv : List Value} {b0 b1 b2 b3 : Value} {a : Nat} (hs : (st.map fun v => v.category).sum ≤ 8) (he : (gm_en1 [.ref a, b0, b1, b2, b3]).length ≤ 5) {vs : List Value} (hr : gm_rd h a = some (5, vs)) : gm_next E 111 137 lv (b3 :: b2 :: b1 :: b0 :: .ref a :: st) h = some (.inr (.inl (0, 110, [.ref a, b0, b1, b2, b3], st))) := gn_call m111 f111_137 rfl rfl rfl rfl rfl rfl rfl (gc_virt (bs := [b3, b2, b1, b0]) (w := 893) rfl rfl rfl rfl hs he hr) (by decide)
theorem f111_140 : gm_ft 111 140 = some (.istore 5, 2) := by decide +kernel
theorem r111_140 {E : Nat → Value} {d : Nat} {st : List Value} {h : gm_H} {r : gm_R × gm_H} {a0 a1 a2 a3 a4 a5 a6 a7 a8 : Value} {x : Int32} : gm_Go E d 111 140 [a0, a1, a2, a3, a4, a5, a6, a7, a8] (.int x :: st) h r ↔ gm_Go E d 111 142 [a0, a1, a2, a3, gm_k a4, .int x, a6, a7, a8] st h r := gr_loc m111 f111_140 rfl rfl
theorem f111_142 : gm_ft 111 142 = some (.iload_n 3, 1) := by decide +kernel
theorem r111_142 {E : Nat → Value} {d : Nat} {st : List Value} {h : gm_H} {r : gm_R × gm_H} {a0 a1 a2 a4 a5 a6 a7 a8 : Value} {x : Int32} : gm_Go E d 111 142 [a0, a1, a2, .int x, a4, a5, a6, a7, a8] st h r ↔ gm_Go E d 111 143 [a0, a1, a2, .int x, a4, a5, a6, a7, a8] (.int x :: st) h r := gr_loc m111 f111_142 rfl rfl
theorem f111_143 : gm_ft 111 143 = some (.istore 6, 2) := by decide +kernel
theorem r111_143 {E : Nat → Value} {d : Nat} {st : List Value} {h : gm_H} {r : gm_R × gm_H} {a0 a1 a2 a3 a4 a5 a6 a7 a8 : Value} {x : Int32} : gm_Go E d 111 143 [a0, a1, a2, a3, a4, a5, a6, a7, a8] (.int x :: st) h r ↔ gm_Go E d 111 145 [a0, a1, a2, a3, a4, gm_k a5, .int x, a7, a8] st h r := gr_loc m111 f111_143 rfl rfl
theorem f111_145 : gm_ft 111 145 = some (.iload 6, 2) := by decide +kernel
theorem r111_145 {E : Nat → Value} {d : Nat} {st : List Value} {h : gm_H} {r : gm_R × gm_H} {a0 a1 a2 a3 a4 a5 a7 a8 : Value} {x : Int32} : gm_Go E d 111 145 [a0, a1, a2, a3, a4, a5, .int x, a7, a8] st h r ↔ gm_Go E d 111 147 [a0, a1, a2, a3, a4, a5, .int x, a7, a8] (.int x :: st) h r := gr_loc m111 f111_145 rfl rfl
theorem f111_147 : gm_ft 111 147 = some (.ifCond .lt 108, 3) := by decide +kernel
theorem r111_147 {E : Nat → Value} {d : Nat} {st : List Value} {h : gm_H} {r : gm_R × gm_H} {lv : List Value} {x : Int32} : gm_Go E d 111 147 lv (.int x :: st) h r ↔ (if x < 0 then gm_Go E d 111 255 lv st h r else gm_Go E d 111 150 lv st h r) := (gr_br m111 f111_147 rfl rfl rfl rfl).trans gr_if
theorem f111_150 : gm_ft 111 150 = some (.iconst 0, 1) := by decide +kernel
theorem r111_150 {E : Nat → Value} {d : Nat} {st : List Value} {h : gm_H} {r : gm_R × gm_H} {lv : List Value} : gm_Go E d 111 150 lv st h r ↔ gm_Go E d 111 151 lv (.int (0 : Int32) :: st) h r := gr_pure m111 f111_150 rfl
theorem f111_151 : gm_ft 111 151 = some (.istore 7, 2) := by decide +kernel
theorem r111_151 {E : Nat → Value} {d : Nat} {st : List Value} {h : gm_H} {r : gm_R × gm_H} {a0 a1 a2 a3 a4 a5 a6 a7 a8 : Value} {x : Int32} : gm_Go E d 111 151 [a0, a1, a2, a3, a4, a5, a6, a7, a8] (.int x :: st) h r ↔ gm_Go E d 111 153 [a0, a1, a2, a3, a4, a5, gm_k a6, .int x, a8] st h r := gr_loc m111 f111_151 rfl rfl
theorem f111_153 : gm_ft 111 153 = some (.iload 7, 2) := by decide +kernel
theorem r111_153 {E : Nat → Value} {d : Nat} {st : List Value} {h : gm_H} {r : gm_R × gm_H} {a0 a1 a2 a3 a4 a5 a6 a8 : Value} {x : Int32} : gm_Go E d 111 153 [a0, a1, a2, a3, a4, a5, a6, .int x, a8] st h r ↔ gm_Go E d 111 155 [a0, a1, a2, a3, a4, a5, a6, .int x, a8] (.int x :: st) h r := gr_loc m111 f111_153 rfl rfl
theorem f111_155 : gm_ft 111 155 = some (.aload_n 0, 1) := by decide +kernel
theorem r111_155 {E : Nat → Value} {d : Nat} {st : List Value} {h : gm_H} {r : gm_R × gm_H} {a1 a2 a3 a4 a5 a6 a7 a8 : Value} {x : Nat} : gm_Go E d 111 155 [.ref x, a1, a2, a3, a4, a5, a6, a7, a8] st h r ↔ gm_Go E d 111 156 [.ref x, a1, a2, a3, a4, a5, a6, a7, a8] (.ref x :: st) h r := gr_loc m111 f111_155 rfl rfl
theorem r111_155n {E : Nat → Value} {d : Nat} {st : List Value} {h : gm_H} {r : gm_R × gm_H} {a1 a2 a3 a4 a5 a6 a7 a8 : Value}  : gm_Go E d 111 155 [.null, a1, a2, a3, a4, a5, a6, a7, a8] st h r ↔ gm_Go E d 111 156 [.null, a1, a2, a3, a4, a5, a6, a7, a8] (.null :: st) h r := gr_loc m111 f111_155 rfl rfl
theorem f111_156 : gm_ft 111 156 = some (.getfield 23, 3) := by decide +kernel
theorem r111_156 {E : Nat → Value} {d : Nat} {st : List Value} {h : gm_H} {r : gm_R × gm_H} {lv : List Value} {a : Nat} {vs : List Value} {v : Value} (hr : gm_rd h a = some (5, vs)) (hv : vs[13]? = some v) : gm_Go E d 111 156 lv (.ref a :: st) h r ↔ gm_Go E d 111 159 lv (v :: st) h r := gr_rd m111 f111_156 rfl rfl rfl rfl (gf_get k5_23 hr hv)
theorem f111_159 : gm_ft 111 159 = some (.iload 6, 2) := by decide +kernel
theorem r111_159 {E : Nat → Value} {d : Nat} {st : List Value} {h : gm_H} {r : gm_R × gm_H} {a0 a1 a2 a3 a4 a5 a7 a8 : Value} {x : Int32} : gm_Go E d 111 159 [a0, a1, a2, a3, a4, a5, .int x, a7, a8] st h r ↔ gm_Go E d 111 161 [a0, a1, a2, a3, a4, a5, .int x, a7, a8] (.int x :: st) h r := gr_loc m111 f111_159 rfl rfl
theorem f111_161 : gm_ft 111 161 = some (.iaload, 1) := by decide +kernel
theorem r111_161 {E : Nat → Value} {d : Nat} {st : List Value} {h : gm_H} {r : gm_R × gm_H} {lv : List Value} {a k j : Nat} {vs : List Value} {v : Value} (hr : gm_rd h a = some (k, vs)) (hk : 100 ≤ k ∧ (fun t => t == 0) (k % 100) = true) (hj : j < 2 ^ 31) (hv : vs[j]? = some v) : gm_Go E d 111 161 lv (.int (nI j) :: .ref a :: st) h r ↔ gm_Go E d 111 162 lv (v :: st) h r := gr_rd m111 f111_161 rfl rfl rfl rfl (ga_ld (P := fun t => t == 0) hr hk hj hv)
theorem f111_162 : gm_ft 111 162 = some (.if_icmp .ge 81, 3) := by decide +kernel
theorem r111_162 {E : Nat → Value} {d : Nat} {st : List Value} {h : gm_H} {r : gm_R × gm_H} {lv : List Value} {x y : Int32} : gm_Go E d 111 162 lv (.int y :: .int x :: st) h r ↔ (if y ≤ x then gm_Go E d 111 243 lv st h r else gm_Go E d 111 165 lv st h r) := (gr_br m111 f111_162 rfl rfl rfl rfl).trans gr_if
theorem f111_165 : gm_ft 111 165 = some (.aload_n 0, 1) := by decide +kernel
theorem r111_165 {E : Nat → Value} {d : Nat} {st : List Value} {h : gm_H} {r : gm_R × gm_H} {a1 a2 a3 a4 a5 a6 a7 a8 : Value} {x : Nat} : gm_Go E d 111 165 [.ref x, a1, a2, a3, a4, a5, a6, a7, a8] st h r ↔ gm_Go E d 111 166 [.ref x, a1, a2, a3, a4, a5, a6, a7, a8] (.ref x :: st) h r := gr_loc m111 f111_165 rfl rfl
theorem r111_165n {E : Nat → Value} {d : Nat} {st : List Value} {h : gm_H} {r : gm_R × gm_H} {a1 a2 a3 a4 a5 a6 a7 a8 : Value}  : gm_Go E d 111 165 [.null, a1, a2, a3, a4, a5, a6, a7, a8] st h r ↔ gm_Go E d 111 166 [.null, a1, a2, a3, a4, a5, a6, a7, a8] (.null :: st) h r := gr_loc m111 f111_165 rfl rfl
theorem f111_166 : gm_ft 111 166 = some (.getfield 29, 3) := by decide +kernel
theorem r111_166 {E : Nat → Value} {d : Nat} {st : List Value} {h : gm_H} {r : gm_R × gm_H} {lv : List Value} {a : Nat} {vs : List Value} {v : Value} (hr : gm_rd h a = some (5, vs)) (hv : vs[15]? = some v) : gm_Go E d 111 166 lv (.ref a :: st) h r ↔ gm_Go E d 111 169 lv (v :: st) h r := gr_rd m111 f111_166 rfl rfl rfl rfl (gf_get k5_29 hr hv)
theorem f111_169 : gm_ft 111 169 = some (.iconst 4, 1) := by decide +kernel
theorem r111_169 {E : Nat → Value} {d : Nat} {st : List Value} {h : gm_H} {r : gm_R × gm_H} {lv : List Value} : gm_Go E d 111 169 lv st h r ↔ gm_Go E d 111 170 lv (.int (4 : Int32) :: st) h r := gr_pure m111 f111_169 rfl
theorem f111_170 : gm_ft 111 170 = some (.iload 6, 2) := by decide +kernel
theorem r111_170 {E : Nat → Value} {d : Nat} {st : List Value} {h : gm_H} {r : gm_R × gm_H} {a0 a1 a2 a3 a4 a5 a7 a8 : Value} {x : Int32} : gm_Go E d 111 170 [a0, a1, a2, a3, a4, a5, .int x, a7, a8] st h r ↔ gm_Go E d 111 172 [a0, a1, a2, a3, a4, a5, .int x, a7, a8] (.int x :: st) h r := gr_loc m111 f111_170 rfl rfl
theorem f111_172 : gm_ft 111 172 = some (.imul, 1) := by decide +kernel
theorem r111_172 {E : Nat → Value} {d : Nat} {st : List Value} {h : gm_H} {r : gm_R × gm_H} {lv : List Value} {x y : Int32} : gm_Go E d 111 172 lv (.int y :: .int x :: st) h r ↔ gm_Go E d 111 173 lv (.int (x * y) :: st) h r := gr_pure m111 f111_172 rfl
theorem f111_173 : gm_ft 111 173 = some (.iload 7, 2) := by decide +kernel
theorem r111_173 {E : Nat → Value} {d : Nat} {st : List Value} {h : gm_H} {r : gm_R × gm_H} {a0 a1 a2 a3 a4 a5 a6 a8 : Value} {x : Int32} : gm_Go E d 111 173 [a0, a1, a2, a3, a4, a5, a6, .int x, a8] st h r ↔ gm_Go E d 111 175 [a0, a1, a2, a3, a4, a5, a6, .int x, a8] (.int x :: st) h r := gr_loc m111 f111_173 rfl rfl
theorem f111_175 : gm_ft 111 175 = some (.iadd, 1) := by decide +kernel
theorem r111_175 {E : Nat → Value} {d : Nat} {st : List Value} {h : gm_H} {r : gm_R × gm_H} {lv : List Value} {x y : Int32} : gm_Go E d 111 175 lv (.int y :: .int x :: st) h r ↔ gm_Go E d 111 176 lv (.int (x + y) :: st) h r := gr_pure m111 f111_175 rfl
theorem f111_176 : gm_ft 111 176 = some (.iaload, 1) := by decide +kernel
theorem r111_176 {E : Nat → Value} {d : Nat} {st : List Value} {h : gm_H} {r : gm_R × gm_H} {lv : List Value} {a k j : Nat} {vs : List Value} {v : Value} (hr : gm_rd h a = some (k, vs)) (hk : 100 ≤ k ∧ (fun t => t == 0) (k % 100) = true) (hj : j < 2 ^ 31) (hv : vs[j]? = some v) : gm_Go E d 111 176 lv (.int (nI j) :: .ref a :: st) h r ↔ gm_Go E d 111 177 lv (v :: st) h r := gr_rd m111 f111_176 rfl rfl rfl rfl (ga_ld (P := fun t => t == 0) hr hk hj hv)
theorem f111_177 : gm_ft 111 177 = some (.istore 8, 2) := by decide +kernel
theorem r111_177 {E : Nat → Value} {d : Nat} {st : List Value} {h : gm_H} {r : gm_R × gm_H} {a0 a1 a2 a3 a4 a5 a6 a7 a8 : Value} {x : Int32} : gm_Go E d 111 177 [a0, a1, a2, a3, a4, a5, a6, a7, a8] (.int x :: st) h r ↔ gm_Go E d 111 179 [a0, a1, a2, a3, a4, a5, a6, gm_k a7, .int x] st h r := gr_loc m111 f111_177 rfl rfl
theorem f111_179 : gm_ft 111 179 = some (.aload_n 0, 1) := by decide +kernel
theorem r111_179 {E : Nat → Value} {d : Nat} {st : List Value} {h : gm_H} {r : gm_R × gm_H} {a1 a2 a3 a4 a5 a6 a7 a8 : Value} {x : Nat} : gm_Go E d 111 179 [.ref x, a1, a2, a3, a4, a5, a6, a7, a8] st h r ↔ gm_Go E d 111 180 [.ref x, a1, a2, a3, a4, a5, a6, a7, a8] (.ref x :: st) h r := gr_loc m111 f111_179 rfl rfl
theorem r111_179n {E : Nat → Value} {d : Nat} {st : List Value} {h : gm_H} {r : gm_R × gm_H} {a1 a2 a3 a4 a5 a6 a7 a8 : Value}  : gm_Go E d 111 179 [.null, a1, a2, a3, a4, a5, a6, a7, a8] st h r ↔ gm_Go E d 111 180 [.null, a1, a2, a3, a4, a5, a6, a7, a8] (.null :: st) h r := gr_loc m111 f111_179 rfl rfl
theorem f111_180 : gm_ft 111 180 = some (.getfield 54, 3) := by decide +kernel
theorem r111_180 {E : Nat → Value} {d : Nat} {st : List Value} {h : gm_H} {r : gm_R × gm_H} {lv : List Value} {a : Nat} {vs : List Value} {v : Value} (hr : gm_rd h a = some (5, vs)) (hv : vs[24]? = some v) : gm_Go E d 111 180 lv (.ref a :: st) h r ↔ gm_Go E d 111 183 lv (v :: st) h r := gr_rd m111 f111_180 rfl rfl rfl rfl (gf_get k5_54 hr hv)
theorem f111_183 : gm_ft 111 183 = some (.aload_n 0, 1) := by decide +kernel
theorem r111_183 {E : Nat → Value} {d : Nat} {st : List Value} {h : gm_H} {r : gm_R × gm_H} {a1 a2 a3 a4 a5 a6 a7 a8 : Value} {x : Nat} : gm_Go E d 111 183 [.ref x, a1, a2, a3, a4, a5, a6, a7, a8] st h r ↔ gm_Go E d 111 184 [.ref x, a1, a2, a3, a4, a5, a6, a7, a8] (.ref x :: st) h r := gr_loc m111 f111_183 rfl rfl
theorem r111_183n {E : Nat → Value} {d : Nat} {st : List Value} {h : gm_H} {r : gm_R × gm_H} {a1 a2 a3 a4 a5 a6 a7 a8 : Value}  : gm_Go E d 111 183 [.null, a1, a2, a3, a4, a5, a6, a7, a8] st h r ↔ gm_Go E d 111 184 [.null, a1, a2, a3, a4, a5, a6, a7, a8] (.null :: st) h r := gr_loc m111 f111_183 rfl rfl
theorem f111_184 : gm_ft 111 184 = some (.getfield 163, 3) := by decide +kernel
theorem r111_184 {E : Nat → Value} {d : Nat} {st : List Value} {h : gm_H} {r : gm_R × gm_H} {lv : List Value} {a : Nat} {vs : List Value} {v : Value} (hr : gm_rd h a = some (5, vs)) (hv : vs[25]? = some v) : gm_Go E d 111 184 lv (.ref a :: st) h r ↔ gm_Go E d 111 187 lv (v :: st) h r := gr_rd m111 f111_184 rfl rfl rfl rfl (gf_get k5_163 hr hv)
theorem f111_187 : gm_ft 111 187 = some (.aload_n 0, 1) := by decide +kernel
theorem r111_187 {E : Nat → Value} {d : Nat} {st : List Value} {h : gm_H} {r : gm_R × gm_H} {a1 a2 a3 a4 a5 a6 a7 a8 : Value} {x : Nat} : gm_Go E d 111 187 [.ref x, a1, a2, a3, a4, a5, a6, a7, a8] st h r ↔ gm_Go E d 111 188 [.ref x, a1, a2, a3, a4, a5, a6, a7, a8] (.ref x :: st) h r := gr_loc m111 f111_187 rfl rfl
theorem r111_187n {E : Nat → Value} {d : Nat} {st : List Value} {h : gm_H} {r : gm_R × gm_H} {a1 a2 a3 a4 a5 a6 a7 a8 : Value}  : gm_Go E d 111 187 [.null, a1, a2, a3, a4, a5, a6, a7, a8] st h r ↔ gm_Go E d 111 188 [.null, a1, a2, a3, a4, a5, a6, a7, a8] (.null :: st) h r := gr_loc m111 f111_187 rfl rfl
theorem f111_188 : gm_ft 111 188 = some (.iload 6, 2) := by decide +kernel
theorem r111_188 {E : Nat → Value} {d : Nat} {st : List Value} {h : gm_H} {r : gm_R × gm_H} {a0 a1 a2 a3 a4 a5 a7 a8 : Value} {x : Int32} : gm_Go E d 111 188 [a0, a1, a2, a3, a4, a5, .int x, a7, a8] st h r ↔ gm_Go E d 111 190 [a0, a1, a2, a3, a4, a5, .int x, a7, a8] (.int x :: st) h r := gr_loc m111 f111_188 rfl rfl
theorem f111_190 : gm_ft 111 190 = some (.invokevirtual 208, 3) := by decide +kernel
theorem n111_190 {st : List Value} {h : gm_H} {E : Nat → Value} {lv : List Value} {b0 : Value} {a : Nat} (hs : (st.map fun v => v.category).sum ≤ 8) (he : (gm_en1 [.ref a, b0]).length ≤ 4) {vs : List Value} (hr : gm_rd h a = some (5, vs)) : gm_next E 111 190 lv (b0 :: .ref a :: st) h = some (.inr (.inl (0, 113, [.ref a, b0], st))) := gn_call m111 f111_190 rfl rfl rfl rfl rfl rfl rfl (gc_virt (bs := [b0]) (w := 905) rfl rfl rfl rfl hs he hr) (by decide)
theorem f111_193 : gm_ft 111 193 = some (.iadd, 1) := by decide +kernel
theorem r111_193 {E : Nat → Value} {d : Nat} {st : List Value} {h : gm_H} {r : gm_R × gm_H} {lv : List Value} {x y : Int32} : gm_Go E d 111 193 lv (.int y :: .int x :: st) h r ↔ gm_Go E d 111 194 lv (.int (x + y) :: st) h r := gr_pure m111 f111_193 rfl
theorem f111_194 : gm_ft 111 194 = some (.iload 7, 2) := by decide +kernel
theorem r111_194 {E : Nat → Value} {d : Nat} {st : List Value} {h : gm_H} {r : gm_R × gm_H} {a0 a1 a2 a3 a4 a5 a6 a8 : Value} {x : Int32} : gm_Go E d 111 194 [a0, a1, a2, a3, a4, a5, a6, .int x, a8] st h r ↔ gm_Go E d 111 196 [a0, a1, a2, a3, a4, a5, a6, .int x, a8] (.int x :: st) h r := gr_loc m111 f111_194 rfl rfl
theorem f111_196 : gm_ft 111 196 = some (.iadd, 1) := by decide +kernel
theorem r111_196 {E : Nat → Value} {d : Nat} {st : List Value} {h : gm_H} {r : gm_R × gm_H} {lv : List Value} {x y : Int32} : gm_Go E d 111 196 lv (.int y :: .int x :: st) h r ↔ gm_Go E d 111 197 lv (.int (x + y) :: st) h r := gr_pure m111 f111_196 rfl
theorem f111_197 : gm_ft 111 197 = some (.iload 8, 2) := by decide +kernel
theorem r111_197 {E : Nat → Value} {d : Nat} {st : List Value} {h : gm_H} {r : gm_R × gm_H} {a0 a1 a2 a3 a4 a5 a6 a7 : Value} {x : Int32} : gm_Go E d 111 197 [a0, a1, a2, a3, a4, a5, a6, a7, .int x] st h r ↔ gm_Go E d 111 199 [a0, a1, a2, a3, a4, a5, a6, a7, .int x] (.int x :: st) h r := gr_loc m111 f111_197 rfl rfl
theorem f111_199 : gm_ft 111 199 = some (.iconst 5, 1) := by decide +kernel
theorem r111_199 {E : Nat → Value} {d : Nat} {st : List Value} {h : gm_H} {r : gm_R × gm_H} {lv : List Value} : gm_Go E d 111 199 lv st h r ↔ gm_Go E d 111 200 lv (.int (5 : Int32) :: st) h r := gr_pure m111 f111_199 rfl
theorem f111_200 : gm_ft 111 200 = some (.if_icmp .le 9, 3) := by decide +kernel
theorem r111_200 {E : Nat → Value} {d : Nat} {st : List Value} {h : gm_H} {r : gm_R × gm_H} {lv : List Value} {x y : Int32} : gm_Go E d 111 200 lv (.int y :: .int x :: st) h r ↔ (if x ≤ y then gm_Go E d 111 209 lv st h r else gm_Go E d 111 203 lv st h r) := (gr_br m111 f111_200 rfl rfl rfl rfl).trans gr_if
theorem f111_203 : gm_ft 111 203 = some (.ldc2_w 212, 3) := by decide +kernel
theorem r111_203 {E : Nat → Value} {d : Nat} {st : List Value} {h : gm_H} {r : gm_R × gm_H} {lv : List Value} : gm_Go E d 111 203 lv st h r ↔ gm_Go E d 111 206 lv (.long (-2 : Int64) :: st) h r := gr_rd m111 f111_203 rfl rfl rfl rfl rfl
theorem f111_206 : gm_ft 111 206 = some (.goto 30, 3) := by decide +kernel
theorem r111_206 {E : Nat → Value} {d : Nat} {st : List Value} {h : gm_H} {r : gm_R × gm_H} {lv : List Value} : gm_Go E d 111 206 lv st h r ↔ gm_Go E d 111 236 lv st h r := gr_brT m111 f111_206 rfl rfl rfl rfl
theorem f111_209 : gm_ft 111 209 = some (.aload_n 0, 1) := by decide +kernel
theorem r111_209 {E : Nat → Value} {d : Nat} {st : List Value} {h : gm_H} {r : gm_R × gm_H} {a1 a2 a3 a4 a5 a6 a7 a8 : Value} {x : Nat} : gm_Go E d 111 209 [.ref x, a1, a2, a3, a4, a5, a6, a7, a8] st h r ↔ gm_Go E d 111 210 [.ref x, a1, a2, a3, a4, a5, a6, a7, a8] (.ref x :: st) h r := gr_loc m111 f111_209 rfl rfl
theorem r111_209n {E : Nat → Value} {d : Nat} {st : List Value} {h : gm_H} {r : gm_R × gm_H} {a1 a2 a3 a4 a5 a6 a7 a8 : Value}  : gm_Go E d 111 209 [.null, a1, a2, a3, a4, a5, a6, a7, a8] st h r ↔ gm_Go E d 111 210 [.null, a1, a2, a3, a4, a5, a6, a7, a8] (.null :: st) h r := gr_loc m111 f111_209 rfl rfl
theorem f111_210 : gm_ft 111 210 = some (.getfield 13, 3) := by decide +kernel
theorem r111_210 {E : Nat → Value} {d : Nat} {st : List Value} {h : gm_H} {r : gm_R × gm_H} {lv : List Value} {a : Nat} {vs : List Value} {v : Value} (hr : gm_rd h a = some (5, vs)) (hv : vs[10]? = some v) : gm_Go E d 111 210 lv (.ref a :: st) h r ↔ gm_Go E d 111 213 lv (v :: st) h r := gr_rd m111 f111_210 rfl rfl rfl rfl (gf_get k5_13 hr hv)
theorem f111_213 : gm_ft 111 213 = some (.iload 6, 2) := by decide +kernel
theorem r111_213 {E : Nat → Value} {d : Nat} {st : List Value} {h : gm_H} {r : gm_R × gm_H} {a0 a1 a2 a3 a4 a5 a7 a8 : Value} {x : Int32} : gm_Go E d 111 213 [a0, a1, a2, a3, a4, a5, .int x, a7, a8] st h r ↔ gm_Go E d 111 215 [a0, a1, a2, a3, a4, a5, .int x, a7, a8] (.int x :: st) h r := gr_loc m111 f111_213 rfl rfl
theorem f111_215 : gm_ft 111 215 = some (.iaload, 1) := by decide +kernel
theorem r111_215 {E : Nat → Value} {d : Nat} {st : List Value} {h : gm_H} {r : gm_R × gm_H} {lv : List Value} {a k j : Nat} {vs : List Value} {v : Value} (hr : gm_rd h a = some (k, vs)) (hk : 100 ≤ k ∧ (fun t => t == 0) (k % 100) = true) (hj : j < 2 ^ 31) (hv : vs[j]? = some v) : gm_Go E d 111 215 lv (.int (nI j) :: .ref a :: st) h r ↔ gm_Go E d 111 216 lv (v :: st) h r := gr_rd m111 f111_215 rfl rfl rfl rfl (ga_ld (P := fun t => t == 0) hr hk hj hv)
theorem f111_216 : gm_ft 111 216 = some (.ifCond .eq 7, 3) := by decide +kernel
theorem r111_216 {E : Nat → Value} {d : Nat} {st : List Value} {h : gm_H} {r : gm_R × gm_H} {lv : List Value} {x : Int32} : gm_Go E d 111 216 lv (.int x :: st) h r ↔ (if x = 0 then gm_Go E d 111 223 lv st h r else gm_Go E d 111 219 lv st h r) := (gr_br m111 f111_216 rfl rfl rfl rfl).trans gr_if
theorem f111_219 : gm_ft 111 219 = some (.lconst 0, 1) := by decide +kernel
theorem r111_219 {E : Nat → Value} {d : Nat} {st : List Value} {h : gm_H} {r : gm_R × gm_H} {lv : List Value} : gm_Go E d 111 219 lv st h r ↔ gm_Go E d 111 220 lv (.long 0 :: st) h r := gr_pure m111 f111_219 rfl
theorem f111_220 : gm_ft 111 220 = some (.goto 16, 3) := by decide +kernel
theorem r111_220 {E : Nat → Value} {d : Nat} {st : List Value} {h : gm_H} {r : gm_R × gm_H} {lv : List Value} : gm_Go E d 111 220 lv st h r ↔ gm_Go E d 111 236 lv st h r := gr_brT m111 f111_220 rfl rfl rfl rfl
theorem f111_223 : gm_ft 111 223 = some (.iload 8, 2) := by decide +kernel
theorem r111_223 {E : Nat → Value} {d : Nat} {st : List Value} {h : gm_H} {r : gm_R × gm_H} {a0 a1 a2 a3 a4 a5 a6 a7 : Value} {x : Int32} : gm_Go E d 111 223 [a0, a1, a2, a3, a4, a5, a6, a7, .int x] st h r ↔ gm_Go E d 111 225 [a0, a1, a2, a3, a4, a5, a6, a7, .int x] (.int x :: st) h r := gr_loc m111 f111_223 rfl rfl
theorem f111_225 : gm_ft 111 225 = some (.iconst 5, 1) := by decide +kernel
theorem r111_225 {E : Nat → Value} {d : Nat} {st : List Value} {h : gm_H} {r : gm_R × gm_H} {lv : List Value} : gm_Go E d 111 225 lv st h r ↔ gm_Go E d 111 226 lv (.int (5 : Int32) :: st) h r := gr_pure m111 f111_225 rfl
theorem f111_226 : gm_ft 111 226 = some (.if_icmp .ne 7, 3) := by decide +kernel
theorem r111_226 {E : Nat → Value} {d : Nat} {st : List Value} {h : gm_H} {r : gm_R × gm_H} {lv : List Value} {x y : Int32} : gm_Go E d 111 226 lv (.int y :: .int x :: st) h r ↔ (if x = y then gm_Go E d 111 229 lv st h r else gm_Go E d 111 233 lv st h r) := (gr_br m111 f111_226 rfl rfl rfl rfl).trans gr_ifn
theorem f111_229 : gm_ft 111 229 = some (.lconst 1, 1) := by decide +kernel
theorem r111_229 {E : Nat → Value} {d : Nat} {st : List Value} {h : gm_H} {r : gm_R × gm_H} {lv : List Value} : gm_Go E d 111 229 lv st h r ↔ gm_Go E d 111 230 lv (.long 1 :: st) h r := gr_pure m111 f111_229 rfl
theorem f111_230 : gm_ft 111 230 = some (.goto 6, 3) := by decide +kernel
theorem r111_230 {E : Nat → Value} {d : Nat} {st : List Value} {h : gm_H} {r : gm_R × gm_H} {lv : List Value} : gm_Go E d 111 230 lv st h r ↔ gm_Go E d 111 236 lv st h r := gr_brT m111 f111_230 rfl rfl rfl rfl
theorem f111_233 : gm_ft 111 233 = some (.ldc2_w 214, 3) := by decide +kernel
theorem r111_233 {E : Nat → Value} {d : Nat} {st : List Value} {h : gm_H} {r : gm_R × gm_H} {lv : List Value} : gm_Go E d 111 233 lv st h r ↔ gm_Go E d 111 236 lv (.long (7 : Int64) :: st) h r := gr_rd m111 f111_233 rfl rfl rfl rfl rfl
theorem f111_236 : gm_ft 111 236 = some (.lastore, 1) := by decide +kernel
theorem r111_236 {E : Nat → Value} {d : Nat} {st : List Value} {h : gm_H} {r : gm_R × gm_H} {lv : List Value} {a k j : Nat} {vs : List Value} {x : Int64} (hr : gm_rd h a = some (k, vs)) (hk : 100 ≤ k ∧ k % 100 = 1 ∧ gm_ko k = 2 ∧ 2 < 3) (hj : j < 2 ^ 31) (hl : j < vs.length) : gm_Go E d 111 236 lv (.long x :: .int (nI j) :: .ref a :: st) h r ↔ gm_Go E d 111 237 lv st (gm_wr h a (k, vs.set j (.long x))) r := gr_wr m111 f111_236 rfl rfl rfl rfl rfl (ga_st hr hk hj hl)
theorem f111_237 : gm_ft 111 237 = some (.iinc 7 1, 3) := by decide +kernel
theorem r111_237 {E : Nat → Value} {d : Nat} {st : List Value} {h : gm_H} {r : gm_R × gm_H} {a0 a1 a2 a3 a4 a5 a6 a8 : Value} {x : Int32} : gm_Go E d 111 237 [a0, a1, a2, a3, a4, a5, a6, .int x, a8] st h r ↔ gm_Go E d 111 240 [a0, a1, a2, a3, a4, a5, gm_k a6, .int (x + (1 : Int32)), a8] st h r := gr_loc m111 f111_237 rfl rfl
theorem f111_240 : gm_ft 111 240 = some (.goto (-87), 3) := by decide +kernel
theorem r111_240 {E : Nat → Value} {d : Nat} {st : List Value} {h : gm_H} {r : gm_R × gm_H} {lv : List Value} : gm_Go E d 111 240 lv st h r ↔ gm_Go E d 111 153 lv st h r := gr_brT m111 f111_240 rfl rfl rfl rfl
theorem f111_243 : gm_ft 111 243 = some (.aload_n 0, 1) := by decide +kernel
theorem r111_243 {E : Nat → Value} {d : Nat} {st : List Value} {h : gm_H} {r : gm_R × gm_H} {a1 a2 a3 a4 a5 a6 a7 a8 : Value} {x : Nat} : gm_Go E d 111 243 [.ref x, a1, a2, a3, a4, a5, a6, a7, a8] st h r ↔ gm_Go E d 111 244 [.ref x, a1, a2, a3, a4, a5, a6, a7, a8] (.ref x :: st) h r := gr_loc m111 f111_243 rfl rfl
theorem r111_243n {E : Nat → Value} {d : Nat} {st : List Value} {h : gm_H} {r : gm_R × gm_H} {a1 a2 a3 a4 a5 a6 a7 a8 : Value}  : gm_Go E d 111 243 [.null, a1, a2, a3, a4, a5, a6, a7, a8] st h r ↔ gm_Go E d 111 244 [.null, a1, a2, a3, a4, a5, a6, a7, a8] (.null :: st) h r := gr_loc m111 f111_243 rfl rfl
theorem f111_244 : gm_ft 111 244 = some (.getfield 20, 3) := by decide +kernel
theorem r111_244 {E : Nat → Value} {d : Nat} {st : List Value} {h : gm_H} {r : gm_R × gm_H} {lv : List Value} {a : Nat} {vs : List Value} {v : Value} (hr : gm_rd h a = some (5, vs)) (hv : vs[12]? = some v) : gm_Go E d 111 244 lv (.ref a :: st) h r ↔ gm_Go E d 111 247 lv (v :: st) h r := gr_rd m111 f111_244 rfl rfl rfl rfl (gf_get k5_20 hr hv)
theorem f111_247 : gm_ft 111 247 = some (.iload 6, 2) := by decide +kernel
theorem r111_247 {E : Nat → Value} {d : Nat} {st : List Value} {h : gm_H} {r : gm_R × gm_H} {a0 a1 a2 a3 a4 a5 a7 a8 : Value} {x : Int32} : gm_Go E d 111 247 [a0, a1, a2, a3, a4, a5, .int x, a7, a8] st h r ↔ gm_Go E d 111 249 [a0, a1, a2, a3, a4, a5, .int x, a7, a8] (.int x :: st) h r := gr_loc m111 f111_247 rfl rfl
theorem f111_249 : gm_ft 111 249 = some (.iaload, 1) := by decide +kernel
theorem r111_249 {E : Nat → Value} {d : Nat} {st : List Value} {h : gm_H} {r : gm_R × gm_H} {lv : List Value} {a k j : Nat} {vs : List Value} {v : Value} (hr : gm_rd h a = some (k, vs)) (hk : 100 ≤ k ∧ (fun t => t == 0) (k % 100) = true) (hj : j < 2 ^ 31) (hv : vs[j]? = some v) : gm_Go E d 111 249 lv (.int (nI j) :: .ref a :: st) h r ↔ gm_Go E d 111 250 lv (v :: st) h r := gr_rd m111 f111_249 rfl rfl rfl rfl (ga_ld (P := fun t => t == 0) hr hk hj hv)
theorem f111_250 : gm_ft 111 250 = some (.istore 6, 2) := by decide +kernel
theorem r111_250 {E : Nat → Value} {d : Nat} {st : List Value} {h : gm_H} {r : gm_R × gm_H} {a0 a1 a2 a3 a4 a5 a6 a7 a8 : Value} {x : Int32} : gm_Go E d 111 250 [a0, a1, a2, a3, a4, a5, a6, a7, a8] (.int x :: st) h r ↔ gm_Go E d 111 252 [a0, a1, a2, a3, a4, gm_k a5, .int x, a7, a8] st h r := gr_loc m111 f111_250 rfl rfl
theorem f111_252 : gm_ft 111 252 = some (.goto (-107), 3) := by decide +kernel
theorem r111_252 {E : Nat → Value} {d : Nat} {st : List Value} {h : gm_H} {r : gm_R × gm_H} {lv : List Value} : gm_Go E d 111 252 lv st h r ↔ gm_Go E d 111 145 lv st h r := gr_brT m111 f111_252 rfl rfl rfl rfl
theorem f111_255 : gm_ft 111 255 = some (.aload_n 0, 1) := by decide +kernel
theorem r111_255 {E : Nat → Value} {d : Nat} {st : List Value} {h : gm_H} {r : gm_R × gm_H} {a1 a2 a3 a4 a5 a6 a7 a8 : Value} {x : Nat} : gm_Go E d 111 255 [.ref x, a1, a2, a3, a4, a5, a6, a7, a8] st h r ↔ gm_Go E d 111 256 [.ref x, a1, a2, a3, a4, a5, a6, a7, a8] (.ref x :: st) h r := gr_loc m111 f111_255 rfl rfl
theorem r111_255n {E : Nat → Value} {d : Nat} {st : List Value} {h : gm_H} {r : gm_R × gm_H} {a1 a2 a3 a4 a5 a6 a7 a8 : Value}  : gm_Go E d 111 255 [.null, a1, a2, a3, a4, a5, a6, a7, a8] st h r ↔ gm_Go E d 111 256 [.null, a1, a2, a3, a4, a5, a6, a7, a8] (.null :: st) h r := gr_loc m111 f111_255 rfl rfl
theorem f111_256 : gm_ft 111 256 = some (.dup, 1) := by decide +kernel
theorem r111_256 {E : Nat → Value} {d : Nat} {st : List Value} {h : gm_H} {r : gm_R × gm_H} {lv : List Value} {a : Nat} : gm_Go E d 111 256 lv (.ref a :: st) h r ↔ gm_Go E d 111 257 lv (.ref a :: .ref a :: st) h r := gr_pure m111 f111_256 rfl
theorem r111_256i {E : Nat → Value} {d : Nat} {st : List Value} {h : gm_H} {r : gm_R × gm_H} {lv : List Value} {x : Int32} : gm_Go E d 111 256 lv (.int x :: st) h r ↔ gm_Go E d 111 257 lv (.int x :: .int x :: st) h r := gr_pure m111 f111_256 rfl
theorem f111_257 : gm_ft 111 257 = some (.getfield 163, 3) := by decide +kernel
theorem r111_257 {E : Nat → Value} {d : Nat} {st : List Value} {h : gm_H} {r : gm_R × gm_H} {lv : List Value} {a : Nat} {vs : List Value} {v : Value} (hr : gm_rd h a = some (5, vs)) (hv : vs[25]? = some v) : gm_Go E d 111 257 lv (.ref a :: st) h r ↔ gm_Go E d 111 260 lv (v :: st) h r := gr_rd m111 f111_257 rfl rfl rfl rfl (gf_get k5_163 hr hv)
theorem f111_260 : gm_ft 111 260 = some (.iload 4, 2) := by decide +kernel
theorem r111_260 {E : Nat → Value} {d : Nat} {st : List Value} {h : gm_H} {r : gm_R × gm_H} {a0 a1 a2 a3 a5 a6 a7 a8 : Value} {x : Int32} : gm_Go E d 111 260 [a0, a1, a2, a3, .int x, a5, a6, a7, a8] st h r ↔ gm_Go E d 111 262 [a0, a1, a2, a3, .int x, a5, a6, a7, a8] (.int x :: st) h r := gr_loc m111 f111_260 rfl rfl
theorem f111_262 : gm_ft 111 262 = some (.iadd, 1) := by decide +kernel
theorem r111_262 {E : Nat → Value} {d : Nat} {st : List Value} {h : gm_H} {r : gm_R × gm_H} {lv : List Value} {x y : Int32} : gm_Go E d 111 262 lv (.int y :: .int x :: st) h r ↔ gm_Go E d 111 263 lv (.int (x + y) :: st) h r := gr_pure m111 f111_262 rfl
theorem f111_263 : gm_ft 111 263 = some (.putfield 163, 3) := by decide +kernel
theorem r111_263 {E : Nat → Value} {d : Nat} {st : List Value} {h : gm_H} {r : gm_R × gm_H} {lv : List Value} {a : Nat} {vs : List Value} {v : Value} (hr : gm_rd h a = some (5, vs)) (hk : 25 < vs.length) (hn : narrow (gm_ty 5 25) v = v ∧ fits (gm_ty 5 25) v = true) : gm_Go E d 111 263 lv (v :: .ref a :: st) h r ↔ gm_Go E d 111 266 lv st (gm_wr h a (5, vs.set 25 v)) r := gr_wr m111 f111_263 rfl rfl rfl rfl rfl (gf_put k5_163 hr (by decide) hk hn (by decide))
theorem f111_266 : gm_ft 111 266 = some (.aload_n 0, 1) := by decide +kernel
theorem r111_266 {E : Nat → Value} {d : Nat} {st : List Value} {h : gm_H} {r : gm_R × gm_H} {a1 a2 a3 a4 a5 a6 a7 a8 : Value} {x : Nat} : gm_Go E d 111 266 [.ref x, a1, a2, a3, a4, a5, a6, a7, a8] st h r ↔ gm_Go E d 111 267 [.ref x, a1, a2, a3, a4, a5, a6, a7, a8] (.ref x :: st) h r := gr_loc m111 f111_266 rfl rfl
theorem r111_266n {E : Nat → Value} {d : Nat} {st : List Value} {h : gm_H} {r : gm_R × gm_H} {a1 a2 a3 a4 a5 a6 a7 a8 : Value}  : gm_Go E d 111 266 [.null, a1, a2, a3, a4, a5, a6, a7, a8] st h r ↔ gm_Go E d 111 267 [.null, a1, a2, a3, a4, a5, a6, a7, a8] (.null :: st) h r := gr_loc m111 f111_266 rfl rfl
theorem f111_267 : gm_ft 111 267 = some (.getfield 102, 3) := by decide +kernel
theorem r111_267 {E : Nat → Value} {d : Nat} {st : List Value} {h : gm_H} {r : gm_R × gm_H} {lv : List Value} {a : Nat} {vs : List Value} {v : Value} (hr : gm_rd h a = some (5, vs)) (hv : vs[43]? = some v) : gm_Go E d 111 267 lv (.ref a :: st) h r ↔ gm_Go E d 111 270 lv (v :: st) h r := gr_rd m111 f111_267 rfl rfl rfl rfl (gf_get k5_102 hr hv)
theorem f111_270 : gm_ft 111 270 = some (.iload_n 1, 1) := by decide +kernel
theorem r111_270 {E : Nat → Value} {d : Nat} {st : List Value} {h : gm_H} {r : gm_R × gm_H} {a0 a2 a3 a4 a5 a6 a7 a8 : Value} {x : Int32} : gm_Go E d 111 270 [a0, .int x, a2, a3, a4, a5, a6, a7, a8] st h r ↔ gm_Go E d 111 271 [a0, .int x, a2, a3, a4, a5, a6, a7, a8] (.int x :: st) h r := gr_loc m111 f111_270 rfl rfl
theorem f111_271 : gm_ft 111 271 = some (.iload 5, 2) := by decide +kernel
theorem r111_271 {E : Nat → Value} {d : Nat} {st : List Value} {h : gm_H} {r : gm_R × gm_H} {a0 a1 a2 a3 a4 a6 a7 a8 : Value} {x : Int32} : gm_Go E d 111 271 [a0, a1, a2, a3, a4, .int x, a6, a7, a8] st h r ↔ gm_Go E d 111 273 [a0, a1, a2, a3, a4, .int x, a6, a7, a8] (.int x :: st) h r := gr_loc m111 f111_271 rfl rfl
theorem f111_273 : gm_ft 111 273 = some (.iastore, 1) := by decide +kernel
theorem r111_273 {E : Nat → Value} {d : Nat} {st : List Value} {h : gm_H} {r : gm_R × gm_H} {lv : List Value} {a k j : Nat} {vs : List Value} {x : Int32} (hr : gm_rd h a = some (k, vs)) (hk : 100 ≤ k ∧ k % 100 = 0 ∧ gm_ko k = 2 ∧ 2 < 3) (hj : j < 2 ^ 31) (hl : j < vs.length) : gm_Go E d 111 273 lv (.int x :: .int (nI j) :: .ref a :: st) h r ↔ gm_Go E d 111 274 lv st (gm_wr h a (k, vs.set j (.int x))) r := gr_wr m111 f111_273 rfl rfl rfl rfl rfl (ga_st hr hk hj hl)
theorem f111_274 : gm_ft 111 274 = some (.aload_n 0, 1) := by decide +kernel
theorem r111_274 {E : Nat → Value} {d : Nat} {st : List Value} {h : gm_H} {r : gm_R × gm_H} {a1 a2 a3 a4 a5 a6 a7 a8 : Value} {x : Nat} : gm_Go E d 111 274 [.ref x, a1, a2, a3, a4, a5, a6, a7, a8] st h r ↔ gm_Go E d 111 275 [.ref x, a1, a2, a3, a4, a5, a6, a7, a8] (.ref x :: st) h r := gr_loc m111 f111_274 rfl rfl
theorem r111_274n {E : Nat → Value} {d : Nat} {st : List Value} {h : gm_H} {r : gm_R × gm_H} {a1 a2 a3 a4 a5 a6 a7 a8 : Value}  : gm_Go E d 111 274 [.null, a1, a2, a3, a4, a5, a6, a7, a8] st h r ↔ gm_Go E d 111 275 [.null, a1, a2, a3, a4, a5, a6, a7, a8] (.null :: st) h r := gr_loc m111 f111_274 rfl rfl
theorem f111_275 : gm_ft 111 275 = some (.getfield 105, 3) := by decide +kernel
theorem r111_275 {E : Nat → Value} {d : Nat} {st : List Value} {h : gm_H} {r : gm_R × gm_H} {lv : List Value} {a : Nat} {vs : List Value} {v : Value} (hr : gm_rd h a = some (5, vs)) (hv : vs[44]? = some v) : gm_Go E d 111 275 lv (.ref a :: st) h r ↔ gm_Go E d 111 278 lv (v :: st) h r := gr_rd m111 f111_275 rfl rfl rfl rfl (gf_get k5_105 hr hv)
theorem f111_278 : gm_ft 111 278 = some (.iload_n 1, 1) := by decide +kernel
theorem r111_278 {E : Nat → Value} {d : Nat} {st : List Value} {h : gm_H} {r : gm_R × gm_H} {a0 a2 a3 a4 a5 a6 a7 a8 : Value} {x : Int32} : gm_Go E d 111 278 [a0, .int x, a2, a3, a4, a5, a6, a7, a8] st h r ↔ gm_Go E d 111 279 [a0, .int x, a2, a3, a4, a5, a6, a7, a8] (.int x :: st) h r := gr_loc m111 f111_278 rfl rfl
theorem f111_279 : gm_ft 111 279 = some (.aload_n 0, 1) := by decide +kernel
theorem r111_279 {E : Nat → Value} {d : Nat} {st : List Value} {h : gm_H} {r : gm_R × gm_H} {a1 a2 a3 a4 a5 a6 a7 a8 : Value} {x : Nat} : gm_Go E d 111 279 [.ref x, a1, a2, a3, a4, a5, a6, a7, a8] st h r ↔ gm_Go E d 111 280 [.ref x, a1, a2, a3, a4, a5, a6, a7, a8] (.ref x :: st) h r := gr_loc m111 f111_279 rfl rfl
theorem r111_279n {E : Nat → Value} {d : Nat} {st : List Value} {h : gm_H} {r : gm_R × gm_H} {a1 a2 a3 a4 a5 a6 a7 a8 : Value}  : gm_Go E d 111 279 [.null, a1, a2, a3, a4, a5, a6, a7, a8] st h r ↔ gm_Go E d 111 280 [.null, a1, a2, a3, a4, a5, a6, a7, a8] (.null :: st) h r := gr_loc m111 f111_279 rfl rfl
theorem f111_280 : gm_ft 111 280 = some (.aload_n 0, 1) := by decide +kernel
theorem r111_280 {E : Nat → Value} {d : Nat} {st : List Value} {h : gm_H} {r : gm_R × gm_H} {a1 a2 a3 a4 a5 a6 a7 a8 : Value} {x : Nat} : gm_Go E d 111 280 [.ref x, a1, a2, a3, a4, a5, a6, a7, a8] st h r ↔ gm_Go E d 111 281 [.ref x, a1, a2, a3, a4, a5, a6, a7, a8] (.ref x :: st) h r := gr_loc m111 f111_280 rfl rfl
theorem r111_280n {E : Nat → Value} {d : Nat} {st : List Value} {h : gm_H} {r : gm_R × gm_H} {a1 a2 a3 a4 a5 a6 a7 a8 : Value}  : gm_Go E d 111 280 [.null, a1, a2, a3, a4, a5, a6, a7, a8] st h r ↔ gm_Go E d 111 281 [.null, a1, a2, a3, a4, a5, a6, a7, a8] (.null :: st) h r := gr_loc m111 f111_280 rfl rfl
theorem f111_281 : gm_ft 111 281 = some (.getfield 13, 3) := by decide +kernel
theorem r111_281 {E : Nat → Value} {d : Nat} {st : List Value} {h : gm_H} {r : gm_R × gm_H} {lv : List Value} {a : Nat} {vs : List Value} {v : Value} (hr : gm_rd h a = some (5, vs)) (hv : vs[10]? = some v) : gm_Go E d 111 281 lv (.ref a :: st) h r ↔ gm_Go E d 111 284 lv (v :: st) h r := gr_rd m111 f111_281 rfl rfl rfl rfl (gf_get k5_13 hr hv)
theorem f111_284 : gm_ft 111 284 = some (.iload_n 3, 1) := by decide +kernel
theorem r111_284 {E : Nat → Value} {d : Nat} {st : List Value} {h : gm_H} {r : gm_R × gm_H} {a0 a1 a2 a4 a5 a6 a7 a8 : Value} {x : Int32} : gm_Go E d 111 284 [a0, a1, a2, .int x, a4, a5, a6, a7, a8] st h r ↔ gm_Go E d 111 285 [a0, a1, a2, .int x, a4, a5, a6, a7, a8] (.int x :: st) h r := gr_loc m111 f111_284 rfl rfl
theorem f111_285 : gm_ft 111 285 = some (.iaload, 1) := by decide +kernel
theorem r111_285 {E : Nat → Value} {d : Nat} {st : List Value} {h : gm_H} {r : gm_R × gm_H} {lv : List Value} {a k j : Nat} {vs : List Value} {v : Value} (hr : gm_rd h a = some (k, vs)) (hk : 100 ≤ k ∧ (fun t => t == 0) (k % 100) = true) (hj : j < 2 ^ 31) (hv : vs[j]? = some v) : gm_Go E d 111 285 lv (.int (nI j) :: .ref a :: st) h r ↔ gm_Go E d 111 286 lv (v :: st) h r := gr_rd m111 f111_285 rfl rfl rfl rfl (ga_ld (P := fun t => t == 0) hr hk hj hv)
theorem f111_286 : gm_ft 111 286 = some (.iconst 4, 1) := by decide +kernel
theorem r111_286 {E : Nat → Value} {d : Nat} {st : List Value} {h : gm_H} {r : gm_R × gm_H} {lv : List Value} : gm_Go E d 111 286 lv st h r ↔ gm_Go E d 111 287 lv (.int (4 : Int32) :: st) h r := gr_pure m111 f111_286 rfl
theorem f111_287 : gm_ft 111 287 = some (.if_icmp .ne 7, 3) := by decide +kernel
theorem r111_287 {E : Nat → Value} {d : Nat} {st : List Value} {h : gm_H} {r : gm_R × gm_H} {lv : List Value} {x y : Int32} : gm_Go E d 111 287 lv (.int y :: .int x :: st) h r ↔ (if x = y then gm_Go E d 111 290 lv st h r else gm_Go E d 111 294 lv st h r) := (gr_br m111 f111_287 rfl rfl rfl rfl).trans gr_ifn
theorem f111_290 : gm_ft 111 290 = some (.iconst 3, 1) := by decide +kernel
theorem r111_290 {E : Nat → Value} {d : Nat} {st : List Value} {h : gm_H} {r : gm_R × gm_H} {lv : List Value} : gm_Go E d 111 290 lv st h r ↔ gm_Go E d 111 291 lv (.int (3 : Int32) :: st) h r := gr_pure m111 f111_290 rfl
theorem f111_291 : gm_ft 111 291 = some (.goto 4, 3) := by decide +kernel
theorem r111_291 {E : Nat → Value} {d : Nat} {st : List Value} {h : gm_H} {r : gm_R × gm_H} {lv : List Value} : gm_Go E d 111 291 lv st h r ↔ gm_Go E d 111 295 lv st h r := gr_brT m111 f111_291 rfl rfl rfl rfl
theorem f111_294 : gm_ft 111 294 = some (.iconst 2, 1) := by decide +kernel
theorem r111_294 {E : Nat → Value} {d : Nat} {st : List Value} {h : gm_H} {r : gm_R × gm_H} {lv : List Value} : gm_Go E d 111 294 lv st h r ↔ gm_Go E d 111 295 lv (.int (2 : Int32) :: st) h r := gr_pure m111 f111_294 rfl
theorem f111_295 : gm_ft 111 295 = some (.iload 5, 2) := by decide +kernel
theorem r111_295 {E : Nat → Value} {d : Nat} {st : List Value} {h : gm_H} {r : gm_R × gm_H} {a0 a1 a2 a3 a4 a6 a7 a8 : Value} {x : Int32} : gm_Go E d 111 295 [a0, a1, a2, a3, a4, .int x, a6, a7, a8] st h r ↔ gm_Go E d 111 297 [a0, a1, a2, a3, a4, .int x, a6, a7, a8] (.int x :: st) h r := gr_loc m111 f111_295 rfl rfl
theorem f111_297 : gm_ft 111 297 = some (.invokevirtual 189, 3) := by decide +kernel
theorem n111_297 {st : List Value} {h : gm_H} {E : Nat → Value} {lv : List Value} {b0 b1 : Value} {a : Nat} (hs : (st.map fun v => v.category).sum ≤ 8) (he : (gm_en1 [.ref a, b0, b1]).length ≤ 3) {vs : List Value} (hr : gm_rd h a = some (5, vs)) : gm_next E 111 297 lv (b1 :: b0 :: .ref a :: st) h = some (.inr (.inl (0, 108, [.ref a, b0, b1], st))) := gn_call m111 f111_297 rfl rfl rfl rfl rfl rfl rfl (gc_virt (bs := [b1, b0]) (w := 885) rfl rfl rfl rfl hs he hr) (by decide)
theorem f111_300 : gm_ft 111 300 = some (.iastore, 1) := by decide +kernel
theorem r111_300 {E : Nat → Value} {d : Nat} {st : List Value} {h : gm_H} {r : gm_R × gm_H} {lv : List Value} {a k j : Nat} {vs : List Value} {x : Int32} (hr : gm_rd h a = some (k, vs)) (hk : 100 ≤ k ∧ k % 100 = 0 ∧ gm_ko k = 2 ∧ 2 < 3) (hj : j < 2 ^ 31) (hl : j < vs.length) : gm_Go E d 111 300 lv (.int x :: .int (nI j) :: .ref a :: st) h r ↔ gm_Go E d 111 301 lv st (gm_wr h a (k, vs.set j (.int x))) r := gr_wr m111 f111_300 rfl rfl rfl rfl rfl (ga_st hr hk hj hl)
theorem f111_301 : gm_ft 111 301 = some (.aload_n 0, 1) := by decide +kernel
theorem r111_301 {E : Nat → Value} {d : Nat} {st : List Value} {h : gm_H} {r : gm_R × gm_H} {a1 a2 a3 a4 a5 a6 a7 a8 : Value} {x : Nat} : gm_Go E d 111 301 [.ref x, a1, a2, a3, a4, a5, a6, a7, a8] st h r ↔ gm_Go E d 111 302 [.ref x, a1, a2, a3, a4, a5, a6, a7, a8] (.ref x :: st) h r := gr_loc m111 f111_301 rfl rfl
theorem r111_301n {E : Nat → Value} {d : Nat} {st : List Value} {h : gm_H} {r : gm_R × gm_H} {a1 a2 a3 a4 a5 a6 a7 a8 : Value}  : gm_Go E d 111 301 [.null, a1, a2, a3, a4, a5, a6, a7, a8] st h r ↔ gm_Go E d 111 302 [.null, a1, a2, a3, a4, a5, a6, a7, a8] (.null :: st) h r := gr_loc m111 f111_301 rfl rfl
theorem f111_302 : gm_ft 111 302 = some (.getfield 96, 3) := by decide +kernel
theorem r111_302 {E : Nat → Value} {d : Nat} {st : List Value} {h : gm_H} {r : gm_R × gm_H} {lv : List Value} {a : Nat} {vs : List Value} {v : Value} (hr : gm_rd h a = some (5, vs)) (hv : vs[41]? = some v) : gm_Go E d 111 302 lv (.ref a :: st) h r ↔ gm_Go E d 111 305 lv (v :: st) h r := gr_rd m111 f111_302 rfl rfl rfl rfl (gf_get k5_96 hr hv)
theorem f111_305 : gm_ft 111 305 = some (.iload_n 1, 1) := by decide +kernel
theorem r111_305 {E : Nat → Value} {d : Nat} {st : List Value} {h : gm_H} {r : gm_R × gm_H} {a0 a2 a3 a4 a5 a6 a7 a8 : Value} {x : Int32} : gm_Go E d 111 305 [a0, .int x, a2, a3, a4, a5, a6, a7, a8] st h r ↔ gm_Go E d 111 306 [a0, .int x, a2, a3, a4, a5, a6, a7, a8] (.int x :: st) h r := gr_loc m111 f111_305 rfl rfl
theorem f111_306 : gm_ft 111 306 = some (.iconst 2, 1) := by decide +kernel
theorem r111_306 {E : Nat → Value} {d : Nat} {st : List Value} {h : gm_H} {r : gm_R × gm_H} {lv : List Value} : gm_Go E d 111 306 lv st h r ↔ gm_Go E d 111 307 lv (.int (2 : Int32) :: st) h r := gr_pure m111 f111_306 rfl
theorem f111_307 : gm_ft 111 307 = some (.iastore, 1) := by decide +kernel
theorem r111_307 {E : Nat → Value} {d : Nat} {st : List Value} {h : gm_H} {r : gm_R × gm_H} {lv : List Value} {a k j : Nat} {vs : List Value} {x : Int32} (hr : gm_rd h a = some (k, vs)) (hk : 100 ≤ k ∧ k % 100 = 0 ∧ gm_ko k = 2 ∧ 2 < 3) (hj : j < 2 ^ 31) (hl : j < vs.length) : gm_Go E d 111 307 lv (.int x :: .int (nI j) :: .ref a :: st) h r ↔ gm_Go E d 111 308 lv st (gm_wr h a (k, vs.set j (.int x))) r := gr_wr m111 f111_307 rfl rfl rfl rfl rfl (ga_st hr hk hj hl)
theorem f111_308 : gm_ft 111 308 = some (.aload_n 0, 1) := by decide +kernel
theorem r111_308 {E : Nat → Value} {d : Nat} {st : List Value} {h : gm_H} {r : gm_R × gm_H} {a1 a2 a3 a4 a5 a6 a7 a8 : Value} {x : Nat} : gm_Go E d 111 308 [.ref x, a1, a2, a3, a4, a5, a6, a7, a8] st h r ↔ gm_Go E d 111 309 [.ref x, a1, a2, a3, a4, a5, a6, a7, a8] (.ref x :: st) h r := gr_loc m111 f111_308 rfl rfl
theorem r111_308n {E : Nat → Value} {d : Nat} {st : List Value} {h : gm_H} {r : gm_R × gm_H} {a1 a2 a3 a4 a5 a6 a7 a8 : Value}  : gm_Go E d 111 308 [.null, a1, a2, a3, a4, a5, a6, a7, a8] st h r ↔ gm_Go E d 111 309 [.null, a1, a2, a3, a4, a5, a6, a7, a8] (.null :: st) h r := gr_loc m111 f111_308 rfl rfl
theorem f111_309 : gm_ft 111 309 = some (.iconst 3, 1) := by decide +kernel
theorem r111_309 {E : Nat → Value} {d : Nat} {st : List Value} {h : gm_H} {r : gm_R × gm_H} {lv : List Value} : gm_Go E d 111 309 lv st h r ↔ gm_Go E d 111 310 lv (.int (3 : Int32) :: st) h r := gr_pure m111 f111_309 rfl
theorem f111_310 : gm_ft 111 310 = some (.aload_n 0, 1) := by decide +kernel
theorem r111_310 {E : Nat → Value} {d : Nat} {st : List Value} {h : gm_H} {r : gm_R × gm_H} {a1 a2 a3 a4 a5 a6 a7 a8 : Value} {x : Nat} : gm_Go E d 111 310 [.ref x, a1, a2, a3, a4, a5, a6, a7, a8] st h r ↔ gm_Go E d 111 311 [.ref x, a1, a2, a3, a4, a5, a6, a7, a8] (.ref x :: st) h r := gr_loc m111 f111_310 rfl rfl
theorem r111_310n {E : Nat → Value} {d : Nat} {st : List Value} {h : gm_H} {r : gm_R × gm_H} {a1 a2 a3 a4 a5 a6 a7 a8 : Value}  : gm_Go E d 111 310 [.null, a1, a2, a3, a4, a5, a6, a7, a8] st h r ↔ gm_Go E d 111 311 [.null, a1, a2, a3, a4, a5, a6, a7, a8] (.null :: st) h r := gr_loc m111 f111_310 rfl rfl
theorem f111_311 : gm_ft 111 311 = some (.getfield 99, 3) := by decide +kernel
theorem r111_311 {E : Nat → Value} {d : Nat} {st : List Value} {h : gm_H} {r : gm_R × gm_H} {lv : List Value} {a : Nat} {vs : List Value} {v : Value} (hr : gm_rd h a = some (5, vs)) (hv : vs[42]? = some v) : gm_Go E d 111 311 lv (.ref a :: st) h r ↔ gm_Go E d 111 314 lv (v :: st) h r := gr_rd m111 f111_311 rfl rfl rfl rfl (gf_get k5_99 hr hv)
theorem f111_314 : gm_ft 111 314 = some (.iload_n 1, 1) := by decide +kernel
theorem r111_314 {E : Nat → Value} {d : Nat} {st : List Value} {h : gm_H} {r : gm_R × gm_H} {a0 a2 a3 a4 a5 a6 a7 a8 : Value} {x : Int32} : gm_Go E d 111 314 [a0, .int x, a2, a3, a4, a5, a6, a7, a8] st h r ↔ gm_Go E d 111 315 [a0, .int x, a2, a3, a4, a5, a6, a7, a8] (.int x :: st) h r := gr_loc m111 f111_314 rfl rfl
theorem f111_315 : gm_ft 111 315 = some (.iaload, 1) := by decide +kernel
theorem r111_315 {E : Nat → Value} {d : Nat} {st : List Value} {h : gm_H} {r : gm_R × gm_H} {lv : List Value} {a k j : Nat} {vs : List Value} {v : Value} (hr : gm_rd h a = some (k, vs)) (hk : 100 ≤ k ∧ (fun t => t == 0) (k % 100) = true) (hj : j < 2 ^ 31) (hv : vs[j]? = some v) : gm_Go E d 111 315 lv (.int (nI j) :: .ref a :: st) h r ↔ gm_Go E d 111 316 lv (v :: st) h r := gr_rd m111 f111_315 rfl rfl rfl rfl (ga_ld (P := fun t => t == 0) hr hk hj hv)
theorem f111_316 : gm_ft 111 316 = some (.iload 5, 2) := by decide +kernel
theorem r111_316 {E : Nat → Value} {d : Nat} {st : List Value} {h : gm_H} {r : gm_R × gm_H} {a0 a1 a2 a3 a4 a6 a7 a8 : Value} {x : Int32} : gm_Go E d 111 316 [a0, a1, a2, a3, a4, .int x, a6, a7, a8] st h r ↔ gm_Go E d 111 318 [a0, a1, a2, a3, a4, .int x, a6, a7, a8] (.int x :: st) h r := gr_loc m111 f111_316 rfl rfl
theorem f111_318 : gm_ft 111 318 = some (.iload_n 2, 1) := by decide +kernel
theorem r111_318 {E : Nat → Value} {d : Nat} {st : List Value} {h : gm_H} {r : gm_R × gm_H} {a0 a1 a3 a4 a5 a6 a7 a8 : Value} {x : Int32} : gm_Go E d 111 318 [a0, a1, .int x, a3, a4, a5, a6, a7, a8] st h r ↔ gm_Go E d 111 319 [a0, a1, .int x, a3, a4, a5, a6, a7, a8] (.int x :: st) h r := gr_loc m111 f111_318 rfl rfl
theorem f111_319 : gm_ft 111 319 = some (.invokevirtual 200, 3) := by decide +kernel
theorem n111_319 {st : List Value} {h : gm_H} {E : Nat → Value} {lv : List Value} {b0 b1 b2 b3 : Value} {a : Nat} (hs : (st.map fun v => v.category).sum ≤ 8) (he : (gm_en1 [.ref a, b0, b1, b2, b3]).length ≤ 5) {vs : List Value} (hr : gm_rd h a = some (5, vs)) : gm_next E 111 319 lv (b3 :: b2 :: b1 :: b0 :: .ref a :: st) h = some (.inr (.inl (0, 101, [.ref a, b0, b1, b2, b3], st))) := gn_call m111 f111_319 rfl rfl rfl rfl rfl rfl rfl (gc_virt (bs := [b3, b2, b1, b0]) (w := 856) rfl rfl rfl rfl hs he hr) (by decide)
theorem f111_322 : gm_ft 111 322 = some (.return_, 1) := by decide +kernel
theorem r111_322 {E : Nat → Value} {d : Nat} {h : gm_H} {r : gm_R × gm_H} {lv : List Value} : gm_Go E d 111 322 lv [] h r ↔ r = (.inl none, h) := gr_ret m111 f111_322 rfl rfl rfl rfl rfl rfl rfl rfl rfl
/-! GraphReaderModel.limits(III)Z -/
theorem m112 : gm_mt[112]? = some (⟨"GraphReaderModel", "limits", "(III)Z"⟩, prog_7_method_18_code, 5, (some .boolean), [], 5, 2) := rfl
theorem f112_0 : gm_ft 112 0 = some (.iload_n 1, 1) := by decide +kernel
theorem r112_0 {E : Nat → Value} {d : Nat} {st : List Value} {h : gm_H} {r : gm_R × gm_H} {a0 a2 a3 a4 : Value} {x : Int32} : gm_Go E d 112 0 [a0, .int x, a2, a3, a4] st h r ↔ gm_Go E d 112 1 [a0, .int x, a2, a3, a4] (.int x :: st) h r := gr_loc m112 f112_0 rfl rfl
theorem f112_1 : gm_ft 112 1 = some (.aload_n 0, 1) := by decide +kernel
theorem r112_1 {E : Nat → Value} {d : Nat} {st : List Value} {h : gm_H} {r : gm_R × gm_H} {a1 a2 a3 a4 : Value} {x : Nat} : gm_Go E d 112 1 [.ref x, a1, a2, a3, a4] st h r ↔ gm_Go E d 112 2 [.ref x, a1, a2, a3, a4] (.ref x :: st) h r := gr_loc m112 f112_1 rfl rfl
theorem r112_1n {E : Nat → Value} {d : Nat} {st : List Value} {h : gm_H} {r : gm_R × gm_H} {a1 a2 a3 a4 : Value}  : gm_Go E d 112 1 [.null, a1, a2, a3, a4] st h r ↔ gm_Go E d 112 2 [.null, a1, a2, a3, a4] (.null :: st) h r := gr_loc m112 f112_1 rfl rfl
theorem f112_2 : gm_ft 112 2 = some (.getfield 118, 3) := by decide +kernel
theorem r112_2 {E : Nat → Value} {d : Nat} {st : List Value} {h : gm_H} {r : gm_R × gm_H} {lv : List Value} {a : Nat} {vs : List Value} {v : Value} (hr : gm_rd h a = some (5, vs)) (hv : vs[0]? = some v) : gm_Go E d 112 2 lv (.ref a :: st) h r ↔ gm_Go E d 112 5 lv (v :: st) h r := gr_rd m112 f112_2 rfl rfl rfl rfl (gf_get k5_118 hr hv)
theorem f112_5 : gm_ft 112 5 = some (.if_icmp .gt 33, 3) := by decide +kernel
theorem r112_5 {E : Nat → Value} {d : Nat} {st : List Value} {h : gm_H} {r : gm_R × gm_H} {lv : List Value} {x y : Int32} : gm_Go E d 112 5 lv (.int y :: .int x :: st) h r ↔ (if y < x then gm_Go E d 112 38 lv st h r else gm_Go E d 112 8 lv st h r) := (gr_br m112 f112_5 rfl rfl rfl rfl).trans gr_if
theorem f112_8 : gm_ft 112 8 = some (.aload_n 0, 1) := by decide +kernel
theorem r112_8 {E : Nat → Value} {d : Nat} {st : List Value} {h : gm_H} {r : gm_R × gm_H} {a1 a2 a3 a4 : Value} {x : Nat} : gm_Go E d 112 8 [.ref x, a1, a2, a3, a4] st h r ↔ gm_Go E d 112 9 [.ref x, a1, a2, a3, a4] (.ref x :: st) h r := gr_loc m112 f112_8 rfl rfl
theorem r112_8n {E : Nat → Value} {d : Nat} {st : List Value} {h : gm_H} {r : gm_R × gm_H} {a1 a2 a3 a4 : Value}  : gm_Go E d 112 8 [.null, a1, a2, a3, a4] st h r ↔ gm_Go E d 112 9 [.null, a1, a2, a3, a4] (.null :: st) h r := gr_loc m112 f112_8 rfl rfl
theorem f112_9 : gm_ft 112 9 = some (.getfield 166, 3) := by decide +kernel
theorem r112_9 {E : Nat → Value} {d : Nat} {st : List Value} {h : gm_H} {r : gm_R × gm_H} {lv : List Value} {a : Nat} {vs : List Value} {v : Value} (hr : gm_rd h a = some (5, vs)) (hv : vs[28]? = some v) : gm_Go E d 112 9 lv (.ref a :: st) h r ↔ gm_Go E d 112 12 lv (v :: st) h r := gr_rd m112 f112_9 rfl rfl rfl rfl (gf_get k5_166 hr hv)
theorem f112_12 : gm_ft 112 12 = some (.aload_n 0, 1) := by decide +kernel
theorem r112_12 {E : Nat → Value} {d : Nat} {st : List Value} {h : gm_H} {r : gm_R × gm_H} {a1 a2 a3 a4 : Value} {x : Nat} : gm_Go E d 112 12 [.ref x, a1, a2, a3, a4] st h r ↔ gm_Go E d 112 13 [.ref x, a1, a2, a3, a4] (.ref x :: st) h r := gr_loc m112 f112_12 rfl rfl
theorem r112_12n {E : Nat → Value} {d : Nat} {st : List Value} {h : gm_H} {r : gm_R × gm_H} {a1 a2 a3 a4 : Value}  : gm_Go E d 112 12 [.null, a1, a2, a3, a4] st h r ↔ gm_Go E d 112 13 [.null, a1, a2, a3, a4] (.null :: st) h r := gr_loc m112 f112_12 rfl rfl
theorem f112_13 : gm_ft 112 13 = some (.getfield 122, 3) := by decide +kernel
theorem r112_13 {E : Nat → Value} {d : Nat} {st : List Value} {h : gm_H} {r : gm_R × gm_H} {lv : List Value} {a : Nat} {vs : List Value} {v : Value} (hr : gm_rd h a = some (5, vs)) (hv : vs[1]? = some v) : gm_Go E d 112 13 lv (.ref a :: st) h r ↔ gm_Go E d 112 16 lv (v :: st) h r := gr_rd m112 f112_13 rfl rfl rfl rfl (gf_get k5_122 hr hv)
theorem f112_16 : gm_ft 112 16 = some (.if_icmp .gt 22, 3) := by decide +kernel
theorem r112_16 {E : Nat → Value} {d : Nat} {st : List Value} {h : gm_H} {r : gm_R × gm_H} {lv : List Value} {x y : Int32} : gm_Go E d 112 16 lv (.int y :: .int x :: st) h r ↔ (if y < x then gm_Go E d 112 38 lv st h r else gm_Go E d 112 19 lv st h r) := (gr_br m112 f112_16 rfl rfl rfl rfl).trans gr_if
theorem f112_19 : gm_ft 112 19 = some (.iload_n 2, 1) := by decide +kernel
theorem r112_19 {E : Nat → Value} {d : Nat} {st : List Value} {h : gm_H} {r : gm_R × gm_H} {a0 a1 a3 a4 : Value} {x : Int32} : gm_Go E d 112 19 [a0, a1, .int x, a3, a4] st h r ↔ gm_Go E d 112 20 [a0, a1, .int x, a3, a4] (.int x :: st) h r := gr_loc m112 f112_19 rfl rfl
theorem f112_20 : gm_ft 112 20 = some (.aload_n 0, 1) := by decide +kernel
theorem r112_20 {E : Nat → Value} {d : Nat} {st : List Value} {h : gm_H} {r : gm_R × gm_H} {a1 a2 a3 a4 : Value} {x : Nat} : gm_Go E d 112 20 [.ref x, a1, a2, a3, a4] st h r ↔ gm_Go E d 112 21 [.ref x, a1, a2, a3, a4] (.ref x :: st) h r := gr_loc m112 f112_20 rfl rfl
theorem r112_20n {E : Nat → Value} {d : Nat} {st : List Value} {h : gm_H} {r : gm_R × gm_H} {a1 a2 a3 a4 : Value}  : gm_Go E d 112 20 [.null, a1, a2, a3, a4] st h r ↔ gm_Go E d 112 21 [.null, a1, a2, a3, a4] (.null :: st) h r := gr_loc m112 f112_20 rfl rfl
theorem f112_21 : gm_ft 112 21 = some (.getfield 125, 3) := by decide +kernel
theorem r112_21 {E : Nat → Value} {d : Nat} {st : List Value} {h : gm_H} {r : gm_R × gm_H} {lv : List Value} {a : Nat} {vs : List Value} {v : Value} (hr : gm_rd h a = some (5, vs)) (hv : vs[2]? = some v) : gm_Go E d 112 21 lv (.ref a :: st) h r ↔ gm_Go E d 112 24 lv (v :: st) h r := gr_rd m112 f112_21 rfl rfl rfl rfl (gf_get k5_125 hr hv)
theorem f112_24 : gm_ft 112 24 = some (.if_icmp .gt 14, 3) := by decide +kernel
theorem r112_24 {E : Nat → Value} {d : Nat} {st : List Value} {h : gm_H} {r : gm_R × gm_H} {lv : List Value} {x y : Int32} : gm_Go E d 112 24 lv (.int y :: .int x :: st) h r ↔ (if y < x then gm_Go E d 112 38 lv st h r else gm_Go E d 112 27 lv st h r) := (gr_br m112 f112_24 rfl rfl rfl rfl).trans gr_if
theorem f112_27 : gm_ft 112 27 = some (.aload_n 0, 1) := by decide +kernel
theorem r112_27 {E : Nat → Value} {d : Nat} {st : List Value} {h : gm_H} {r : gm_R × gm_H} {a1 a2 a3 a4 : Value} {x : Nat} : gm_Go E d 112 27 [.ref x, a1, a2, a3, a4] st h r ↔ gm_Go E d 112 28 [.ref x, a1, a2, a3, a4] (.ref x :: st) h r := gr_loc m112 f112_27 rfl rfl
theorem r112_27n {E : Nat → Value} {d : Nat} {st : List Value} {h : gm_H} {r : gm_R × gm_H} {a1 a2 a3 a4 : Value}  : gm_Go E d 112 27 [.null, a1, a2, a3, a4] st h r ↔ gm_Go E d 112 28 [.null, a1, a2, a3, a4] (.null :: st) h r := gr_loc m112 f112_27 rfl rfl
theorem f112_28 : gm_ft 112 28 = some (.getfield 148, 3) := by decide +kernel
theorem r112_28 {E : Nat → Value} {d : Nat} {st : List Value} {h : gm_H} {r : gm_R × gm_H} {lv : List Value} {a : Nat} {vs : List Value} {v : Value} (hr : gm_rd h a = some (5, vs)) (hv : vs[6]? = some v) : gm_Go E d 112 28 lv (.ref a :: st) h r ↔ gm_Go E d 112 31 lv (v :: st) h r := gr_rd m112 f112_28 rfl rfl rfl rfl (gf_get k5_148 hr hv)
theorem f112_31 : gm_ft 112 31 = some (.aload_n 0, 1) := by decide +kernel
theorem r112_31 {E : Nat → Value} {d : Nat} {st : List Value} {h : gm_H} {r : gm_R × gm_H} {a1 a2 a3 a4 : Value} {x : Nat} : gm_Go E d 112 31 [.ref x, a1, a2, a3, a4] st h r ↔ gm_Go E d 112 32 [.ref x, a1, a2, a3, a4] (.ref x :: st) h r := gr_loc m112 f112_31 rfl rfl
theorem r112_31n {E : Nat → Value} {d : Nat} {st : List Value} {h : gm_H} {r : gm_R × gm_H} {a1 a2 a3 a4 : Value}  : gm_Go E d 112 31 [.null, a1, a2, a3, a4] st h r ↔ gm_Go E d 112 32 [.null, a1, a2, a3, a4] (.null :: st) h r := gr_loc m112 f112_31 rfl rfl
theorem f112_32 : gm_ft 112 32 = some (.getfield 128, 3) := by decide +kernel
theorem r112_32 {E : Nat → Value} {d : Nat} {st : List Value} {h : gm_H} {r : gm_R × gm_H} {lv : List Value} {a : Nat} {vs : List Value} {v : Value} (hr : gm_rd h a = some (5, vs)) (hv : vs[3]? = some v) : gm_Go E d 112 32 lv (.ref a :: st) h r ↔ gm_Go E d 112 35 lv (v :: st) h r := gr_rd m112 f112_32 rfl rfl rfl rfl (gf_get k5_128 hr hv)
theorem f112_35 : gm_ft 112 35 = some (.if_icmp .le 7, 3) := by decide +kernel
theorem r112_35 {E : Nat → Value} {d : Nat} {st : List Value} {h : gm_H} {r : gm_R × gm_H} {lv : List Value} {x y : Int32} : gm_Go E d 112 35 lv (.int y :: .int x :: st) h r ↔ (if x ≤ y then gm_Go E d 112 42 lv st h r else gm_Go E d 112 38 lv st h r) := (gr_br m112 f112_35 rfl rfl rfl rfl).trans gr_if
theorem f112_38 : gm_ft 112 38 = some (.iconst 1, 1) := by decide +kernel
theorem r112_38 {E : Nat → Value} {d : Nat} {st : List Value} {h : gm_H} {r : gm_R × gm_H} {lv : List Value} : gm_Go E d 112 38 lv st h r ↔ gm_Go E d 112 39 lv (.int (1 : Int32) :: st) h r := gr_pure m112 f112_38 rfl
theorem f112_39 : gm_ft 112 39 = some (.goto 4, 3) := by decide +kernel
theorem r112_39 {E : Nat → Value} {d : Nat} {st : List Value} {h : gm_H} {r : gm_R × gm_H} {lv : List Value} : gm_Go E d 112 39 lv st h r ↔ gm_Go E d 112 43 lv st h r := gr_brT m112 f112_39 rfl rfl rfl rfl
theorem f112_42 : gm_ft 112 42 = some (.iconst 0, 1) := by decide +kernel
theorem r112_42 {E : Nat → Value} {d : Nat} {st : List Value} {h : gm_H} {r : gm_R × gm_H} {lv : List Value} : gm_Go E d 112 42 lv st h r ↔ gm_Go E d 112 43 lv (.int (0 : Int32) :: st) h r := gr_pure m112 f112_42 rfl
theorem f112_43 : gm_ft 112 43 = some (.istore 4, 2) := by decide +kernel
theorem r112_43 {E : Nat → Value} {d : Nat} {st : List Value} {h : gm_H} {r : gm_R × gm_H} {a0 a1 a2 a3 a4 : Value} {x : Int32} : gm_Go E d 112 43 [a0, a1, a2, a3, a4] (.int x :: st) h r ↔ gm_Go E d 112 45 [a0, a1, a2, gm_k a3, .int x] st h r := gr_loc m112 f112_43 rfl rfl
theorem f112_45 : gm_ft 112 45 = some (.iload 4, 2) := by decide +kernel
theorem r112_45 {E : Nat → Value} {d : Nat} {st : List Value} {h : gm_H} {r : gm_R × gm_H} {a0 a1 a2 a3 : Value} {x : Int32} : gm_Go E d 112 45 [a0, a1, a2, a3, .int x] st h r ↔ gm_Go E d 112 47 [a0, a1, a2, a3, .int x] (.int x :: st) h r := gr_loc m112 f112_45 rfl rfl
theorem f112_47 : gm_ft 112 47 = some (.ifCond .ne 26, 3) := by decide +kernel
theorem r112_47 {E : Nat → Value} {d : Nat} {st : List Value} {h : gm_H} {r : gm_R × gm_H} {lv : List Value} {x : Int32} : gm_Go E d 112 47 lv (.int x :: st) h r ↔ (if x = 0 then gm_Go E d 112 50 lv st h r else gm_Go E d 112 73 lv st h r) := (gr_br m112 f112_47 rfl rfl rfl rfl).trans gr_ifn
theorem f112_50 : gm_ft 112 50 = some (.aload_n 0, 1) := by decide +kernel
theorem r112_50 {E : Nat → Value} {d : Nat} {st : List Value} {h : gm_H} {r : gm_R × gm_H} {a1 a2 a3 a4 : Value} {x : Nat} : gm_Go E d 112 50 [.ref x, a1, a2, a3, a4] st h r ↔ gm_Go E d 112 51 [.ref x, a1, a2, a3, a4] (.ref x :: st) h r := gr_loc m112 f112_50 rfl rfl
theorem r112_50n {E : Nat → Value} {d : Nat} {st : List Value} {h : gm_H} {r : gm_R × gm_H} {a1 a2 a3 a4 : Value}  : gm_Go E d 112 50 [.null, a1, a2, a3, a4] st h r ↔ gm_Go E d 112 51 [.null, a1, a2, a3, a4] (.null :: st) h r := gr_loc m112 f112_50 rfl rfl
theorem f112_51 : gm_ft 112 51 = some (.getfield 69, 3) := by decide +kernel
theorem r112_51 {E : Nat → Value} {d : Nat} {st : List Value} {h : gm_H} {r : gm_R × gm_H} {lv : List Value} {a : Nat} {vs : List Value} {v : Value} (hr : gm_rd h a = some (5, vs)) (hv : vs[31]? = some v) : gm_Go E d 112 51 lv (.ref a :: st) h r ↔ gm_Go E d 112 54 lv (v :: st) h r := gr_rd m112 f112_51 rfl rfl rfl rfl (gf_get k5_69 hr hv)
theorem f112_54 : gm_ft 112 54 = some (.iload_n 3, 1) := by decide +kernel
theorem r112_54 {E : Nat → Value} {d : Nat} {st : List Value} {h : gm_H} {r : gm_R × gm_H} {a0 a1 a2 a4 : Value} {x : Int32} : gm_Go E d 112 54 [a0, a1, a2, .int x, a4] st h r ↔ gm_Go E d 112 55 [a0, a1, a2, .int x, a4] (.int x :: st) h r := gr_loc m112 f112_54 rfl rfl
theorem f112_55 : gm_ft 112 55 = some (.iaload, 1) := by decide +kernel
theorem r112_55 {E : Nat → Value} {d : Nat} {st : List Value} {h : gm_H} {r : gm_R × gm_H} {lv : List Value} {a k j : Nat} {vs : List Value} {v : Value} (hr : gm_rd h a = some (k, vs)) (hk : 100 ≤ k ∧ (fun t => t == 0) (k % 100) = true) (hj : j < 2 ^ 31) (hv : vs[j]? = some v) : gm_Go E d 112 55 lv (.int (nI j) :: .ref a :: st) h r ↔ gm_Go E d 112 56 lv (v :: st) h r := gr_rd m112 f112_55 rfl rfl rfl rfl (ga_ld (P := fun t => t == 0) hr hk hj hv)
theorem f112_56 : gm_ft 112 56 = some (.ifCond .lt 23, 3) := by decide +kernel
theorem r112_56 {E : Nat → Value} {d : Nat} {st : List Value} {h : gm_H} {r : gm_R × gm_H} {lv : List Value} {x : Int32} : gm_Go E d 112 56 lv (.int x :: st) h r ↔ (if x < 0 then gm_Go E d 112 79 lv st h r else gm_Go E d 112 59 lv st h r) := (gr_br m112 f112_56 rfl rfl rfl rfl).trans gr_if
theorem f112_59 : gm_ft 112 59 = some (.aload_n 0, 1) := by decide +kernel
theorem r112_59 {E : Nat → Value} {d : Nat} {st : List Value} {h : gm_H} {r : gm_R × gm_H} {a1 a2 a3 a4 : Value} {x : Nat} : gm_Go E d 112 59 [.ref x, a1, a2, a3, a4] st h r ↔ gm_Go E d 112 60 [.ref x, a1, a2, a3, a4] (.ref x :: st) h r := gr_loc m112 f112_59 rfl rfl
theorem r112_59n {E : Nat → Value} {d : Nat} {st : List Value} {h : gm_H} {r : gm_R × gm_H} {a1 a2 a3 a4 : Value}  : gm_Go E d 112 59 [.null, a1, a2, a3, a4] st h r ↔ gm_Go E d 112 60 [.null, a1, a2, a3, a4] (.null :: st) h r := gr_loc m112 f112_59 rfl rfl
theorem f112_60 : gm_ft 112 60 = some (.getfield 35, 3) := by decide +kernel
theorem r112_60 {E : Nat → Value} {d : Nat} {st : List Value} {h : gm_H} {r : gm_R × gm_H} {lv : List Value} {a : Nat} {vs : List Value} {v : Value} (hr : gm_rd h a = some (5, vs)) (hv : vs[17]? = some v) : gm_Go E d 112 60 lv (.ref a :: st) h r ↔ gm_Go E d 112 63 lv (v :: st) h r := gr_rd m112 f112_60 rfl rfl rfl rfl (gf_get k5_35 hr hv)
theorem f112_63 : gm_ft 112 63 = some (.aload_n 0, 1) := by decide +kernel
theorem r112_63 {E : Nat → Value} {d : Nat} {st : List Value} {h : gm_H} {r : gm_R × gm_H} {a1 a2 a3 a4 : Value} {x : Nat} : gm_Go E d 112 63 [.ref x, a1, a2, a3, a4] st h r ↔ gm_Go E d 112 64 [.ref x, a1, a2, a3, a4] (.ref x :: st) h r := gr_loc m112 f112_63 rfl rfl
theorem r112_63n {E : Nat → Value} {d : Nat} {st : List Value} {h : gm_H} {r : gm_R × gm_H} {a1 a2 a3 a4 : Value}  : gm_Go E d 112 63 [.null, a1, a2, a3, a4] st h r ↔ gm_Go E d 112 64 [.null, a1, a2, a3, a4] (.null :: st) h r := gr_loc m112 f112_63 rfl rfl
theorem f112_64 : gm_ft 112 64 = some (.getfield 69, 3) := by decide +kernel
theorem r112_64 {E : Nat → Value} {d : Nat} {st : List Value} {h : gm_H} {r : gm_R × gm_H} {lv : List Value} {a : Nat} {vs : List Value} {v : Value} (hr : gm_rd h a = some (5, vs)) (hv : vs[31]? = some v) : gm_Go E d 112 64 lv (.ref a :: st) h r ↔ gm_Go E d 112 67 lv (v :: st) h r := gr_rd m112 f112_64 rfl rfl rfl rfl (gf_get k5_69 hr hv)
theorem f112_67 : gm_ft 112 67 = some (.iload_n 3, 1) := by decide +kernel
theorem r112_67 {E : Nat → Value} {d : Nat} {st : List Value} {h : gm_H} {r : gm_R × gm_H} {a0 a1 a2 a4 : Value} {x : Int32} : gm_Go E d 112 67 [a0, a1, a2, .int x, a4] st h r ↔ gm_Go E d 112 68 [a0, a1, a2, .int x, a4] (.int x :: st) h r := gr_loc m112 f112_67 rfl rfl
theorem f112_68 : gm_ft 112 68 = some (.iaload, 1) := by decide +kernel
theorem r112_68 {E : Nat → Value} {d : Nat} {st : List Value} {h : gm_H} {r : gm_R × gm_H} {lv : List Value} {a k j : Nat} {vs : List Value} {v : Value} (hr : gm_rd h a = some (k, vs)) (hk : 100 ≤ k ∧ (fun t => t == 0) (k % 100) = true) (hj : j < 2 ^ 31) (hv : vs[j]? = some v) : gm_Go E d 112 68 lv (.int (nI j) :: .ref a :: st) h r ↔ gm_Go E d 112 69 lv (v :: st) h r := gr_rd m112 f112_68 rfl rfl rfl rfl (ga_ld (P := fun t => t == 0) hr hk hj hv)
theorem f112_69 : gm_ft 112 69 = some (.baload, 1) := by decide +kernel
theorem r112_69 {E : Nat → Value} {d : Nat} {st : List Value} {h : gm_H} {r : gm_R × gm_H} {lv : List Value} {a k j : Nat} {vs : List Value} {v : Value} (hr : gm_rd h a = some (k, vs)) (hk : 100 ≤ k ∧ (fun t => t == 2 || t == 3) (k % 100) = true) (hj : j < 2 ^ 31) (hv : vs[j]? = some v) : gm_Go E d 112 69 lv (.int (nI j) :: .ref a :: st) h r ↔ gm_Go E d 112 70 lv (v :: st) h r := gr_rd m112 f112_69 rfl rfl rfl rfl (ga_ld (P := fun t => t == 2 || t == 3) hr hk hj hv)
theorem f112_70 : gm_ft 112 70 = some (.ifCond .eq 9, 3) := by decide +kernel
theorem r112_70 {E : Nat → Value} {d : Nat} {st : List Value} {h : gm_H} {r : gm_R × gm_H} {lv : List Value} {x : Int32} : gm_Go E d 112 70 lv (.int x :: st) h r ↔ (if x = 0 then gm_Go E d 112 79 lv st h r else gm_Go E d 112 73 lv st h r) := (gr_br m112 f112_70 rfl rfl rfl rfl).trans gr_if
theorem f112_73 : gm_ft 112 73 = some (.aload_n 0, 1) := by decide +kernel
theorem r112_73 {E : Nat → Value} {d : Nat} {st : List Value} {h : gm_H} {r : gm_R × gm_H} {a1 a2 a3 a4 : Value} {x : Nat} : gm_Go E d 112 73 [.ref x, a1, a2, a3, a4] st h r ↔ gm_Go E d 112 74 [.ref x, a1, a2, a3, a4] (.ref x :: st) h r := gr_loc m112 f112_73 rfl rfl
theorem r112_73n {E : Nat → Value} {d : Nat} {st : List Value} {h : gm_H} {r : gm_R × gm_H} {a1 a2 a3 a4 : Value}  : gm_Go E d 112 73 [.null, a1, a2, a3, a4] st h r ↔ gm_Go E d 112 74 [.null, a1, a2, a3, a4] (.null :: st) h r := gr_loc m112 f112_73 rfl rfl
theorem f112_74 : gm_ft 112 74 = some (.bipush (-8), 2) := by decide +kernel
theorem r112_74 {E : Nat → Value} {d : Nat} {st : List Value} {h : gm_H} {r : gm_R × gm_H} {lv : List Value} : gm_Go E d 112 74 lv st h r ↔ gm_Go E d 112 76 lv (.int (-8 : Int32) :: st) h r := gr_pure m112 f112_74 rfl
theorem f112_76 : gm_ft 112 76 = some (.invokevirtual 151, 3) := by decide +kernel
theorem n112_76 {st : List Value} {h : gm_H} {E : Nat → Value} {lv : List Value} {b0 : Value} {a : Nat} (hs : (st.map fun v => v.category).sum ≤ 8) (he : (gm_en1 [.ref a, b0]).length ≤ 2) {vs : List Value} (hr : gm_rd h a = some (5, vs)) : gm_next E 112 76 lv (b0 :: .ref a :: st) h = some (.inr (.inl (0, 98, [.ref a, b0], st))) := gn_call m112 f112_76 rfl rfl rfl rfl rfl rfl rfl (gc_virt (bs := [b0]) (w := 844) rfl rfl rfl rfl hs he hr) (by decide)
theorem f112_79 : gm_ft 112 79 = some (.aload_n 0, 1) := by decide +kernel
theorem r112_79 {E : Nat → Value} {d : Nat} {st : List Value} {h : gm_H} {r : gm_R × gm_H} {a1 a2 a3 a4 : Value} {x : Nat} : gm_Go E d 112 79 [.ref x, a1, a2, a3, a4] st h r ↔ gm_Go E d 112 80 [.ref x, a1, a2, a3, a4] (.ref x :: st) h r := gr_loc m112 f112_79 rfl rfl
theorem r112_79n {E : Nat → Value} {d : Nat} {st : List Value} {h : gm_H} {r : gm_R × gm_H} {a1 a2 a3 a4 : Value}  : gm_Go E d 112 79 [.null, a1, a2, a3, a4] st h r ↔ gm_Go E d 112 80 [.null, a1, a2, a3, a4] (.null :: st) h r := gr_loc m112 f112_79 rfl rfl
theorem f112_80 : gm_ft 112 80 = some (.getfield 145, 3) := by decide +kernel
theorem r112_80 {E : Nat → Value} {d : Nat} {st : List Value} {h : gm_H} {r : gm_R × gm_H} {lv : List Value} {a : Nat} {vs : List Value} {v : Value} (hr : gm_rd h a = some (5, vs)) (hv : vs[8]? = some v) : gm_Go E d 112 80 lv (.ref a :: st) h r ↔ gm_Go E d 112 83 lv (v :: st) h r := gr_rd m112 f112_80 rfl rfl rfl rfl (gf_get k5_145 hr hv)
theorem f112_83 : gm_ft 112 83 = some (.ifCond .ne 7, 3) := by decide +kernel
theorem r112_83 {E : Nat → Value} {d : Nat} {st : List Value} {h : gm_H} {r : gm_R × gm_H} {lv : List Value} {x : Int32} : gm_Go E d 112 83 lv (.int x :: st) h r ↔ (if x = 0 then gm_Go E d 112 86 lv st h r else gm_Go E d 112 90 lv st h r) := (gr_br m112 f112_83 rfl rfl rfl rfl).trans gr_ifn
theorem f112_86 : gm_ft 112 86 = some (.iconst 1, 1) := by decide +kernel
theorem r112_86 {E : Nat → Value} {d : Nat} {st : List Value} {h : gm_H} {r : gm_R × gm_H} {lv : List Value} : gm_Go E d 112 86 lv st h r ↔ gm_Go E d 112 87 lv (.int (1 : Int32) :: st) h r := gr_pure m112 f112_86 rfl
theorem f112_87 : gm_ft 112 87 = some (.goto 4, 3) := by decide +kernel
theorem r112_87 {E : Nat → Value} {d : Nat} {st : List Value} {h : gm_H} {r : gm_R × gm_H} {lv : List Value} : gm_Go E d 112 87 lv st h r ↔ gm_Go E d 112 91 lv st h r := gr_brT m112 f112_87 rfl rfl rfl rfl
theorem f112_90 : gm_ft 112 90 = some (.iconst 0, 1) := by decide +kernel
theorem r112_90 {E : Nat → Value} {d : Nat} {st : List Value} {h : gm_H} {r : gm_R × gm_H} {lv : List Value} : gm_Go E d 112 90 lv st h r ↔ gm_Go E d 112 91 lv (.int (0 : Int32) :: st) h r := gr_pure m112 f112_90 rfl
theorem f112_91 : gm_ft 112 91 = some (.ireturn, 1) := by decide +kernel
theorem r112_91_0 {E : Nat → Value} {d : Nat} {h : gm_H} {r : gm_R × gm_H} {lv : List Value} : gm_Go E d 112 91 lv [.int (0 : Int32)] h r ↔ r = (.inl (some (.int (0 : Int32))), h) := gr_ret m112 f112_91 rfl rfl rfl rfl rfl rfl rfl rfl (by unfold gm_rt; dsimp only; rw [if_pos ⟨rfl, rfl⟩])
theorem r112_91_1 {E : Nat → Value} {d : Nat} {h : gm_H} {r : gm_R × gm_H} {lv : List Value} : gm_Go E d 112 91 lv [.int (1 : Int32)] h r ↔ r = (.inl (some (.int (1 : Int32))), h) := gr_ret m112 f112_91 rfl rfl rfl rfl rfl rfl rfl rfl (by unfold gm_rt; dsimp only; rw [if_pos ⟨rfl, rfl⟩])
/-! GraphReaderModel.firstSlot(I)I -/
theorem m113 : gm_mt[113]? = some (⟨"GraphReaderModel", "firstSlot", "(I)I"⟩, prog_7_method_19_code, 4, (some .int), [], 5, 2) := rfl
theorem f113_0 : gm_ft 113 0 = some (.iconst 0, 1) := by decide +kernel
theorem r113_0 {E : Nat → Value} {d : Nat} {st : List Value} {h : gm_H} {r : gm_R × gm_H} {lv : List Value} : gm_Go E d 113 0 lv st h r ↔ gm_Go E d 113 1 lv (.int (0 : Int32) :: st) h r := gr_pure m113 f113_0 rfl
theorem f113_1 : gm_ft 113 1 = some (.istore_n 2, 1) := by decide +kernel
theorem r113_1 {E : Nat → Value} {d : Nat} {st : List Value} {h : gm_H} {r : gm_R × gm_H} {a0 a1 a2 a3 : Value} {x : Int32} : gm_Go E d 113 1 [a0, a1, a2, a3] (.int x :: st) h r ↔ gm_Go E d 113 2 [a0, gm_k a1, .int x, a3] st h r := gr_loc m113 f113_1 rfl rfl
theorem f113_2 : gm_ft 113 2 = some (.aload_n 0, 1) := by decide +kernel
theorem r113_2 {E : Nat → Value} {d : Nat} {st : List Value} {h : gm_H} {r : gm_R × gm_H} {a1 a2 a3 : Value} {x : Nat} : gm_Go E d 113 2 [.ref x, a1, a2, a3] st h r ↔ gm_Go E d 113 3 [.ref x, a1, a2, a3] (.ref x :: st) h r := gr_loc m113 f113_2 rfl rfl
theorem r113_2n {E : Nat → Value} {d : Nat} {st : List Value} {h : gm_H} {r : gm_R × gm_H} {a1 a2 a3 : Value}  : gm_Go E d 113 2 [.null, a1, a2, a3] st h r ↔ gm_Go E d 113 3 [.null, a1, a2, a3] (.null :: st) h r := gr_loc m113 f113_2 rfl rfl
theorem f113_3 : gm_ft 113 3 = some (.getfield 20, 3) := by decide +kernel
theorem r113_3 {E : Nat → Value} {d : Nat} {st : List Value} {h : gm_H} {r : gm_R × gm_H} {lv : List Value} {a : Nat} {vs : List Value} {v : Value} (hr : gm_rd h a = some (5, vs)) (hv : vs[12]? = some v) : gm_Go E d 113 3 lv (.ref a :: st) h r ↔ gm_Go E d 113 6 lv (v :: st) h r := gr_rd m113 f113_3 rfl rfl rfl rfl (gf_get k5_20 hr hv)
theorem f113_6 : gm_ft 113 6 = some (.iload_n 1, 1) := by decide +kernel
theorem r113_6 {E : Nat → Value} {d : Nat} {st : List Value} {h : gm_H} {r : gm_R × gm_H} {a0 a2 a3 : Value} {x : Int32} : gm_Go E d 113 6 [a0, .int x, a2, a3] st h r ↔ gm_Go E d 113 7 [a0, .int x, a2, a3] (.int x :: st) h r := gr_loc m113 f113_6 rfl rfl
theorem f113_7 : gm_ft 113 7 = some (.iaload, 1) := by decide +kernel
theorem r113_7 {E : Nat → Value} {d : Nat} {st : List Value} {h : gm_H} {r : gm_R × gm_H} {lv : List Value} {a k j : Nat} {vs : List Value} {v : Value} (hr : gm_rd h a = some (k, vs)) (hk : 100 ≤ k ∧ (fun t => t == 0) (k % 100) = true) (hj : j < 2 ^ 31) (hv : vs[j]? = some v) : gm_Go E d 113 7 lv (.int (nI j) :: .ref a :: st) h r ↔ gm_Go E d 113 8 lv (v :: st) h r := gr_rd m113 f113_7 rfl rfl rfl rfl (ga_ld (P := fun t => t == 0) hr hk hj hv)
theorem f113_8 : gm_ft 113 8 = some (.istore_n 3, 1) := by decide +kernel
theorem r113_8 {E : Nat → Value} {d : Nat} {st : List Value} {h : gm_H} {r : gm_R × gm_H} {a0 a1 a2 a3 : Value} {x : Int32} : gm_Go E d 113 8 [a0, a1, a2, a3] (.int x :: st) h r ↔ gm_Go E d 113 9 [a0, a1, gm_k a2, .int x] st h r := gr_loc m113 f113_8 rfl rfl
theorem f113_9 : gm_ft 113 9 = some (.iload_n 3, 1) := by decide +kernel
theorem r113_9 {E : Nat → Value} {d : Nat} {st : List Value} {h : gm_H} {r : gm_R × gm_H} {a0 a1 a2 : Value} {x : Int32} : gm_Go E d 113 9 [a0, a1, a2, .int x] st h r ↔ gm_Go E d 113 10 [a0, a1, a2, .int x] (.int x :: st) h r := gr_loc m113 f113_9 rfl rfl
theorem f113_10 : gm_ft 113 10 = some (.ifCond .lt 22, 3) := by decide +kernel
theorem r113_10 {E : Nat → Value} {d : Nat} {st : List Value} {h : gm_H} {r : gm_R × gm_H} {lv : List Value} {x : Int32} : gm_Go E d 113 10 lv (.int x :: st) h r ↔ (if x < 0 then gm_Go E d 113 32 lv st h r else gm_Go E d 113 13 lv st h r) := (gr_br m113 f113_10 rfl rfl rfl rfl).trans gr_if
theorem f113_13 : gm_ft 113 13 = some (.iload_n 2, 1) := by decide +kernel
theorem r113_13 {E : Nat → Value} {d : Nat} {st : List Value} {h : gm_H} {r : gm_R × gm_H} {a0 a1 a3 : Value} {x : Int32} : gm_Go E d 113 13 [a0, a1, .int x, a3] st h r ↔ gm_Go E d 113 14 [a0, a1, .int x, a3] (.int x :: st) h r := gr_loc m113 f113_13 rfl rfl
theorem f113_14 : gm_ft 113 14 = some (.aload_n 0, 1) := by decide +kernel
theorem r113_14 {E : Nat → Value} {d : Nat} {st : List Value} {h : gm_H} {r : gm_R × gm_H} {a1 a2 a3 : Value} {x : Nat} : gm_Go E d 113 14 [.ref x, a1, a2, a3] st h r ↔ gm_Go E d 113 15 [.ref x, a1, a2, a3] (.ref x :: st) h r := gr_loc m113 f113_14 rfl rfl
theorem r113_14n {E : Nat → Value} {d : Nat} {st : List Value} {h : gm_H} {r : gm_R × gm_H} {a1 a2 a3 : Value}  : gm_Go E d 113 14 [.null, a1, a2, a3] st h r ↔ gm_Go E d 113 15 [.null, a1, a2, a3] (.null :: st) h r := gr_loc m113 f113_14 rfl rfl
theorem f113_15 : gm_ft 113 15 = some (.getfield 23, 3) := by decide +kernel
theorem r113_15 {E : Nat → Value} {d : Nat} {st : List Value} {h : gm_H} {r : gm_R × gm_H} {lv : List Value} {a : Nat} {vs : List Value} {v : Value} (hr : gm_rd h a = some (5, vs)) (hv : vs[13]? = some v) : gm_Go E d 113 15 lv (.ref a :: st) h r ↔ gm_Go E d 113 18 lv (v :: st) h r := gr_rd m113 f113_15 rfl rfl rfl rfl (gf_get k5_23 hr hv)
theorem f113_18 : gm_ft 113 18 = some (.iload_n 3, 1) := by decide +kernel
theorem r113_18 {E : Nat → Value} {d : Nat} {st : List Value} {h : gm_H} {r : gm_R × gm_H} {a0 a1 a2 : Value} {x : Int32} : gm_Go E d 113 18 [a0, a1, a2, .int x] st h r ↔ gm_Go E d 113 19 [a0, a1, a2, .int x] (.int x :: st) h r := gr_loc m113 f113_18 rfl rfl
theorem f113_19 : gm_ft 113 19 = some (.iaload, 1) := by decide +kernel
theorem r113_19 {E : Nat → Value} {d : Nat} {st : List Value} {h : gm_H} {r : gm_R × gm_H} {lv : List Value} {a k j : Nat} {vs : List Value} {v : Value} (hr : gm_rd h a = some (k, vs)) (hk : 100 ≤ k ∧ (fun t => t == 0) (k % 100) = true) (hj : j < 2 ^ 31) (hv : vs[j]? = some v) : gm_Go E d 113 19 lv (.int (nI j) :: .ref a :: st) h r ↔ gm_Go E d 113 20 lv (v :: st) h r := gr_rd m113 f113_19 rfl rfl rfl rfl (ga_ld (P := fun t => t == 0) hr hk hj hv)
theorem f113_20 : gm_ft 113 20 = some (.iadd, 1) := by decide +kernel
theorem r113_20 {E : Nat → Value} {d : Nat} {st : List Value} {h : gm_H} {r : gm_R × gm_H} {lv : List Value} {x y : Int32} : gm_Go E d 113 20 lv (.int y :: .int x :: st) h r ↔ gm_Go E d 113 21 lv (.int (x + y) :: st) h r := gr_pure m113 f113_20 rfl
theorem f113_21 : gm_ft 113 21 = some (.istore_n 2, 1) := by decide +kernel
theorem r113_21 {E : Nat → Value} {d : Nat} {st : List Value} {h : gm_H} {r : gm_R × gm_H} {a0 a1 a2 a3 : Value} {x : Int32} : gm_Go E d 113 21 [a0, a1, a2, a3] (.int x :: st) h r ↔ gm_Go E d 113 22 [a0, gm_k a1, .int x, a3] st h r := gr_loc m113 f113_21 rfl rfl
theorem f113_22 : gm_ft 113 22 = some (.aload_n 0, 1) := by decide +kernel
theorem r113_22 {E : Nat → Value} {d : Nat} {st : List Value} {h : gm_H} {r : gm_R × gm_H} {a1 a2 a3 : Value} {x : Nat} : gm_Go E d 113 22 [.ref x, a1, a2, a3] st h r ↔ gm_Go E d 113 23 [.ref x, a1, a2, a3] (.ref x :: st) h r := gr_loc m113 f113_22 rfl rfl
theorem r113_22n {E : Nat → Value} {d : Nat} {st : List Value} {h : gm_H} {r : gm_R × gm_H} {a1 a2 a3 : Value}  : gm_Go E d 113 22 [.null, a1, a2, a3] st h r ↔ gm_Go E d 113 23 [.null, a1, a2, a3] (.null :: st) h r := gr_loc m113 f113_22 rfl rfl
theorem f113_23 : gm_ft 113 23 = some (.getfield 20, 3) := by decide +kernel
theorem r113_23 {E : Nat → Value} {d : Nat} {st : List Value} {h : gm_H} {r : gm_R × gm_H} {lv : List Value} {a : Nat} {vs : List Value} {v : Value} (hr : gm_rd h a = some (5, vs)) (hv : vs[12]? = some v) : gm_Go E d 113 23 lv (.ref a :: st) h r ↔ gm_Go E d 113 26 lv (v :: st) h r := gr_rd m113 f113_23 rfl rfl rfl rfl (gf_get k5_20 hr hv)
theorem f113_26 : gm_ft 113 26 = some (.iload_n 3, 1) := by decide +kernel
theorem r113_26 {E : Nat → Value} {d : Nat} {st : List Value} {h : gm_H} {r : gm_R × gm_H} {a0 a1 a2 : Value} {x : Int32} : gm_Go E d 113 26 [a0, a1, a2, .int x] st h r ↔ gm_Go E d 113 27 [a0, a1, a2, .int x] (.int x :: st) h r := gr_loc m113 f113_26 rfl rfl
theorem f113_27 : gm_ft 113 27 = some (.iaload, 1) := by decide +kernel
theorem r113_27 {E : Nat → Value} {d : Nat} {st : List Value} {h : gm_H} {r : gm_R × gm_H} {lv : List Value} {a k j : Nat} {vs : List Value} {v : Value} (hr : gm_rd h a = some (k, vs)) (hk : 100 ≤ k ∧ (fun t => t == 0) (k % 100) = true) (hj : j < 2 ^ 31) (hv : vs[j]? = some v) : gm_Go E d 113 27 lv (.int (nI j) :: .ref a :: st) h r ↔ gm_Go E d 113 28 lv (v :: st) h r := gr_rd m113 f113_27 rfl rfl rfl rfl (ga_ld (P := fun t => t == 0) hr hk hj hv)
theorem f113_28 : gm_ft 113 28 = some (.istore_n 3, 1) := by decide +kernel
theorem r113_28 {E : Nat → Value} {d : Nat} {st : List Value} {h : gm_H} {r : gm_R × gm_H} {a0 a1 a2 a3 : Value} {x : Int32} : gm_Go E d 113 28 [a0, a1, a2, a3] (.int x :: st) h r ↔ gm_Go E d 113 29 [a0, a1, gm_k a2, .int x] st h r := gr_loc m113 f113_28 rfl rfl
theorem f113_29 : gm_ft 113 29 = some (.goto (-20), 3) := by decide +kernel
theorem r113_29 {E : Nat → Value} {d : Nat} {st : List Value} {h : gm_H} {r : gm_R × gm_H} {lv : List Value} : gm_Go E d 113 29 lv st h r ↔ gm_Go E d 113 9 lv st h r := gr_brT m113 f113_29 rfl rfl rfl rfl
theorem f113_32 : gm_ft 113 32 = some (.iload_n 2, 1) := by decide +kernel
theorem r113_32 {E : Nat → Value} {d : Nat} {st : List Value} {h : gm_H} {r : gm_R × gm_H} {a0 a1 a3 : Value} {x : Int32} : gm_Go E d 113 32 [a0, a1, .int x, a3] st h r ↔ gm_Go E d 113 33 [a0, a1, .int x, a3] (.int x :: st) h r := gr_loc m113 f113_32 rfl rfl
theorem f113_33 : gm_ft 113 33 = some (.ireturn, 1) := by decide +kernel
theorem r113_33 {E : Nat → Value} {d : Nat} {h : gm_H} {r : gm_R × gm_H} {lv : List Value} {x : Int32} : gm_Go E d 113 33 lv [.int x] h r ↔ r = (.inl (some (.int x)), h) := gr_ret m113 f113_33 rfl rfl rfl rfl rfl rfl rfl rfl (by unfold gm_rt; dsimp only; rw [if_pos ⟨rfl, rfl⟩])
