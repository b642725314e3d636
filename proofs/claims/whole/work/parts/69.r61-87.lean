/-! GraphReader$Thing.<init>(ILGraphReader$LocalClass;I)V -/
theorem m61 : gm_mt[61]? = some (⟨"GraphReader$Thing", "<init>", "(ILGraphReader$LocalClass;I)V"⟩, prog_5_method_1_code, 4, none, [], 4, 1) := rfl
theorem f61_0 : gm_ft 61 0 = some (.aload_n 0, 1) := by decide +kernel
theorem r61_0 {E : Nat → Value} {d : Nat} {st : List Value} {h : gm_H} {r : gm_R × gm_H} {a1 a2 a3 : Value} {x : Nat} : gm_Go E d 61 0 [.ref x, a1, a2, a3] st h r ↔ gm_Go E d 61 1 [.ref x, a1, a2, a3] (.ref x :: st) h r := gr_loc m61 f61_0 rfl rfl
theorem r61_0n {E : Nat → Value} {d : Nat} {st : List Value} {h : gm_H} {r : gm_R × gm_H} {a1 a2 a3 : Value}  : gm_Go E d 61 0 [.null, a1, a2, a3] st h r ↔ gm_Go E d 61 1 [.null, a1, a2, a3] (.null :: st) h r := gr_loc m61 f61_0 rfl rfl
theorem f61_1 : gm_ft 61 1 = some (.invokespecial 1, 3) := by decide +kernel
theorem r61_1 {E : Nat → Value} {d : Nat} {st : List Value} {h : gm_H} {r : gm_R × gm_H} {lv : List Value} {a : Nat} (hs : (st.map fun v => v.category).sum ≤ 8) : gm_Go E d 61 1 lv (.ref a :: st) h r ↔ gm_Go E d 61 4 lv st h r := gr_oi m61 f61_1 rfl rfl rfl rfl rfl rfl rfl (gc_spec (w := 521) rfl hs (by decide))
theorem f61_4 : gm_ft 61 4 = some (.aload_n 0, 1) := by decide +kernel
theorem r61_4 {E : Nat → Value} {d : Nat} {st : List Value} {h : gm_H} {r : gm_R × gm_H} {a1 a2 a3 : Value} {x : Nat} : gm_Go E d 61 4 [.ref x, a1, a2, a3] st h r ↔ gm_Go E d 61 5 [.ref x, a1, a2, a3] (.ref x :: st) h r := gr_loc m61 f61_4 rfl rfl
theorem r61_4n {E : Nat → Value} {d : Nat} {st : List Value} {h : gm_H} {r : gm_R × gm_H} {a1 a2 a3 : Value}  : gm_Go E d 61 4 [.null, a1, a2, a3] st h r ↔ gm_Go E d 61 5 [.null, a1, a2, a3] (.null :: st) h r := gr_loc m61 f61_4 rfl rfl
theorem f61_5 : gm_ft 61 5 = some (.iload_n 1, 1) := by decide +kernel
theorem r61_5 {E : Nat → Value} {d : Nat} {st : List Value} {h : gm_H} {r : gm_R × gm_H} {a0 a2 a3 : Value} {x : Int32} : gm_Go E d 61 5 [a0, .int x, a2, a3] st h r ↔ gm_Go E d 61 6 [a0, .int x, a2, a3] (.int x :: st) h r := gr_loc m61 f61_5 rfl rfl
theorem f61_6 : gm_ft 61 6 = some (.putfield 7, 3) := by decide +kernel
theorem r61_6 {E : Nat → Value} {d : Nat} {st : List Value} {h : gm_H} {r : gm_R × gm_H} {lv : List Value} {a : Nat} {vs : List Value} {v : Value} (hr : gm_rd h a = some (4, vs)) (hk : 0 < vs.length) (hn : narrow (gm_ty 4 0) v = v ∧ fits (gm_ty 4 0) v = true) : gm_Go E d 61 6 lv (v :: .ref a :: st) h r ↔ gm_Go E d 61 9 lv st (gm_wr h a (4, vs.set 0 v)) r := gr_wr m61 f61_6 rfl rfl rfl rfl rfl (gf_put k4_7 hr (by decide) hk hn (by decide))
theorem f61_9 : gm_ft 61 9 = some (.aload_n 0, 1) := by decide +kernel
theorem r61_9 {E : Nat → Value} {d : Nat} {st : List Value} {h : gm_H} {r : gm_R × gm_H} {a1 a2 a3 : Value} {x : Nat} : gm_Go E d 61 9 [.ref x, a1, a2, a3] st h r ↔ gm_Go E d 61 10 [.ref x, a1, a2, a3] (.ref x :: st) h r := gr_loc m61 f61_9 rfl rfl
theorem r61_9n {E : Nat → Value} {d : Nat} {st : List Value} {h : gm_H} {r : gm_R × gm_H} {a1 a2 a3 : Value}  : gm_Go E d 61 9 [.null, a1, a2, a3] st h r ↔ gm_Go E d 61 10 [.null, a1, a2, a3] (.null :: st) h r := gr_loc m61 f61_9 rfl rfl
theorem f61_10 : gm_ft 61 10 = some (.aload_n 2, 1) := by decide +kernel
theorem r61_10 {E : Nat → Value} {d : Nat} {st : List Value} {h : gm_H} {r : gm_R × gm_H} {a0 a1 a3 : Value} {x : Nat} : gm_Go E d 61 10 [a0, a1, .ref x, a3] st h r ↔ gm_Go E d 61 11 [a0, a1, .ref x, a3] (.ref x :: st) h r := gr_loc m61 f61_10 rfl rfl
theorem r61_10n {E : Nat → Value} {d : Nat} {st : List Value} {h : gm_H} {r : gm_R × gm_H} {a0 a1 a3 : Value}  : gm_Go E d 61 10 [a0, a1, .null, a3] st h r ↔ gm_Go E d 61 11 [a0, a1, .null, a3] (.null :: st) h r := gr_loc m61 f61_10 rfl rfl
theorem f61_11 : gm_ft 61 11 = some (.putfield 13, 3) := by decide +kernel
theorem r61_11 {E : Nat → Value} {d : Nat} {st : List Value} {h : gm_H} {r : gm_R × gm_H} {lv : List Value} {a : Nat} {vs : List Value} {v : Value} (hr : gm_rd h a = some (4, vs)) (hk : 1 < vs.length) (hn : narrow (gm_ty 4 1) v = v ∧ fits (gm_ty 4 1) v = true) : gm_Go E d 61 11 lv (v :: .ref a :: st) h r ↔ gm_Go E d 61 14 lv st (gm_wr h a (4, vs.set 1 v)) r := gr_wr m61 f61_11 rfl rfl rfl rfl rfl (gf_put k4_13 hr (by decide) hk hn (by decide))
theorem f61_14 : gm_ft 61 14 = some (.aload_n 0, 1) := by decide +kernel
theorem r61_14 {E : Nat → Value} {d : Nat} {st : List Value} {h : gm_H} {r : gm_R × gm_H} {a1 a2 a3 : Value} {x : Nat} : gm_Go E d 61 14 [.ref x, a1, a2, a3] st h r ↔ gm_Go E d 61 15 [.ref x, a1, a2, a3] (.ref x :: st) h r := gr_loc m61 f61_14 rfl rfl
theorem r61_14n {E : Nat → Value} {d : Nat} {st : List Value} {h : gm_H} {r : gm_R × gm_H} {a1 a2 a3 : Value}  : gm_Go E d 61 14 [.null, a1, a2, a3] st h r ↔ gm_Go E d 61 15 [.null, a1, a2, a3] (.null :: st) h r := gr_loc m61 f61_14 rfl rfl
theorem f61_15 : gm_ft 61 15 = some (.iload_n 3, 1) := by decide +kernel
theorem r61_15 {E : Nat → Value} {d : Nat} {st : List Value} {h : gm_H} {r : gm_R × gm_H} {a0 a1 a2 : Value} {x : Int32} : gm_Go E d 61 15 [a0, a1, a2, .int x] st h r ↔ gm_Go E d 61 16 [a0, a1, a2, .int x] (.int x :: st) h r := gr_loc m61 f61_15 rfl rfl
theorem f61_16 : gm_ft 61 16 = some (.newarray .long, 2) := by decide +kernel
theorem f61_18 : gm_ft 61 18 = some (.putfield 17, 3) := by decide +kernel
theorem r61_18 {E : Nat → Value} {d : Nat} {st : List Value} {h : gm_H} {r : gm_R × gm_H} {lv : List Value} {a : Nat} {vs : List Value} {v : Value} (hr : gm_rd h a = some (4, vs)) (hk : 2 < vs.length) (hn : narrow (gm_ty 4 2) v = v ∧ fits (gm_ty 4 2) v = true) : gm_Go E d 61 18 lv (v :: .ref a :: st) h r ↔ gm_Go E d 61 21 lv st (gm_wr h a (4, vs.set 2 v)) r := gr_wr m61 f61_18 rfl rfl rfl rfl rfl (gf_put k4_17 hr (by decide) hk hn (by decide))
theorem f61_21 : gm_ft 61 21 = some (.return_, 1) := by decide +kernel
theorem r61_21 {E : Nat → Value} {d : Nat} {h : gm_H} {r : gm_R × gm_H} {lv : List Value} : gm_Go E d 61 21 lv [] h r ↔ r = (.inl none, h) := gr_ret m61 f61_21 rfl rfl rfl rfl rfl rfl rfl rfl rfl
/-! GraphReader$LocalClass.fillSlots([J)V -/
theorem m62 : gm_mt[62]? = some (⟨"GraphReader$LocalClass", "fillSlots", "([J)V"⟩, prog_4_method_8_code, 5, none, [], 3, 1) := rfl
theorem f62_0 : gm_ft 62 0 = some (.aload_n 0, 1) := by decide +kernel
theorem r62_0 {E : Nat → Value} {d : Nat} {st : List Value} {h : gm_H} {r : gm_R × gm_H} {a1 a2 a3 a4 : Value} {x : Nat} : gm_Go E d 62 0 [.ref x, a1, a2, a3, a4] st h r ↔ gm_Go E d 62 1 [.ref x, a1, a2, a3, a4] (.ref x :: st) h r := gr_loc m62 f62_0 rfl rfl
theorem r62_0n {E : Nat → Value} {d : Nat} {st : List Value} {h : gm_H} {r : gm_R × gm_H} {a1 a2 a3 a4 : Value}  : gm_Go E d 62 0 [.null, a1, a2, a3, a4] st h r ↔ gm_Go E d 62 1 [.null, a1, a2, a3, a4] (.null :: st) h r := gr_loc m62 f62_0 rfl rfl
theorem f62_1 : gm_ft 62 1 = some (.astore_n 2, 1) := by decide +kernel
theorem r62_1 {E : Nat → Value} {d : Nat} {st : List Value} {h : gm_H} {r : gm_R × gm_H} {a0 a1 a2 a3 a4 : Value} {x : Nat} : gm_Go E d 62 1 [a0, a1, a2, a3, a4] (.ref x :: st) h r ↔ gm_Go E d 62 2 [a0, gm_k a1, .ref x, a3, a4] st h r := gr_loc m62 f62_1 rfl rfl
theorem r62_1n {E : Nat → Value} {d : Nat} {st : List Value} {h : gm_H} {r : gm_R × gm_H} {a0 a1 a2 a3 a4 : Value}  : gm_Go E d 62 1 [a0, a1, a2, a3, a4] (.null :: st) h r ↔ gm_Go E d 62 2 [a0, gm_k a1, .null, a3, a4] st h r := gr_loc m62 f62_1 rfl rfl
theorem f62_2 : gm_ft 62 2 = some (.aload_n 2, 1) := by decide +kernel
theorem r62_2 {E : Nat → Value} {d : Nat} {st : List Value} {h : gm_H} {r : gm_R × gm_H} {a0 a1 a3 a4 : Value} {x : Nat} : gm_Go E d 62 2 [a0, a1, .ref x, a3, a4] st h r ↔ gm_Go E d 62 3 [a0, a1, .ref x, a3, a4] (.ref x :: st) h r := gr_loc m62 f62_2 rfl rfl
theorem r62_2n {E : Nat → Value} {d : Nat} {st : List Value} {h : gm_H} {r : gm_R × gm_H} {a0 a1 a3 a4 : Value}  : gm_Go E d 62 2 [a0, a1, .null, a3, a4] st h r ↔ gm_Go E d 62 3 [a0, a1, .null, a3, a4] (.null :: st) h r := gr_loc m62 f62_2 rfl rfl
theorem f62_3 : gm_ft 62 3 = some (.ifnull 61, 3) := by decide +kernel
theorem r62_3n {E : Nat → Value} {d : Nat} {st : List Value} {h : gm_H} {r : gm_R × gm_H} {lv : List Value} : gm_Go E d 62 3 lv (.null :: st) h r ↔ gm_Go E d 62 64 lv st h r := gr_brT m62 f62_3 rfl rfl rfl rfl
theorem r62_3 {E : Nat → Value} {d : Nat} {st : List Value} {h : gm_H} {r : gm_R × gm_H} {lv : List Value} {a : Nat} : gm_Go E d 62 3 lv (.ref a :: st) h r ↔ gm_Go E d 62 6 lv st h r := gr_brF m62 f62_3 rfl rfl rfl rfl
theorem f62_6 : gm_ft 62 6 = some (.aload_n 2, 1) := by decide +kernel
theorem r62_6 {E : Nat → Value} {d : Nat} {st : List Value} {h : gm_H} {r : gm_R × gm_H} {a0 a1 a3 a4 : Value} {x : Nat} : gm_Go E d 62 6 [a0, a1, .ref x, a3, a4] st h r ↔ gm_Go E d 62 7 [a0, a1, .ref x, a3, a4] (.ref x :: st) h r := gr_loc m62 f62_6 rfl rfl
theorem r62_6n {E : Nat → Value} {d : Nat} {st : List Value} {h : gm_H} {r : gm_R × gm_H} {a0 a1 a3 a4 : Value}  : gm_Go E d 62 6 [a0, a1, .null, a3, a4] st h r ↔ gm_Go E d 62 7 [a0, a1, .null, a3, a4] (.null :: st) h r := gr_loc m62 f62_6 rfl rfl
theorem f62_7 : gm_ft 62 7 = some (.invokevirtual 44, 3) := by decide +kernel
theorem n62_7 {st : List Value} {h : gm_H} {E : Nat → Value} {lv : List Value} {a : Nat} (hs : (st.map fun v => v.category).sum ≤ 8) (he : (gm_en1 [.ref a]).length ≤ 1) {vs : List Value} (hr : gm_rd h a = some (3, vs)) : gm_next E 62 7 lv (.ref a :: st) h = some (.inr (.inl (0, 63, [.ref a], st))) := gn_call m62 f62_7 rfl rfl rfl rfl rfl rfl rfl (gc_virt (bs := []) (w := 546) rfl rfl rfl rfl hs he hr) (by decide)
theorem f62_10 : gm_ft 62 10 = some (.istore_n 3, 1) := by decide +kernel
theorem r62_10 {E : Nat → Value} {d : Nat} {st : List Value} {h : gm_H} {r : gm_R × gm_H} {a0 a1 a2 a3 a4 : Value} {x : Int32} : gm_Go E d 62 10 [a0, a1, a2, a3, a4] (.int x :: st) h r ↔ gm_Go E d 62 11 [a0, a1, gm_k a2, .int x, a4] st h r := gr_loc m62 f62_10 rfl rfl
theorem f62_11 : gm_ft 62 11 = some (.iconst 0, 1) := by decide +kernel
theorem r62_11 {E : Nat → Value} {d : Nat} {st : List Value} {h : gm_H} {r : gm_R × gm_H} {lv : List Value} : gm_Go E d 62 11 lv st h r ↔ gm_Go E d 62 12 lv (.int (0 : Int32) :: st) h r := gr_pure m62 f62_11 rfl
theorem f62_12 : gm_ft 62 12 = some (.istore 4, 2) := by decide +kernel
theorem r62_12 {E : Nat → Value} {d : Nat} {st : List Value} {h : gm_H} {r : gm_R × gm_H} {a0 a1 a2 a3 a4 : Value} {x : Int32} : gm_Go E d 62 12 [a0, a1, a2, a3, a4] (.int x :: st) h r ↔ gm_Go E d 62 14 [a0, a1, a2, gm_k a3, .int x] st h r := gr_loc m62 f62_12 rfl rfl
theorem f62_14 : gm_ft 62 14 = some (.iload 4, 2) := by decide +kernel
theorem r62_14 {E : Nat → Value} {d : Nat} {st : List Value} {h : gm_H} {r : gm_R × gm_H} {a0 a1 a2 a3 : Value} {x : Int32} : gm_Go E d 62 14 [a0, a1, a2, a3, .int x] st h r ↔ gm_Go E d 62 16 [a0, a1, a2, a3, .int x] (.int x :: st) h r := gr_loc m62 f62_14 rfl rfl
theorem f62_16 : gm_ft 62 16 = some (.aload_n 2, 1) := by decide +kernel
theorem r62_16 {E : Nat → Value} {d : Nat} {st : List Value} {h : gm_H} {r : gm_R × gm_H} {a0 a1 a3 a4 : Value} {x : Nat} : gm_Go E d 62 16 [a0, a1, .ref x, a3, a4] st h r ↔ gm_Go E d 62 17 [a0, a1, .ref x, a3, a4] (.ref x :: st) h r := gr_loc m62 f62_16 rfl rfl
theorem r62_16n {E : Nat → Value} {d : Nat} {st : List Value} {h : gm_H} {r : gm_R × gm_H} {a0 a1 a3 a4 : Value}  : gm_Go E d 62 16 [a0, a1, .null, a3, a4] st h r ↔ gm_Go E d 62 17 [a0, a1, .null, a3, a4] (.null :: st) h r := gr_loc m62 f62_16 rfl rfl
theorem f62_17 : gm_ft 62 17 = some (.getfield 33, 3) := by decide +kernel
theorem r62_17 {E : Nat → Value} {d : Nat} {st : List Value} {h : gm_H} {r : gm_R × gm_H} {lv : List Value} {a : Nat} {vs : List Value} {v : Value} (hr : gm_rd h a = some (3, vs)) (hv : vs[6]? = some v) : gm_Go E d 62 17 lv (.ref a :: st) h r ↔ gm_Go E d 62 20 lv (v :: st) h r := gr_rd m62 f62_17 rfl rfl rfl rfl (gf_get k3_33 hr hv)
theorem f62_20 : gm_ft 62 20 = some (.if_icmp .ge 36, 3) := by decide +kernel
theorem r62_20 {E : Nat → Value} {d : Nat} {st : List Value} {h : gm_H} {r : gm_R × gm_H} {lv : List Value} {x y : Int32} : gm_Go E d 62 20 lv (.int y :: .int x :: st) h r ↔ (if y ≤ x then gm_Go E d 62 56 lv st h r else gm_Go E d 62 23 lv st h r) := (gr_br m62 f62_20 rfl rfl rfl rfl).trans gr_if
theorem f62_23 : gm_ft 62 23 = some (.iload_n 3, 1) := by decide +kernel
theorem r62_23 {E : Nat → Value} {d : Nat} {st : List Value} {h : gm_H} {r : gm_R × gm_H} {a0 a1 a2 a4 : Value} {x : Int32} : gm_Go E d 62 23 [a0, a1, a2, .int x, a4] st h r ↔ gm_Go E d 62 24 [a0, a1, a2, .int x, a4] (.int x :: st) h r := gr_loc m62 f62_23 rfl rfl
theorem f62_24 : gm_ft 62 24 = some (.iload 4, 2) := by decide +kernel
theorem r62_24 {E : Nat → Value} {d : Nat} {st : List Value} {h : gm_H} {r : gm_R × gm_H} {a0 a1 a2 a3 : Value} {x : Int32} : gm_Go E d 62 24 [a0, a1, a2, a3, .int x] st h r ↔ gm_Go E d 62 26 [a0, a1, a2, a3, .int x] (.int x :: st) h r := gr_loc m62 f62_24 rfl rfl
theorem f62_26 : gm_ft 62 26 = some (.iadd, 1) := by decide +kernel
theorem r62_26 {E : Nat → Value} {d : Nat} {st : List Value} {h : gm_H} {r : gm_R × gm_H} {lv : List Value} {x y : Int32} : gm_Go E d 62 26 lv (.int y :: .int x :: st) h r ↔ gm_Go E d 62 27 lv (.int (x + y) :: st) h r := gr_pure m62 f62_26 rfl
theorem f62_27 : gm_ft 62 27 = some (.aload_n 1, 1) := by decide +kernel
theorem r62_27 {E : Nat → Value} {d : Nat} {st : List Value} {h : gm_H} {r : gm_R × gm_H} {a0 a2 a3 a4 : Value} {x : Nat} : gm_Go E d 62 27 [a0, .ref x, a2, a3, a4] st h r ↔ gm_Go E d 62 28 [a0, .ref x, a2, a3, a4] (.ref x :: st) h r := gr_loc m62 f62_27 rfl rfl
theorem r62_27n {E : Nat → Value} {d : Nat} {st : List Value} {h : gm_H} {r : gm_R × gm_H} {a0 a2 a3 a4 : Value}  : gm_Go E d 62 27 [a0, .null, a2, a3, a4] st h r ↔ gm_Go E d 62 28 [a0, .null, a2, a3, a4] (.null :: st) h r := gr_loc m62 f62_27 rfl rfl
theorem f62_28 : gm_ft 62 28 = some (.arraylength, 1) := by decide +kernel
theorem r62_28 {E : Nat → Value} {d : Nat} {st : List Value} {h : gm_H} {r : gm_R × gm_H} {lv : List Value} {a k : Nat} {vs : List Value} (hr : gm_rd h a = some (k, vs)) (hk : 100 ≤ k) : gm_Go E d 62 28 lv (.ref a :: st) h r ↔ gm_Go E d 62 29 lv (.int (nI vs.length) :: st) h r := gr_rd m62 f62_28 rfl rfl rfl rfl (ga_len hr hk)
theorem f62_29 : gm_ft 62 29 = some (.if_icmp .ge 27, 3) := by decide +kernel
theorem r62_29 {E : Nat → Value} {d : Nat} {st : List Value} {h : gm_H} {r : gm_R × gm_H} {lv : List Value} {x y : Int32} : gm_Go E d 62 29 lv (.int y :: .int x :: st) h r ↔ (if y ≤ x then gm_Go E d 62 56 lv st h r else gm_Go E d 62 32 lv st h r) := (gr_br m62 f62_29 rfl rfl rfl rfl).trans gr_if
theorem f62_32 : gm_ft 62 32 = some (.aload_n 1, 1) := by decide +kernel
theorem r62_32 {E : Nat → Value} {d : Nat} {st : List Value} {h : gm_H} {r : gm_R × gm_H} {a0 a2 a3 a4 : Value} {x : Nat} : gm_Go E d 62 32 [a0, .ref x, a2, a3, a4] st h r ↔ gm_Go E d 62 33 [a0, .ref x, a2, a3, a4] (.ref x :: st) h r := gr_loc m62 f62_32 rfl rfl
theorem r62_32n {E : Nat → Value} {d : Nat} {st : List Value} {h : gm_H} {r : gm_R × gm_H} {a0 a2 a3 a4 : Value}  : gm_Go E d 62 32 [a0, .null, a2, a3, a4] st h r ↔ gm_Go E d 62 33 [a0, .null, a2, a3, a4] (.null :: st) h r := gr_loc m62 f62_32 rfl rfl
theorem f62_33 : gm_ft 62 33 = some (.iload_n 3, 1) := by decide +kernel
theorem r62_33 {E : Nat → Value} {d : Nat} {st : List Value} {h : gm_H} {r : gm_R × gm_H} {a0 a1 a2 a4 : Value} {x : Int32} : gm_Go E d 62 33 [a0, a1, a2, .int x, a4] st h r ↔ gm_Go E d 62 34 [a0, a1, a2, .int x, a4] (.int x :: st) h r := gr_loc m62 f62_33 rfl rfl
theorem f62_34 : gm_ft 62 34 = some (.iload 4, 2) := by decide +kernel
theorem r62_34 {E : Nat → Value} {d : Nat} {st : List Value} {h : gm_H} {r : gm_R × gm_H} {a0 a1 a2 a3 : Value} {x : Int32} : gm_Go E d 62 34 [a0, a1, a2, a3, .int x] st h r ↔ gm_Go E d 62 36 [a0, a1, a2, a3, .int x] (.int x :: st) h r := gr_loc m62 f62_34 rfl rfl
theorem f62_36 : gm_ft 62 36 = some (.iadd, 1) := by decide +kernel
theorem r62_36 {E : Nat → Value} {d : Nat} {st : List Value} {h : gm_H} {r : gm_R × gm_H} {lv : List Value} {x y : Int32} : gm_Go E d 62 36 lv (.int y :: .int x :: st) h r ↔ gm_Go E d 62 37 lv (.int (x + y) :: st) h r := gr_pure m62 f62_36 rfl
theorem f62_37 : gm_ft 62 37 = some (.aload_n 2, 1) := by decide +kernel
theorem r62_37 {E : Nat → Value} {d : Nat} {st : List Value} {h : gm_H} {r : gm_R × gm_H} {a0 a1 a3 a4 : Value} {x : Nat} : gm_Go E d 62 37 [a0, a1, .ref x, a3, a4] st h r ↔ gm_Go E d 62 38 [a0, a1, .ref x, a3, a4] (.ref x :: st) h r := gr_loc m62 f62_37 rfl rfl
theorem r62_37n {E : Nat → Value} {d : Nat} {st : List Value} {h : gm_H} {r : gm_R × gm_H} {a0 a1 a3 a4 : Value}  : gm_Go E d 62 37 [a0, a1, .null, a3, a4] st h r ↔ gm_Go E d 62 38 [a0, a1, .null, a3, a4] (.null :: st) h r := gr_loc m62 f62_37 rfl rfl
theorem f62_38 : gm_ft 62 38 = some (.aload_n 2, 1) := by decide +kernel
theorem r62_38 {E : Nat → Value} {d : Nat} {st : List Value} {h : gm_H} {r : gm_R × gm_H} {a0 a1 a3 a4 : Value} {x : Nat} : gm_Go E d 62 38 [a0, a1, .ref x, a3, a4] st h r ↔ gm_Go E d 62 39 [a0, a1, .ref x, a3, a4] (.ref x :: st) h r := gr_loc m62 f62_38 rfl rfl
theorem r62_38n {E : Nat → Value} {d : Nat} {st : List Value} {h : gm_H} {r : gm_R × gm_H} {a0 a1 a3 a4 : Value}  : gm_Go E d 62 38 [a0, a1, .null, a3, a4] st h r ↔ gm_Go E d 62 39 [a0, a1, .null, a3, a4] (.null :: st) h r := gr_loc m62 f62_38 rfl rfl
theorem f62_39 : gm_ft 62 39 = some (.getfield 15, 3) := by decide +kernel
theorem r62_39 {E : Nat → Value} {d : Nat} {st : List Value} {h : gm_H} {r : gm_R × gm_H} {lv : List Value} {a : Nat} {vs : List Value} {v : Value} (hr : gm_rd h a = some (3, vs)) (hv : vs[5]? = some v) : gm_Go E d 62 39 lv (.ref a :: st) h r ↔ gm_Go E d 62 42 lv (v :: st) h r := gr_rd m62 f62_39 rfl rfl rfl rfl (gf_get k3_15 hr hv)
theorem f62_42 : gm_ft 62 42 = some (.iload 4, 2) := by decide +kernel
theorem r62_42 {E : Nat → Value} {d : Nat} {st : List Value} {h : gm_H} {r : gm_R × gm_H} {a0 a1 a2 a3 : Value} {x : Int32} : gm_Go E d 62 42 [a0, a1, a2, a3, .int x] st h r ↔ gm_Go E d 62 44 [a0, a1, a2, a3, .int x] (.int x :: st) h r := gr_loc m62 f62_42 rfl rfl
theorem f62_44 : gm_ft 62 44 = some (.iaload, 1) := by decide +kernel
theorem r62_44 {E : Nat → Value} {d : Nat} {st : List Value} {h : gm_H} {r : gm_R × gm_H} {lv : List Value} {a k j : Nat} {vs : List Value} {v : Value} (hr : gm_rd h a = some (k, vs)) (hk : 100 ≤ k ∧ (fun t => t == 0) (k % 100) = true) (hj : j < 2 ^ 31) (hv : vs[j]? = some v) : gm_Go E d 62 44 lv (.int (nI j) :: .ref a :: st) h r ↔ gm_Go E d 62 45 lv (v :: st) h r := gr_rd m62 f62_44 rfl rfl rfl rfl (ga_ld (P := fun t => t == 0) hr hk hj hv)
theorem f62_45 : gm_ft 62 45 = some (.invokevirtual 47, 3) := by decide +kernel
theorem n62_45 {st : List Value} {h : gm_H} {E : Nat → Value} {lv : List Value} {b0 : Value} {a : Nat} (hs : (st.map fun v => v.category).sum ≤ 8) (he : (gm_en1 [.ref a, b0]).length ≤ 2) {vs : List Value} (hr : gm_rd h a = some (3, vs)) : gm_next E 62 45 lv (b0 :: .ref a :: st) h = some (.inr (.inl (0, 64, [.ref a, b0], st))) := gn_call m62 f62_45 rfl rfl rfl rfl rfl rfl rfl (gc_virt (bs := [b0]) (w := 551) rfl rfl rfl rfl hs he hr) (by decide)
theorem f62_48 : gm_ft 62 48 = some (.i2l, 1) := by decide +kernel
theorem r62_48 {E : Nat → Value} {d : Nat} {st : List Value} {h : gm_H} {r : gm_R × gm_H} {lv : List Value} {x : Int32} : gm_Go E d 62 48 lv (.int x :: st) h r ↔ gm_Go E d 62 49 lv (.long (x.toInt64) :: st) h r := gr_pure m62 f62_48 rfl
theorem f62_49 : gm_ft 62 49 = some (.lastore, 1) := by decide +kernel
theorem r62_49 {E : Nat → Value} {d : Nat} {st : List Value} {h : gm_H} {r : gm_R × gm_H} {lv : List Value} {a k j : Nat} {vs : List Value} {x : Int64} (hr : gm_rd h a = some (k, vs)) (hk : 100 ≤ k ∧ k % 100 = 1 ∧ gm_ko k = 1 ∧ 1 < 3) (hj : j < 2 ^ 31) (hl : j < vs.length) : gm_Go E d 62 49 lv (.long x :: .int (nI j) :: .ref a :: st) h r ↔ gm_Go E d 62 50 lv st (gm_wr h a (k, vs.set j (.long x))) r := gr_wr m62 f62_49 rfl rfl rfl rfl rfl (ga_st hr hk hj hl)
theorem f62_50 : gm_ft 62 50 = some (.iinc 4 1, 3) := by decide +kernel
theorem r62_50 {E : Nat → Value} {d : Nat} {st : List Value} {h : gm_H} {r : gm_R × gm_H} {a0 a1 a2 a3 : Value} {x : Int32} : gm_Go E d 62 50 [a0, a1, a2, a3, .int x] st h r ↔ gm_Go E d 62 53 [a0, a1, a2, gm_k a3, .int (x + (1 : Int32))] st h r := gr_loc m62 f62_50 rfl rfl
theorem f62_53 : gm_ft 62 53 = some (.goto (-39), 3) := by decide +kernel
theorem r62_53 {E : Nat → Value} {d : Nat} {st : List Value} {h : gm_H} {r : gm_R × gm_H} {lv : List Value} : gm_Go E d 62 53 lv st h r ↔ gm_Go E d 62 14 lv st h r := gr_brT m62 f62_53 rfl rfl rfl rfl
theorem f62_56 : gm_ft 62 56 = some (.aload_n 2, 1) := by decide +kernel
theorem r62_56 {E : Nat → Value} {d : Nat} {st : List Value} {h : gm_H} {r : gm_R × gm_H} {a0 a1 a3 a4 : Value} {x : Nat} : gm_Go E d 62 56 [a0, a1, .ref x, a3, a4] st h r ↔ gm_Go E d 62 57 [a0, a1, .ref x, a3, a4] (.ref x :: st) h r := gr_loc m62 f62_56 rfl rfl
theorem r62_56n {E : Nat → Value} {d : Nat} {st : List Value} {h : gm_H} {r : gm_R × gm_H} {a0 a1 a3 a4 : Value}  : gm_Go E d 62 56 [a0, a1, .null, a3, a4] st h r ↔ gm_Go E d 62 57 [a0, a1, .null, a3, a4] (.null :: st) h r := gr_loc m62 f62_56 rfl rfl
theorem f62_57 : gm_ft 62 57 = some (.getfield 25, 3) := by decide +kernel
theorem r62_57 {E : Nat → Value} {d : Nat} {st : List Value} {h : gm_H} {r : gm_R × gm_H} {lv : List Value} {a : Nat} {vs : List Value} {v : Value} (hr : gm_rd h a = some (3, vs)) (hv : vs[2]? = some v) : gm_Go E d 62 57 lv (.ref a :: st) h r ↔ gm_Go E d 62 60 lv (v :: st) h r := gr_rd m62 f62_57 rfl rfl rfl rfl (gf_get k3_25 hr hv)
theorem f62_60 : gm_ft 62 60 = some (.astore_n 2, 1) := by decide +kernel
theorem r62_60 {E : Nat → Value} {d : Nat} {st : List Value} {h : gm_H} {r : gm_R × gm_H} {a0 a1 a2 a3 a4 : Value} {x : Nat} : gm_Go E d 62 60 [a0, a1, a2, a3, a4] (.ref x :: st) h r ↔ gm_Go E d 62 61 [a0, gm_k a1, .ref x, a3, a4] st h r := gr_loc m62 f62_60 rfl rfl
theorem r62_60n {E : Nat → Value} {d : Nat} {st : List Value} {h : gm_H} {r : gm_R × gm_H} {a0 a1 a2 a3 a4 : Value}  : gm_Go E d 62 60 [a0, a1, a2, a3, a4] (.null :: st) h r ↔ gm_Go E d 62 61 [a0, gm_k a1, .null, a3, a4] st h r := gr_loc m62 f62_60 rfl rfl
theorem f62_61 : gm_ft 62 61 = some (.goto (-59), 3) := by decide +kernel
theorem r62_61 {E : Nat → Value} {d : Nat} {st : List Value} {h : gm_H} {r : gm_R × gm_H} {lv : List Value} : gm_Go E d 62 61 lv st h r ↔ gm_Go E d 62 2 lv st h r := gr_brT m62 f62_61 rfl rfl rfl rfl
theorem f62_64 : gm_ft 62 64 = some (.return_, 1) := by decide +kernel
theorem r62_64 {E : Nat → Value} {d : Nat} {h : gm_H} {r : gm_R × gm_H} {lv : List Value} : gm_Go E d 62 64 lv [] h r ↔ r = (.inl none, h) := gr_ret m62 f62_64 rfl rfl rfl rfl rfl rfl rfl rfl rfl
/-! GraphReader$LocalClass.firstSlot()I -/
theorem m63 : gm_mt[63]? = some (⟨"GraphReader$LocalClass", "firstSlot", "()I"⟩, prog_4_method_5_code, 1, (some .int), [], 3, 1) := rfl
theorem f63_0 : gm_ft 63 0 = some (.aload_n 0, 1) := by decide +kernel
theorem r63_0 {E : Nat → Value} {d : Nat} {st : List Value} {h : gm_H} {r : gm_R × gm_H}  {x : Nat} : gm_Go E d 63 0 [.ref x] st h r ↔ gm_Go E d 63 1 [.ref x] (.ref x :: st) h r := gr_loc m63 f63_0 rfl rfl
theorem r63_0n {E : Nat → Value} {d : Nat} {st : List Value} {h : gm_H} {r : gm_R × gm_H}   : gm_Go E d 63 0 [.null] st h r ↔ gm_Go E d 63 1 [.null] (.null :: st) h r := gr_loc m63 f63_0 rfl rfl
theorem f63_1 : gm_ft 63 1 = some (.getfield 25, 3) := by decide +kernel
theorem r63_1 {E : Nat → Value} {d : Nat} {st : List Value} {h : gm_H} {r : gm_R × gm_H} {lv : List Value} {a : Nat} {vs : List Value} {v : Value} (hr : gm_rd h a = some (3, vs)) (hv : vs[2]? = some v) : gm_Go E d 63 1 lv (.ref a :: st) h r ↔ gm_Go E d 63 4 lv (v :: st) h r := gr_rd m63 f63_1 rfl rfl rfl rfl (gf_get k3_25 hr hv)
theorem f63_4 : gm_ft 63 4 = some (.ifnonnull 7, 3) := by decide +kernel
theorem r63_4n {E : Nat → Value} {d : Nat} {st : List Value} {h : gm_H} {r : gm_R × gm_H} {lv : List Value} : gm_Go E d 63 4 lv (.null :: st) h r ↔ gm_Go E d 63 7 lv st h r := gr_brF m63 f63_4 rfl rfl rfl rfl
theorem r63_4 {E : Nat → Value} {d : Nat} {st : List Value} {h : gm_H} {r : gm_R × gm_H} {lv : List Value} {a : Nat} : gm_Go E d 63 4 lv (.ref a :: st) h r ↔ gm_Go E d 63 11 lv st h r := gr_brT m63 f63_4 rfl rfl rfl rfl
theorem f63_7 : gm_ft 63 7 = some (.iconst 0, 1) := by decide +kernel
theorem r63_7 {E : Nat → Value} {d : Nat} {st : List Value} {h : gm_H} {r : gm_R × gm_H} {lv : List Value} : gm_Go E d 63 7 lv st h r ↔ gm_Go E d 63 8 lv (.int (0 : Int32) :: st) h r := gr_pure m63 f63_7 rfl
theorem f63_8 : gm_ft 63 8 = some (.goto 10, 3) := by decide +kernel
theorem r63_8 {E : Nat → Value} {d : Nat} {st : List Value} {h : gm_H} {r : gm_R × gm_H} {lv : List Value} : gm_Go E d 63 8 lv st h r ↔ gm_Go E d 63 18 lv st h r := gr_brT m63 f63_8 rfl rfl rfl rfl
theorem f63_11 : gm_ft 63 11 = some (.aload_n 0, 1) := by decide +kernel
theorem r63_11 {E : Nat → Value} {d : Nat} {st : List Value} {h : gm_H} {r : gm_R × gm_H}  {x : Nat} : gm_Go E d 63 11 [.ref x] st h r ↔ gm_Go E d 63 12 [.ref x] (.ref x :: st) h r := gr_loc m63 f63_11 rfl rfl
theorem r63_11n {E : Nat → Value} {d : Nat} {st : List Value} {h : gm_H} {r : gm_R × gm_H}   : gm_Go E d 63 11 [.null] st h r ↔ gm_Go E d 63 12 [.null] (.null :: st) h r := gr_loc m63 f63_11 rfl rfl
theorem f63_12 : gm_ft 63 12 = some (.getfield 25, 3) := by decide +kernel
theorem r63_12 {E : Nat → Value} {d : Nat} {st : List Value} {h : gm_H} {r : gm_R × gm_H} {lv : List Value} {a : Nat} {vs : List Value} {v : Value} (hr : gm_rd h a = some (3, vs)) (hv : vs[2]? = some v) : gm_Go E d 63 12 lv (.ref a :: st) h r ↔ gm_Go E d 63 15 lv (v :: st) h r := gr_rd m63 f63_12 rfl rfl rfl rfl (gf_get k3_25 hr hv)
theorem f63_15 : gm_ft 63 15 = some (.invokevirtual 36, 3) := by decide +kernel
theorem n63_15 {st : List Value} {h : gm_H} {E : Nat → Value} {lv : List Value} {a : Nat} (hs : (st.map fun v => v.category).sum ≤ 8) (he : (gm_en1 [.ref a]).length ≤ 3) {vs : List Value} (hr : gm_rd h a = some (3, vs)) : gm_next E 63 15 lv (.ref a :: st) h = some (.inr (.inl (0, 60, [.ref a], st))) := gn_call m63 f63_15 rfl rfl rfl rfl rfl rfl rfl (gc_virt (bs := []) (w := 550) rfl rfl rfl rfl hs he hr) (by decide)
theorem f63_18 : gm_ft 63 18 = some (.ireturn, 1) := by decide +kernel
theorem r63_18 {E : Nat → Value} {d : Nat} {h : gm_H} {r : gm_R × gm_H} {lv : List Value} {x : Int32} : gm_Go E d 63 18 lv [.int x] h r ↔ r = (.inl (some (.int x)), h) := gr_ret m63 f63_18 rfl rfl rfl rfl rfl rfl rfl rfl (by unfold gm_rt; dsimp only; rw [if_pos ⟨rfl, rfl⟩])
/-! GraphReader$LocalClass.valueAtFirst(I)I -/
theorem m64 : gm_mt[64]? = some (⟨"GraphReader$LocalClass", "valueAtFirst", "(I)I"⟩, prog_4_method_9_code, 2, (some .int), [], 3, 1) := rfl
theorem f64_0 : gm_ft 64 0 = some (.iload_n 1, 1) := by decide +kernel
theorem r64_0 {E : Nat → Value} {d : Nat} {st : List Value} {h : gm_H} {r : gm_R × gm_H} {a0 : Value} {x : Int32} : gm_Go E d 64 0 [a0, .int x] st h r ↔ gm_Go E d 64 1 [a0, .int x] (.int x :: st) h r := gr_loc m64 f64_0 rfl rfl
theorem f64_1 : gm_ft 64 1 = some (.bipush 6, 2) := by decide +kernel
theorem r64_1 {E : Nat → Value} {d : Nat} {st : List Value} {h : gm_H} {r : gm_R × gm_H} {lv : List Value} : gm_Go E d 64 1 lv st h r ↔ gm_Go E d 64 3 lv (.int (6 : Int32) :: st) h r := gr_pure m64 f64_1 rfl
theorem f64_3 : gm_ft 64 3 = some (.if_icmp .lt 6, 3) := by decide +kernel
theorem r64_3 {E : Nat → Value} {d : Nat} {st : List Value} {h : gm_H} {r : gm_R × gm_H} {lv : List Value} {x y : Int32} : gm_Go E d 64 3 lv (.int y :: .int x :: st) h r ↔ (if x < y then gm_Go E d 64 9 lv st h r else gm_Go E d 64 6 lv st h r) := (gr_br m64 f64_3 rfl rfl rfl rfl).trans gr_if
theorem f64_6 : gm_ft 64 6 = some (.bipush (-2), 2) := by decide +kernel
theorem r64_6 {E : Nat → Value} {d : Nat} {st : List Value} {h : gm_H} {r : gm_R × gm_H} {lv : List Value} : gm_Go E d 64 6 lv st h r ↔ gm_Go E d 64 8 lv (.int (-2 : Int32) :: st) h r := gr_pure m64 f64_6 rfl
theorem f64_8 : gm_ft 64 8 = some (.ireturn, 1) := by decide +kernel
theorem r64_8 {E : Nat → Value} {d : Nat} {h : gm_H} {r : gm_R × gm_H} {lv : List Value} {x : Int32} : gm_Go E d 64 8 lv [.int x] h r ↔ r = (.inl (some (.int x)), h) := gr_ret m64 f64_8 rfl rfl rfl rfl rfl rfl rfl rfl (by unfold gm_rt; dsimp only; rw [if_pos ⟨rfl, rfl⟩])
theorem f64_9 : gm_ft 64 9 = some (.aload_n 0, 1) := by decide +kernel
theorem r64_9 {E : Nat → Value} {d : Nat} {st : List Value} {h : gm_H} {r : gm_R × gm_H} {a1 : Value} {x : Nat} : gm_Go E d 64 9 [.ref x, a1] st h r ↔ gm_Go E d 64 10 [.ref x, a1] (.ref x :: st) h r := gr_loc m64 f64_9 rfl rfl
theorem r64_9n {E : Nat → Value} {d : Nat} {st : List Value} {h : gm_H} {r : gm_R × gm_H} {a1 : Value}  : gm_Go E d 64 9 [.null, a1] st h r ↔ gm_Go E d 64 10 [.null, a1] (.null :: st) h r := gr_loc m64 f64_9 rfl rfl
theorem f64_10 : gm_ft 64 10 = some (.getfield 22, 3) := by decide +kernel
theorem r64_10 {E : Nat → Value} {d : Nat} {st : List Value} {h : gm_H} {r : gm_R × gm_H} {lv : List Value} {a : Nat} {vs : List Value} {v : Value} (hr : gm_rd h a = some (3, vs)) (hv : vs[1]? = some v) : gm_Go E d 64 10 lv (.ref a :: st) h r ↔ gm_Go E d 64 13 lv (v :: st) h r := gr_rd m64 f64_10 rfl rfl rfl rfl (gf_get k3_22 hr hv)
theorem f64_13 : gm_ft 64 13 = some (.ifCond .eq 5, 3) := by decide +kernel
theorem r64_13 {E : Nat → Value} {d : Nat} {st : List Value} {h : gm_H} {r : gm_R × gm_H} {lv : List Value} {x : Int32} : gm_Go E d 64 13 lv (.int x :: st) h r ↔ (if x = 0 then gm_Go E d 64 18 lv st h r else gm_Go E d 64 16 lv st h r) := (gr_br m64 f64_13 rfl rfl rfl rfl).trans gr_if
theorem f64_16 : gm_ft 64 16 = some (.iconst 0, 1) := by decide +kernel
theorem r64_16 {E : Nat → Value} {d : Nat} {st : List Value} {h : gm_H} {r : gm_R × gm_H} {lv : List Value} : gm_Go E d 64 16 lv st h r ↔ gm_Go E d 64 17 lv (.int (0 : Int32) :: st) h r := gr_pure m64 f64_16 rfl
theorem f64_17 : gm_ft 64 17 = some (.ireturn, 1) := by decide +kernel
theorem r64_17 {E : Nat → Value} {d : Nat} {h : gm_H} {r : gm_R × gm_H} {lv : List Value} {x : Int32} : gm_Go E d 64 17 lv [.int x] h r ↔ r = (.inl (some (.int x)), h) := gr_ret m64 f64_17 rfl rfl rfl rfl rfl rfl rfl rfl (by unfold gm_rt; dsimp only; rw [if_pos ⟨rfl, rfl⟩])
theorem f64_18 : gm_ft 64 18 = some (.iload_n 1, 1) := by decide +kernel
theorem r64_18 {E : Nat → Value} {d : Nat} {st : List Value} {h : gm_H} {r : gm_R × gm_H} {a0 : Value} {x : Int32} : gm_Go E d 64 18 [a0, .int x] st h r ↔ gm_Go E d 64 19 [a0, .int x] (.int x :: st) h r := gr_loc m64 f64_18 rfl rfl
theorem f64_19 : gm_ft 64 19 = some (.iconst 5, 1) := by decide +kernel
theorem r64_19 {E : Nat → Value} {d : Nat} {st : List Value} {h : gm_H} {r : gm_R × gm_H} {lv : List Value} : gm_Go E d 64 19 lv st h r ↔ gm_Go E d 64 20 lv (.int (5 : Int32) :: st) h r := gr_pure m64 f64_19 rfl
theorem f64_20 : gm_ft 64 20 = some (.if_icmp .ne 7, 3) := by decide +kernel
theorem r64_20 {E : Nat → Value} {d : Nat} {st : List Value} {h : gm_H} {r : gm_R × gm_H} {lv : List Value} {x y : Int32} : gm_Go E d 64 20 lv (.int y :: .int x :: st) h r ↔ (if x = y then gm_Go E d 64 23 lv st h r else gm_Go E d 64 27 lv st h r) := (gr_br m64 f64_20 rfl rfl rfl rfl).trans gr_ifn
theorem f64_23 : gm_ft 64 23 = some (.iconst 1, 1) := by decide +kernel
theorem r64_23 {E : Nat → Value} {d : Nat} {st : List Value} {h : gm_H} {r : gm_R × gm_H} {lv : List Value} : gm_Go E d 64 23 lv st h r ↔ gm_Go E d 64 24 lv (.int (1 : Int32) :: st) h r := gr_pure m64 f64_23 rfl
theorem f64_24 : gm_ft 64 24 = some (.goto 5, 3) := by decide +kernel
theorem r64_24 {E : Nat → Value} {d : Nat} {st : List Value} {h : gm_H} {r : gm_R × gm_H} {lv : List Value} : gm_Go E d 64 24 lv st h r ↔ gm_Go E d 64 29 lv st h r := gr_brT m64 f64_24 rfl rfl rfl rfl
theorem f64_27 : gm_ft 64 27 = some (.bipush 7, 2) := by decide +kernel
theorem r64_27 {E : Nat → Value} {d : Nat} {st : List Value} {h : gm_H} {r : gm_R × gm_H} {lv : List Value} : gm_Go E d 64 27 lv st h r ↔ gm_Go E d 64 29 lv (.int (7 : Int32) :: st) h r := gr_pure m64 f64_27 rfl
theorem f64_29 : gm_ft 64 29 = some (.ireturn, 1) := by decide +kernel
theorem r64_29 {E : Nat → Value} {d : Nat} {h : gm_H} {r : gm_R × gm_H} {lv : List Value} {x : Int32} : gm_Go E d 64 29 lv [.int x] h r ↔ r = (.inl (some (.int x)), h) := gr_ret m64 f64_29 rfl rfl rfl rfl rfl rfl rfl rfl (by unfold gm_rt; dsimp only; rw [if_pos ⟨rfl, rfl⟩])
/-! GraphReader.addThing(LGraphReader$Thing;)I -/
theorem m65 : gm_mt[65]? = some (⟨"GraphReader", "addThing", "(LGraphReader$Thing;)I"⟩, prog_1_method_27_code, 2, (some .int), [], 0, 1) := rfl
theorem f65_0 : gm_ft 65 0 = some (.aload_n 0, 1) := by decide +kernel
theorem r65_0 {E : Nat → Value} {d : Nat} {st : List Value} {h : gm_H} {r : gm_R × gm_H} {a1 : Value} {x : Nat} : gm_Go E d 65 0 [.ref x, a1] st h r ↔ gm_Go E d 65 1 [.ref x, a1] (.ref x :: st) h r := gr_loc m65 f65_0 rfl rfl
theorem r65_0n {E : Nat → Value} {d : Nat} {st : List Value} {h : gm_H} {r : gm_R × gm_H} {a1 : Value}  : gm_Go E d 65 0 [.null, a1] st h r ↔ gm_Go E d 65 1 [.null, a1] (.null :: st) h r := gr_loc m65 f65_0 rfl rfl
theorem f65_1 : gm_ft 65 1 = some (.getfield 72, 3) := by decide +kernel
theorem r65_1 {E : Nat → Value} {d : Nat} {st : List Value} {h : gm_H} {r : gm_R × gm_H} {lv : List Value} {a : Nat} {vs : List Value} {v : Value} (hr : gm_rd h a = some (0, vs)) (hv : vs[9]? = some v) : gm_Go E d 65 1 lv (.ref a :: st) h r ↔ gm_Go E d 65 4 lv (v :: st) h r := gr_rd m65 f65_1 rfl rfl rfl rfl (gf_get k0_72 hr hv)
theorem f65_4 : gm_ft 65 4 = some (.sipush 234, 3) := by decide +kernel
theorem r65_4 {E : Nat → Value} {d : Nat} {st : List Value} {h : gm_H} {r : gm_R × gm_H} {lv : List Value} : gm_Go E d 65 4 lv st h r ↔ gm_Go E d 65 7 lv (.int (234 : Int32) :: st) h r := gr_pure m65 f65_4 rfl
theorem f65_7 : gm_ft 65 7 = some (.if_icmp .lt 10, 3) := by decide +kernel
theorem r65_7 {E : Nat → Value} {d : Nat} {st : List Value} {h : gm_H} {r : gm_R × gm_H} {lv : List Value} {x y : Int32} : gm_Go E d 65 7 lv (.int y :: .int x :: st) h r ↔ (if x < y then gm_Go E d 65 17 lv st h r else gm_Go E d 65 10 lv st h r) := (gr_br m65 f65_7 rfl rfl rfl rfl).trans gr_if
theorem f65_10 : gm_ft 65 10 = some (.aload_n 0, 1) := by decide +kernel
theorem r65_10 {E : Nat → Value} {d : Nat} {st : List Value} {h : gm_H} {r : gm_R × gm_H} {a1 : Value} {x : Nat} : gm_Go E d 65 10 [.ref x, a1] st h r ↔ gm_Go E d 65 11 [.ref x, a1] (.ref x :: st) h r := gr_loc m65 f65_10 rfl rfl
theorem r65_10n {E : Nat → Value} {d : Nat} {st : List Value} {h : gm_H} {r : gm_R × gm_H} {a1 : Value}  : gm_Go E d 65 10 [.null, a1] st h r ↔ gm_Go E d 65 11 [.null, a1] (.null :: st) h r := gr_loc m65 f65_10 rfl rfl
theorem f65_11 : gm_ft 65 11 = some (.bipush (-8), 2) := by decide +kernel
theorem r65_11 {E : Nat → Value} {d : Nat} {st : List Value} {h : gm_H} {r : gm_R × gm_H} {lv : List Value} : gm_Go E d 65 11 lv st h r ↔ gm_Go E d 65 13 lv (.int (-8 : Int32) :: st) h r := gr_pure m65 f65_11 rfl
theorem f65_13 : gm_ft 65 13 = some (.invokevirtual 160, 3) := by decide +kernel
theorem n65_13 {st : List Value} {h : gm_H} {E : Nat → Value} {lv : List Value} {b0 : Value} {a : Nat} (hs : (st.map fun v => v.category).sum ≤ 8) (he : (gm_en1 [.ref a, b0]).length ≤ 2) {vs : List Value} (hr : gm_rd h a = some (0, vs)) : gm_next E 65 13 lv (b0 :: .ref a :: st) h = some (.inr (.inl (0, 22, [.ref a, b0], st))) := gn_call m65 f65_13 rfl rfl rfl rfl rfl rfl rfl (gc_virt (bs := [b0]) (w := 206) rfl rfl rfl rfl hs he hr) (by decide)
theorem f65_16 : gm_ft 65 16 = some (.ireturn, 1) := by decide +kernel
theorem r65_16 {E : Nat → Value} {d : Nat} {h : gm_H} {r : gm_R × gm_H} {lv : List Value} {x : Int32} : gm_Go E d 65 16 lv [.int x] h r ↔ r = (.inl (some (.int x)), h) := gr_ret m65 f65_16 rfl rfl rfl rfl rfl rfl rfl rfl (by unfold gm_rt; dsimp only; rw [if_pos ⟨rfl, rfl⟩])
theorem f65_17 : gm_ft 65 17 = some (.aload_n 0, 1) := by decide +kernel
theorem r65_17 {E : Nat → Value} {d : Nat} {st : List Value} {h : gm_H} {r : gm_R × gm_H} {a1 : Value} {x : Nat} : gm_Go E d 65 17 [.ref x, a1] st h r ↔ gm_Go E d 65 18 [.ref x, a1] (.ref x :: st) h r := gr_loc m65 f65_17 rfl rfl
theorem r65_17n {E : Nat → Value} {d : Nat} {st : List Value} {h : gm_H} {r : gm_R × gm_H} {a1 : Value}  : gm_Go E d 65 17 [.null, a1] st h r ↔ gm_Go E d 65 18 [.null, a1] (.null :: st) h r := gr_loc m65 f65_17 rfl rfl
theorem f65_18 : gm_ft 65 18 = some (.getfield 21, 3) := by decide +kernel
theorem r65_18 {E : Nat → Value} {d : Nat} {st : List Value} {h : gm_H} {r : gm_R × gm_H} {lv : List Value} {a : Nat} {vs : List Value} {v : Value} (hr : gm_rd h a = some (0, vs)) (hv : vs[8]? = some v) : gm_Go E d 65 18 lv (.ref a :: st) h r ↔ gm_Go E d 65 21 lv (v :: st) h r := gr_rd m65 f65_18 rfl rfl rfl rfl (gf_get k0_21 hr hv)
theorem f65_21 : gm_ft 65 21 = some (.aload_n 0, 1) := by decide +kernel
theorem r65_21 {E : Nat → Value} {d : Nat} {st : List Value} {h : gm_H} {r : gm_R × gm_H} {a1 : Value} {x : Nat} : gm_Go E d 65 21 [.ref x, a1] st h r ↔ gm_Go E d 65 22 [.ref x, a1] (.ref x :: st) h r := gr_loc m65 f65_21 rfl rfl
theorem r65_21n {E : Nat → Value} {d : Nat} {st : List Value} {h : gm_H} {r : gm_R × gm_H} {a1 : Value}  : gm_Go E d 65 21 [.null, a1] st h r ↔ gm_Go E d 65 22 [.null, a1] (.null :: st) h r := gr_loc m65 f65_21 rfl rfl
theorem f65_22 : gm_ft 65 22 = some (.getfield 72, 3) := by decide +kernel
theorem r65_22 {E : Nat → Value} {d : Nat} {st : List Value} {h : gm_H} {r : gm_R × gm_H} {lv : List Value} {a : Nat} {vs : List Value} {v : Value} (hr : gm_rd h a = some (0, vs)) (hv : vs[9]? = some v) : gm_Go E d 65 22 lv (.ref a :: st) h r ↔ gm_Go E d 65 25 lv (v :: st) h r := gr_rd m65 f65_22 rfl rfl rfl rfl (gf_get k0_72 hr hv)
theorem f65_25 : gm_ft 65 25 = some (.aload_n 1, 1) := by decide +kernel
theorem r65_25 {E : Nat → Value} {d : Nat} {st : List Value} {h : gm_H} {r : gm_R × gm_H} {a0 : Value} {x : Nat} : gm_Go E d 65 25 [a0, .ref x] st h r ↔ gm_Go E d 65 26 [a0, .ref x] (.ref x :: st) h r := gr_loc m65 f65_25 rfl rfl
theorem r65_25n {E : Nat → Value} {d : Nat} {st : List Value} {h : gm_H} {r : gm_R × gm_H} {a0 : Value}  : gm_Go E d 65 25 [a0, .null] st h r ↔ gm_Go E d 65 26 [a0, .null] (.null :: st) h r := gr_loc m65 f65_25 rfl rfl
theorem f65_26 : gm_ft 65 26 = some (.aastore, 1) := by decide +kernel
theorem f65_27 : gm_ft 65 27 = some (.aload_n 0, 1) := by decide +kernel
theorem r65_27 {E : Nat → Value} {d : Nat} {st : List Value} {h : gm_H} {r : gm_R × gm_H} {a1 : Value} {x : Nat} : gm_Go E d 65 27 [.ref x, a1] st h r ↔ gm_Go E d 65 28 [.ref x, a1] (.ref x :: st) h r := gr_loc m65 f65_27 rfl rfl
theorem r65_27n {E : Nat → Value} {d : Nat} {st : List Value} {h : gm_H} {r : gm_R × gm_H} {a1 : Value}  : gm_Go E d 65 27 [.null, a1] st h r ↔ gm_Go E d 65 28 [.null, a1] (.null :: st) h r := gr_loc m65 f65_27 rfl rfl
theorem f65_28 : gm_ft 65 28 = some (.dup, 1) := by decide +kernel
theorem r65_28 {E : Nat → Value} {d : Nat} {st : List Value} {h : gm_H} {r : gm_R × gm_H} {lv : List Value} {a : Nat} : gm_Go E d 65 28 lv (.ref a :: st) h r ↔ gm_Go E d 65 29 lv (.ref a :: .ref a :: st) h r := gr_pure m65 f65_28 rfl
theorem r65_28i {E : Nat → Value} {d : Nat} {st : List Value} {h : gm_H} {r : gm_R × gm_H} {lv : List Value} {x : Int32} : gm_Go E d 65 28 lv (.int x :: st) h r ↔ gm_Go E d 65 29 lv (.int x :: .int x :: st) h r := gr_pure m65 f65_28 rfl
theorem f65_29 : gm_ft 65 29 = some (.getfield 72, 3) := by decide +kernel
theorem r65_29 {E : Nat → Value} {d : Nat} {st : List Value} {h : gm_H} {r : gm_R × gm_H} {lv : List Value} {a : Nat} {vs : List Value} {v : Value} (hr : gm_rd h a = some (0, vs)) (hv : vs[9]? = some v) : gm_Go E d 65 29 lv (.ref a :: st) h r ↔ gm_Go E d 65 32 lv (v :: st) h r := gr_rd m65 f65_29 rfl rfl rfl rfl (gf_get k0_72 hr hv)
theorem f65_32 : gm_ft 65 32 = some (.iconst 1, 1) := by decide +kernel
theorem r65_32 {E : Nat → Value} {d : Nat} {st : List Value} {h : gm_H} {r : gm_R × gm_H} {lv : List Value} : gm_Go E d 65 32 lv st h r ↔ gm_Go E d 65 33 lv (.int (1 : Int32) :: st) h r := gr_pure m65 f65_32 rfl
theorem f65_33 : gm_ft 65 33 = some (.iadd, 1) := by decide +kernel
theorem r65_33 {E : Nat → Value} {d : Nat} {st : List Value} {h : gm_H} {r : gm_R × gm_H} {lv : List Value} {x y : Int32} : gm_Go E d 65 33 lv (.int y :: .int x :: st) h r ↔ gm_Go E d 65 34 lv (.int (x + y) :: st) h r := gr_pure m65 f65_33 rfl
theorem f65_34 : gm_ft 65 34 = some (.putfield 72, 3) := by decide +kernel
theorem r65_34 {E : Nat → Value} {d : Nat} {st : List Value} {h : gm_H} {r : gm_R × gm_H} {lv : List Value} {a : Nat} {vs : List Value} {v : Value} (hr : gm_rd h a = some (0, vs)) (hk : 9 < vs.length) (hn : narrow (gm_ty 0 9) v = v ∧ fits (gm_ty 0 9) v = true) : gm_Go E d 65 34 lv (v :: .ref a :: st) h r ↔ gm_Go E d 65 37 lv st (gm_wr h a (0, vs.set 9 v)) r := gr_wr m65 f65_34 rfl rfl rfl rfl rfl (gf_put k0_72 hr (by decide) hk hn (by decide))
theorem f65_37 : gm_ft 65 37 = some (.aload_n 0, 1) := by decide +kernel
theorem r65_37 {E : Nat → Value} {d : Nat} {st : List Value} {h : gm_H} {r : gm_R × gm_H} {a1 : Value} {x : Nat} : gm_Go E d 65 37 [.ref x, a1] st h r ↔ gm_Go E d 65 38 [.ref x, a1] (.ref x :: st) h r := gr_loc m65 f65_37 rfl rfl
theorem r65_37n {E : Nat → Value} {d : Nat} {st : List Value} {h : gm_H} {r : gm_R × gm_H} {a1 : Value}  : gm_Go E d 65 37 [.null, a1] st h r ↔ gm_Go E d 65 38 [.null, a1] (.null :: st) h r := gr_loc m65 f65_37 rfl rfl
theorem f65_38 : gm_ft 65 38 = some (.getfield 72, 3) := by decide +kernel
theorem r65_38 {E : Nat → Value} {d : Nat} {st : List Value} {h : gm_H} {r : gm_R × gm_H} {lv : List Value} {a : Nat} {vs : List Value} {v : Value} (hr : gm_rd h a = some (0, vs)) (hv : vs[9]? = some v) : gm_Go E d 65 38 lv (.ref a :: st) h r ↔ gm_Go E d 65 41 lv (v :: st) h r := gr_rd m65 f65_38 rfl rfl rfl rfl (gf_get k0_72 hr hv)
theorem f65_41 : gm_ft 65 41 = some (.iconst 1, 1) := by decide +kernel
theorem r65_41 {E : Nat → Value} {d : Nat} {st : List Value} {h : gm_H} {r : gm_R × gm_H} {lv : List Value} : gm_Go E d 65 41 lv st h r ↔ gm_Go E d 65 42 lv (.int (1 : Int32) :: st) h r := gr_pure m65 f65_41 rfl
theorem f65_42 : gm_ft 65 42 = some (.isub, 1) := by decide +kernel
theorem r65_42 {E : Nat → Value} {d : Nat} {st : List Value} {h : gm_H} {r : gm_R × gm_H} {lv : List Value} {x y : Int32} : gm_Go E d 65 42 lv (.int y :: .int x :: st) h r ↔ gm_Go E d 65 43 lv (.int (x - y) :: st) h r := gr_pure m65 f65_42 rfl
theorem f65_43 : gm_ft 65 43 = some (.ireturn, 1) := by decide +kernel
theorem r65_43 {E : Nat → Value} {d : Nat} {h : gm_H} {r : gm_R × gm_H} {lv : List Value} {x : Int32} : gm_Go E d 65 43 lv [.int x] h r ↔ r = (.inl (some (.int x)), h) := gr_ret m65 f65_43 rfl rfl rfl rfl rfl rfl rfl rfl (by unfold gm_rt; dsimp only; rw [if_pos ⟨rfl, rfl⟩])
/-! GraphReader$Descriptor.stepsUp(I)LGraphReader$Descriptor; -/
theorem m66 : gm_mt[66]? = some (⟨"GraphReader$Descriptor", "stepsUp", "(I)LGraphReader$Descriptor;"⟩, prog_2_method_6_code, 4, (some (.object "GraphReader$Descriptor")), [], 1, 1) := rfl
theorem f66_0 : gm_ft 66 0 = some (.aload_n 0, 1) := by decide +kernel
theorem r66_0 {E : Nat → Value} {d : Nat} {st : List Value} {h : gm_H} {r : gm_R × gm_H} {a1 a2 a3 : Value} {x : Nat} : gm_Go E d 66 0 [.ref x, a1, a2, a3] st h r ↔ gm_Go E d 66 1 [.ref x, a1, a2, a3] (.ref x :: st) h r := gr_loc m66 f66_0 rfl rfl
theorem r66_0n {E : Nat → Value} {d : Nat} {st : List Value} {h : gm_H} {r : gm_R × gm_H} {a1 a2 a3 : Value}  : gm_Go E d 66 0 [.null, a1, a2, a3] st h r ↔ gm_Go E d 66 1 [.null, a1, a2, a3] (.null :: st) h r := gr_loc m66 f66_0 rfl rfl
theorem f66_1 : gm_ft 66 1 = some (.astore_n 2, 1) := by decide +kernel
theorem r66_1 {E : Nat → Value} {d : Nat} {st : List Value} {h : gm_H} {r : gm_R × gm_H} {a0 a1 a2 a3 : Value} {x : Nat} : gm_Go E d 66 1 [a0, a1, a2, a3] (.ref x :: st) h r ↔ gm_Go E d 66 2 [a0, gm_k a1, .ref x, a3] st h r := gr_loc m66 f66_1 rfl rfl
theorem r66_1n {E : Nat → Value} {d : Nat} {st : List Value} {h : gm_H} {r : gm_R × gm_H} {a0 a1 a2 a3 : Value}  : gm_Go E d 66 1 [a0, a1, a2, a3] (.null :: st) h r ↔ gm_Go E d 66 2 [a0, gm_k a1, .null, a3] st h r := gr_loc m66 f66_1 rfl rfl
theorem f66_2 : gm_ft 66 2 = some (.iconst 0, 1) := by decide +kernel
theorem r66_2 {E : Nat → Value} {d : Nat} {st : List Value} {h : gm_H} {r : gm_R × gm_H} {lv : List Value} : gm_Go E d 66 2 lv st h r ↔ gm_Go E d 66 3 lv (.int (0 : Int32) :: st) h r := gr_pure m66 f66_2 rfl
theorem f66_3 : gm_ft 66 3 = some (.istore_n 3, 1) := by decide +kernel
theorem r66_3 {E : Nat → Value} {d : Nat} {st : List Value} {h : gm_H} {r : gm_R × gm_H} {a0 a1 a2 a3 : Value} {x : Int32} : gm_Go E d 66 3 [a0, a1, a2, a3] (.int x :: st) h r ↔ gm_Go E d 66 4 [a0, a1, gm_k a2, .int x] st h r := gr_loc m66 f66_3 rfl rfl
theorem f66_4 : gm_ft 66 4 = some (.iload_n 3, 1) := by decide +kernel
theorem r66_4 {E : Nat → Value} {d : Nat} {st : List Value} {h : gm_H} {r : gm_R × gm_H} {a0 a1 a2 : Value} {x : Int32} : gm_Go E d 66 4 [a0, a1, a2, .int x] st h r ↔ gm_Go E d 66 5 [a0, a1, a2, .int x] (.int x :: st) h r := gr_loc m66 f66_4 rfl rfl
theorem f66_5 : gm_ft 66 5 = some (.iload_n 1, 1) := by decide +kernel
theorem r66_5 {E : Nat → Value} {d : Nat} {st : List Value} {h : gm_H} {r : gm_R × gm_H} {a0 a2 a3 : Value} {x : Int32} : gm_Go E d 66 5 [a0, .int x, a2, a3] st h r ↔ gm_Go E d 66 6 [a0, .int x, a2, a3] (.int x :: st) h r := gr_loc m66 f66_5 rfl rfl
theorem f66_6 : gm_ft 66 6 = some (.if_icmp .ge 21, 3) := by decide +kernel
theorem r66_6 {E : Nat → Value} {d : Nat} {st : List Value} {h : gm_H} {r : gm_R × gm_H} {lv : List Value} {x y : Int32} : gm_Go E d 66 6 lv (.int y :: .int x :: st) h r ↔ (if y ≤ x then gm_Go E d 66 27 lv st h r else gm_Go E d 66 9 lv st h r) := (gr_br m66 f66_6 rfl rfl rfl rfl).trans gr_if
theorem f66_9 : gm_ft 66 9 = some (.aload_n 2, 1) := by decide +kernel
theorem r66_9 {E : Nat → Value} {d : Nat} {st : List Value} {h : gm_H} {r : gm_R × gm_H} {a0 a1 a3 : Value} {x : Nat} : gm_Go E d 66 9 [a0, a1, .ref x, a3] st h r ↔ gm_Go E d 66 10 [a0, a1, .ref x, a3] (.ref x :: st) h r := gr_loc m66 f66_9 rfl rfl
theorem r66_9n {E : Nat → Value} {d : Nat} {st : List Value} {h : gm_H} {r : gm_R × gm_H} {a0 a1 a3 : Value}  : gm_Go E d 66 9 [a0, a1, .null, a3] st h r ↔ gm_Go E d 66 10 [a0, a1, .null, a3] (.null :: st) h r := gr_loc m66 f66_9 rfl rfl
theorem f66_10 : gm_ft 66 10 = some (.getfield 39, 3) := by decide +kernel
theorem r66_10 {E : Nat → Value} {d : Nat} {st : List Value} {h : gm_H} {r : gm_R × gm_H} {lv : List Value} {a : Nat} {vs : List Value} {v : Value} (hr : gm_rd h a = some (1, vs)) (hv : vs[7]? = some v) : gm_Go E d 66 10 lv (.ref a :: st) h r ↔ gm_Go E d 66 13 lv (v :: st) h r := gr_rd m66 f66_10 rfl rfl rfl rfl (gf_get k1_39 hr hv)
theorem f66_13 : gm_ft 66 13 = some (.ifnull 14, 3) := by decide +kernel
theorem r66_13n {E : Nat → Value} {d : Nat} {st : List Value} {h : gm_H} {r : gm_R × gm_H} {lv : List Value} : gm_Go E d 66 13 lv (.null :: st) h r ↔ gm_Go E d 66 27 lv st h r := gr_brT m66 f66_13 rfl rfl rfl rfl
theorem r66_13 {E : Nat → Value} {d : Nat} {st : List Value} {h : gm_H} {r : gm_R × gm_H} {lv : List Value} {a : Nat} : gm_Go E d 66 13 lv (.ref a :: st) h r ↔ gm_Go E d 66 16 lv st h r := gr_brF m66 f66_13 rfl rfl rfl rfl
theorem f66_16 : gm_ft 66 16 = some (.aload_n 2, 1) := by decide +kernel
theorem r66_16 {E : Nat → Value} {d : Nat} {st : List Value} {h : gm_H} {r : gm_R × gm_H} {a0 a1 a3 : Value} {x : Nat} : gm_Go E d 66 16 [a0, a1, .ref x, a3] st h r ↔ gm_Go E d 66 17 [a0, a1, .ref x, a3] (.ref x :: st) h r := gr_loc m66 f66_16 rfl rfl
theorem r66_16n {E : Nat → Value} {d : Nat} {st : List Value} {h : gm_H} {r : gm_R × gm_H} {a0 a1 a3 : Value}  : gm_Go E d 66 16 [a0, a1, .null, a3] st h r ↔ gm_Go E d 66 17 [a0, a1, .null, a3] (.null :: st) h r := gr_loc m66 f66_16 rfl rfl
theorem f66_17 : gm_ft 66 17 = some (.getfield 39, 3) := by decide +kernel
theorem r66_17 {E : Nat → Value} {d : Nat} {st : List Value} {h : gm_H} {r : gm_R × gm_H} {lv : List Value} {a : Nat} {vs : List Value} {v : Value} (hr : gm_rd h a = some (1, vs)) (hv : vs[7]? = some v) : gm_Go E d 66 17 lv (.ref a :: st) h r ↔ gm_Go E d 66 20 lv (v :: st) h r := gr_rd m66 f66_17 rfl rfl rfl rfl (gf_get k1_39 hr hv)
theorem f66_20 : gm_ft 66 20 = some (.astore_n 2, 1) := by decide +kernel
theorem r66_20 {E : Nat → Value} {d : Nat} {st : List Value} {h : gm_H} {r : gm_R × gm_H} {a0 a1 a2 a3 : Value} {x : Nat} : gm_Go E d 66 20 [a0, a1, a2, a3] (.ref x :: st) h r ↔ gm_Go E d 66 21 [a0, gm_k a1, .ref x, a3] st h r := gr_loc m66 f66_20 rfl rfl
theorem r66_20n {E : Nat → Value} {d : Nat} {st : List Value} {h : gm_H} {r : gm_R × gm_H} {a0 a1 a2 a3 : Value}  : gm_Go E d 66 20 [a0, a1, a2, a3] (.null :: st) h r ↔ gm_Go E d 66 21 [a0, gm_k a1, .null, a3] st h r := gr_loc m66 f66_20 rfl rfl
theorem f66_21 : gm_ft 66 21 = some (.iinc 3 1, 3) := by decide +kernel
theorem r66_21 {E : Nat → Value} {d : Nat} {st : List Value} {h : gm_H} {r : gm_R × gm_H} {a0 a1 a2 : Value} {x : Int32} : gm_Go E d 66 21 [a0, a1, a2, .int x] st h r ↔ gm_Go E d 66 24 [a0, a1, gm_k a2, .int (x + (1 : Int32))] st h r := gr_loc m66 f66_21 rfl rfl
theorem f66_24 : gm_ft 66 24 = some (.goto (-20), 3) := by decide +kernel
theorem r66_24 {E : Nat → Value} {d : Nat} {st : List Value} {h : gm_H} {r : gm_R × gm_H} {lv : List Value} : gm_Go E d 66 24 lv st h r ↔ gm_Go E d 66 4 lv st h r := gr_brT m66 f66_24 rfl rfl rfl rfl
theorem f66_27 : gm_ft 66 27 = some (.aload_n 2, 1) := by decide +kernel
theorem r66_27 {E : Nat → Value} {d : Nat} {st : List Value} {h : gm_H} {r : gm_R × gm_H} {a0 a1 a3 : Value} {x : Nat} : gm_Go E d 66 27 [a0, a1, .ref x, a3] st h r ↔ gm_Go E d 66 28 [a0, a1, .ref x, a3] (.ref x :: st) h r := gr_loc m66 f66_27 rfl rfl
theorem r66_27n {E : Nat → Value} {d : Nat} {st : List Value} {h : gm_H} {r : gm_R × gm_H} {a0 a1 a3 : Value}  : gm_Go E d 66 27 [a0, a1, .null, a3] st h r ↔ gm_Go E d 66 28 [a0, a1, .null, a3] (.null :: st) h r := gr_loc m66 f66_27 rfl rfl
theorem f66_28 : gm_ft 66 28 = some (.areturn, 1) := by decide +kernel
theorem r66_28 {E : Nat → Value} {d : Nat} {h : gm_H} {r : gm_R × gm_H} {lv : List Value} {a : Nat} : gm_Go E d 66 28 lv [.ref a] h r ↔ r = (.inl (some (.ref a)), h) := gr_ret m66 f66_28 rfl rfl rfl rfl rfl rfl rfl rfl rfl
theorem r66_28n {E : Nat → Value} {d : Nat} {h : gm_H} {r : gm_R × gm_H} {lv : List Value} : gm_Go E d 66 28 lv [.null] h r ↔ r = (.inl (some .null), h) := gr_ret m66 f66_28 rfl rfl rfl rfl rfl rfl rfl rfl rfl
/-! GraphReader.readData(LGraphReader$Descriptor;LGraphReader$Thing;I)V -/
theorem m67 : gm_mt[67]? = some (⟨"GraphReader", "readData", "(LGraphReader$Descriptor;LGraphReader$Thing;I)V"⟩, prog_1_method_42_code, 10, none, [], 0, 1) := rfl
theorem f67_0 : gm_ft 67 0 = some (.aload_n 2, 1) := by decide +kernel
theorem r67_0 {E : Nat → Value} {d : Nat} {st : List Value} {h : gm_H} {r : gm_R × gm_H} {a0 a1 a3 a4 a5 a6 a7 a8 a9 : Value} {x : Nat} : gm_Go E d 67 0 [a0, a1, .ref x, a3, a4, a5, a6, a7, a8, a9] st h r ↔ gm_Go E d 67 1 [a0, a1, .ref x, a3, a4, a5, a6, a7, a8, a9] (.ref x :: st) h r := gr_loc m67 f67_0 rfl rfl
theorem r67_0n {E : Nat → Value} {d : Nat} {st : List Value} {h : gm_H} {r : gm_R × gm_H} {a0 a1 a3 a4 a5 a6 a7 a8 a9 : Value}  : gm_Go E d 67 0 [a0, a1, .null, a3, a4, a5, a6, a7, a8, a9] st h r ↔ gm_Go E d 67 1 [a0, a1, .null, a3, a4, a5, a6, a7, a8, a9] (.null :: st) h r := gr_loc m67 f67_0 rfl rfl
theorem f67_1 : gm_ft 67 1 = some (.getfield 137, 3) := by decide +kernel
theorem r67_1 {E : Nat → Value} {d : Nat} {st : List Value} {h : gm_H} {r : gm_R × gm_H} {lv : List Value} {a : Nat} {vs : List Value} {v : Value} (hr : gm_rd h a = some (4, vs)) (hv : vs[1]? = some v) : gm_Go E d 67 1 lv (.ref a :: st) h r ↔ gm_Go E d 67 4 lv (v :: st) h r := gr_rd m67 f67_1 rfl rfl rfl rfl (gf_get k0_137 hr hv)
theorem f67_4 : gm_ft 67 4 = some (.aload_n 1, 1) := by decide +kernel
theorem r67_4 {E : Nat → Value} {d : Nat} {st : List Value} {h : gm_H} {r : gm_R × gm_H} {a0 a2 a3 a4 a5 a6 a7 a8 a9 : Value} {x : Nat} : gm_Go E d 67 4 [a0, .ref x, a2, a3, a4, a5, a6, a7, a8, a9] st h r ↔ gm_Go E d 67 5 [a0, .ref x, a2, a3, a4, a5, a6, a7, a8, a9] (.ref x :: st) h r := gr_loc m67 f67_4 rfl rfl
theorem r67_4n {E : Nat → Value} {d : Nat} {st : List Value} {h : gm_H} {r : gm_R × gm_H} {a0 a2 a3 a4 a5 a6 a7 a8 a9 : Value}  : gm_Go E d 67 4 [a0, .null, a2, a3, a4, a5, a6, a7, a8, a9] st h r ↔ gm_Go E d 67 5 [a0, .null, a2, a3, a4, a5, a6, a7, a8, a9] (.null :: st) h r := gr_loc m67 f67_4 rfl rfl
theorem f67_5 : gm_ft 67 5 = some (.getfield 188, 3) := by decide +kernel
theorem r67_5 {E : Nat → Value} {d : Nat} {st : List Value} {h : gm_H} {r : gm_R × gm_H} {lv : List Value} {a : Nat} {vs : List Value} {v : Value} (hr : gm_rd h a = some (1, vs)) (hv : vs[9]? = some v) : gm_Go E d 67 5 lv (.ref a :: st) h r ↔ gm_Go E d 67 8 lv (v :: st) h r := gr_rd m67 f67_5 rfl rfl rfl rfl (gf_get k0_188 hr hv)
theorem f67_8 : gm_ft 67 8 = some (.invokevirtual 291, 3) := by decide +kernel
theorem n67_8 {st : List Value} {h : gm_H} {E : Nat → Value} {lv : List Value} {b0 : Value} {a : Nat} (hs : (st.map fun v => v.category).sum ≤ 8) (he : (gm_en1 [.ref a, b0]).length ≤ 3) {vs : List Value} (hr : gm_rd h a = some (3, vs)) : gm_next E 67 8 lv (b0 :: .ref a :: st) h = some (.inr (.inl (0, 68, [.ref a, b0], st))) := gn_call m67 f67_8 rfl rfl rfl rfl rfl rfl rfl (gc_virt (bs := [b0]) (w := 567) rfl rfl rfl rfl hs he hr) (by decide)
theorem f67_11 : gm_ft 67 11 = some (.ifCond .eq 10, 3) := by decide +kernel
theorem r67_11 {E : Nat → Value} {d : Nat} {st : List Value} {h : gm_H} {r : gm_R × gm_H} {lv : List Value} {x : Int32} : gm_Go E d 67 11 lv (.int x :: st) h r ↔ (if x = 0 then gm_Go E d 67 21 lv st h r else gm_Go E d 67 14 lv st h r) := (gr_br m67 f67_11 rfl rfl rfl rfl).trans gr_if
theorem f67_14 : gm_ft 67 14 = some (.aload_n 1, 1) := by decide +kernel
theorem r67_14 {E : Nat → Value} {d : Nat} {st : List Value} {h : gm_H} {r : gm_R × gm_H} {a0 a2 a3 a4 a5 a6 a7 a8 a9 : Value} {x : Nat} : gm_Go E d 67 14 [a0, .ref x, a2, a3, a4, a5, a6, a7, a8, a9] st h r ↔ gm_Go E d 67 15 [a0, .ref x, a2, a3, a4, a5, a6, a7, a8, a9] (.ref x :: st) h r := gr_loc m67 f67_14 rfl rfl
theorem r67_14n {E : Nat → Value} {d : Nat} {st : List Value} {h : gm_H} {r : gm_R × gm_H} {a0 a2 a3 a4 a5 a6 a7 a8 a9 : Value}  : gm_Go E d 67 14 [a0, .null, a2, a3, a4, a5, a6, a7, a8, a9] st h r ↔ gm_Go E d 67 15 [a0, .null, a2, a3, a4, a5, a6, a7, a8, a9] (.null :: st) h r := gr_loc m67 f67_14 rfl rfl
theorem f67_15 : gm_ft 67 15 = some (.getfield 188, 3) := by decide +kernel
theorem r67_15 {E : Nat → Value} {d : Nat} {st : List Value} {h : gm_H} {r : gm_R × gm_H} {lv : List Value} {a : Nat} {vs : List Value} {v : Value} (hr : gm_rd h a = some (1, vs)) (hv : vs[9]? = some v) : gm_Go E d 67 15 lv (.ref a :: st) h r ↔ gm_Go E d 67 18 lv (v :: st) h r := gr_rd m67 f67_15 rfl rfl rfl rfl (gf_get k0_188 hr hv)
theorem f67_18 : gm_ft 67 18 = some (.goto 4, 3) := by decide +kernel
theorem r67_18 {E : Nat → Value} {d : Nat} {st : List Value} {h : gm_H} {r : gm_R × gm_H} {lv : List Value} : gm_Go E d 67 18 lv st h r ↔ gm_Go E d 67 22 lv st h r := gr_brT m67 f67_18 rfl rfl rfl rfl
theorem f67_21 : gm_ft 67 21 = some (.aconst_null, 1) := by decide +kernel
theorem r67_21 {E : Nat → Value} {d : Nat} {st : List Value} {h : gm_H} {r : gm_R × gm_H} {lv : List Value} : gm_Go E d 67 21 lv st h r ↔ gm_Go E d 67 22 lv (.null :: st) h r := gr_pure m67 f67_21 rfl
theorem f67_22 : gm_ft 67 22 = some (.astore 4, 2) := by decide +kernel
theorem r67_22 {E : Nat → Value} {d : Nat} {st : List Value} {h : gm_H} {r : gm_R × gm_H} {a0 a1 a2 a3 a4 a5 a6 a7 a8 a9 : Value} {x : Nat} : gm_Go E d 67 22 [a0, a1, a2, a3, a4, a5, a6, a7, a8, a9] (.ref x :: st) h r ↔ gm_Go E d 67 24 [a0, a1, a2, gm_k a3, .ref x, a5, a6, a7, a8, a9] st h r := gr_loc m67 f67_22 rfl rfl
theorem r67_22n {E : Nat → Value} {d : Nat} {st : List Value} {h : gm_H} {r : gm_R × gm_H} {a0 a1 a2 a3 a4 a5 a6 a7 a8 a9 : Value}  : gm_Go E d 67 22 [a0, a1, a2, a3, a4, a5, a6, a7, a8, a9] (.null :: st) h r ↔ gm_Go E d 67 24 [a0, a1, a2, gm_k a3, .null, a5, a6, a7, a8, a9] st h r := gr_loc m67 f67_22 rfl rfl
theorem f67_24 : gm_ft 67 24 = some (.iconst 0, 1) := by decide +kernel
theorem r67_24 {E : Nat → Value} {d : Nat} {st : List Value} {h : gm_H} {r : gm_R × gm_H} {lv : List Value} : gm_Go E d 67 24 lv st h r ↔ gm_Go E d 67 25 lv (.int (0 : Int32) :: st) h r := gr_pure m67 f67_24 rfl
theorem f67_25 : gm_ft 67 25 = some (.istore 5, 2) := by decide +kernel
theorem r67_25 {E : Nat → Value} {d : Nat} {st : List Value} {h : gm_H} {r : gm_R × gm_H} {a0 a1 a2 a3 a4 a5 a6 a7 a8 a9 : Value} {x : Int32} : gm_Go E d 67 25 [a0, a1, a2, a3, a4, a5, a6, a7, a8, a9] (.int x :: st) h r ↔ gm_Go E d 67 27 [a0, a1, a2, a3, gm_k a4, .int x, a6, a7, a8, a9] st h r := gr_loc m67 f67_25 rfl rfl
theorem f67_27 : gm_ft 67 27 = some (.iload 5, 2) := by decide +kernel
theorem r67_27 {E : Nat → Value} {d : Nat} {st : List Value} {h : gm_H} {r : gm_R × gm_H} {a0 a1 a2 a3 a4 a6 a7 a8 a9 : Value} {x : Int32} : gm_Go E d 67 27 [a0, a1, a2, a3, a4, .int x, a6, a7, a8, a9] st h r ↔ gm_Go E d 67 29 [a0, a1, a2, a3, a4, .int x, a6, a7, a8, a9] (.int x :: st) h r := gr_loc m67 f67_27 rfl rfl
theorem f67_29 : gm_ft 67 29 = some (.aload_n 1, 1) := by decide +kernel
theorem r67_29 {E : Nat → Value} {d : Nat} {st : List Value} {h : gm_H} {r : gm_R × gm_H} {a0 a2 a3 a4 a5 a6 a7 a8 a9 : Value} {x : Nat} : gm_Go E d 67 29 [a0, .ref x, a2, a3, a4, a5, a6, a7, a8, a9] st h r ↔ gm_Go E d 67 30 [a0, .ref x, a2, a3, a4, a5, a6, a7, a8, a9] (.ref x :: st) h r := gr_loc m67 f67_29 rfl rfl
theorem r67_29n {E : Nat → Value} {d : Nat} {st : List Value} {h : gm_H} {r : gm_R × gm_H} {a0 a2 a3 a4 a5 a6 a7 a8 a9 : Value}  : gm_Go E d 67 29 [a0, .null, a2, a3, a4, a5, a6, a7, a8, a9] st h r ↔ gm_Go E d 67 30 [a0, .null, a2, a3, a4, a5, a6, a7, a8, a9] (.null :: st) h r := gr_loc m67 f67_29 rfl rfl
theorem f67_30 : gm_ft 67 30 = some (.getfield 295, 3) := by decide +kernel
theorem r67_30 {E : Nat → Value} {d : Nat} {st : List Value} {h : gm_H} {r : gm_R × gm_H} {lv : List Value} {a : Nat} {vs : List Value} {v : Value} (hr : gm_rd h a = some (1, vs)) (hv : vs[4]? = some v) : gm_Go E d 67 30 lv (.ref a :: st) h r ↔ gm_Go E d 67 33 lv (v :: st) h r := gr_rd m67 f67_30 rfl rfl rfl rfl (gf_get k0_295 hr hv)
theorem f67_33 : gm_ft 67 33 = some (.if_icmp .ge 107, 3) := by decide +kernel
theorem r67_33 {E : Nat → Value} {d : Nat} {st : List Value} {h : gm_H} {r : gm_R × gm_H} {lv : List Value} {x y : Int32} : gm_Go E d 67 33 lv (.int y :: .int x :: st) h r ↔ (if y ≤ x then gm_Go E d 67 140 lv st h r else gm_Go E d 67 36 lv st h r) := (gr_br m67 f67_33 rfl rfl rfl rfl).trans gr_if
theorem f67_36 : gm_ft 67 36 = some (.aload_n 1, 1) := by decide +kernel
theorem r67_36 {E : Nat → Value} {d : Nat} {st : List Value} {h : gm_H} {r : gm_R × gm_H} {a0 a2 a3 a4 a5 a6 a7 a8 a9 : Value} {x : Nat} : gm_Go E d 67 36 [a0, .ref x, a2, a3, a4, a5, a6, a7, a8, a9] st h r ↔ gm_Go E d 67 37 [a0, .ref x, a2, a3, a4, a5, a6, a7, a8, a9] (.ref x :: st) h r := gr_loc m67 f67_36 rfl rfl
theorem r67_36n {E : Nat → Value} {d : Nat} {st : List Value} {h : gm_H} {r : gm_R × gm_H} {a0 a2 a3 a4 a5 a6 a7 a8 a9 : Value}  : gm_Go E d 67 36 [a0, .null, a2, a3, a4, a5, a6, a7, a8, a9] st h r ↔ gm_Go E d 67 37 [a0, .null, a2, a3, a4, a5, a6, a7, a8, a9] (.null :: st) h r := gr_loc m67 f67_36 rfl rfl
theorem f67_37 : gm_ft 67 37 = some (.getfield 296, 3) := by decide +kernel
theorem r67_37 {E : Nat → Value} {d : Nat} {st : List Value} {h : gm_H} {r : gm_R × gm_H} {lv : List Value} {a : Nat} {vs : List Value} {v : Value} (hr : gm_rd h a = some (1, vs)) (hv : vs[6]? = some v) : gm_Go E d 67 37 lv (.ref a :: st) h r ↔ gm_Go E d 67 40 lv (v :: st) h r := gr_rd m67 f67_37 rfl rfl rfl rfl (gf_get k0_296 hr hv)
theorem f67_40 : gm_ft 67 40 = some (.iload 5, 2) := by decide +kernel
theorem r67_40 {E : Nat → Value} {d : Nat} {st : List Value} {h : gm_H} {r : gm_R × gm_H} {a0 a1 a2 a3 a4 a6 a7 a8 a9 : Value} {x : Int32} : gm_Go E d 67 40 [a0, a1, a2, a3, a4, .int x, a6, a7, a8, a9] st h r ↔ gm_Go E d 67 42 [a0, a1, a2, a3, a4, .int x, a6, a7, a8, a9] (.int x :: st) h r := gr_loc m67 f67_40 rfl rfl
theorem f67_42 : gm_ft 67 42 = some (.iaload, 1) := by decide +kernel
theorem r67_42 {E : Nat → Value} {d : Nat} {st : List Value} {h : gm_H} {r : gm_R × gm_H} {lv : List Value} {a k j : Nat} {vs : List Value} {v : Value} (hr : gm_rd h a = some (k, vs)) (hk : 100 ≤ k ∧ (fun t => t == 0) (k % 100) = true) (hj : j < 2 ^ 31) (hv : vs[j]? = some v) : gm_Go E d 67 42 lv (.int (nI j) :: .ref a :: st) h r ↔ gm_Go E d 67 43 lv (v :: st) h r := gr_rd m67 f67_42 rfl rfl rfl rfl (ga_ld (P := fun t => t == 0) hr hk hj hv)
theorem f67_43 : gm_ft 67 43 = some (.istore 6, 2) := by decide +kernel
theorem r67_43 {E : Nat → Value} {d : Nat} {st : List Value} {h : gm_H} {r : gm_R × gm_H} {a0 a1 a2 a3 a4 a5 a6 a7 a8 a9 : Value} {x : Int32} : gm_Go E d 67 43 [a0, a1, a2, a3, a4, a5, a6, a7, a8, a9] (.int x :: st) h r ↔ gm_Go E d 67 45 [a0, a1, a2, a3, a4, gm_k a5, .int x, a7, a8, a9] st h r := gr_loc m67 f67_43 rfl rfl
theorem f67_45 : gm_ft 67 45 = some (.iload 6, 2) := by decide +kernel
theorem r67_45 {E : Nat → Value} {d : Nat} {st : List Value} {h : gm_H} {r : gm_R × gm_H} {a0 a1 a2 a3 a4 a5 a7 a8 a9 : Value} {x : Int32} : gm_Go E d 67 45 [a0, a1, a2, a3, a4, a5, .int x, a7, a8, a9] st h r ↔ gm_Go E d 67 47 [a0, a1, a2, a3, a4, a5, .int x, a7, a8, a9] (.int x :: st) h r := gr_loc m67 f67_45 rfl rfl
theorem f67_47 : gm_ft 67 47 = some (.bipush 6, 2) := by decide +kernel
theorem r67_47 {E : Nat → Value} {d : Nat} {st : List Value} {h : gm_H} {r : gm_R × gm_H} {lv : List Value} : gm_Go E d 67 47 lv st h r ↔ gm_Go E d 67 49 lv (.int (6 : Int32) :: st) h r := gr_pure m67 f67_47 rfl
theorem f67_49 : gm_ft 67 49 = some (.if_icmp .ge 12, 3) := by decide +kernel
theorem r67_49 {E : Nat → Value} {d : Nat} {st : List Value} {h : gm_H} {r : gm_R × gm_H} {lv : List Value} {x y : Int32} : gm_Go E d 67 49 lv (.int y :: .int x :: st) h r ↔ (if y ≤ x then gm_Go E d 67 61 lv st h r else gm_Go E d 67 52 lv st h r) := (gr_br m67 f67_49 rfl rfl rfl rfl).trans gr_if
theorem f67_52 : gm_ft 67 52 = some (.aload_n 0, 1) := by decide +kernel
theorem r67_52 {E : Nat → Value} {d : Nat} {st : List Value} {h : gm_H} {r : gm_R × gm_H} {a1 a2 a3 a4 a5 a6 a7 a8 a9 : Value} {x : Nat} : gm_Go E d 67 52 [.ref x, a1, a2, a3, a4, a5, a6, a7, a8, a9] st h r ↔ gm_Go E d 67 53 [.ref x, a1, a2, a3, a4, a5, a6, a7, a8, a9] (.ref x :: st) h r := gr_loc m67 f67_52 rfl rfl
theorem r67_52n {E : Nat → Value} {d : Nat} {st : List Value} {h : gm_H} {r : gm_R × gm_H} {a1 a2 a3 a4 a5 a6 a7 a8 a9 : Value}  : gm_Go E d 67 52 [.null, a1, a2, a3, a4, a5, a6, a7, a8, a9] st h r ↔ gm_Go E d 67 53 [.null, a1, a2, a3, a4, a5, a6, a7, a8, a9] (.null :: st) h r := gr_loc m67 f67_52 rfl rfl
theorem f67_53 : gm_ft 67 53 = some (.iload 6, 2) := by decide +kernel
theorem r67_53 {E : Nat → Value} {d : Nat} {st : List Value} {h : gm_H} {r : gm_R × gm_H} {a0 a1 a2 a3 a4 a5 a7 a8 a9 : Value} {x : Int32} : gm_Go E d 67 53 [a0, a1, a2, a3, a4, a5, .int x, a7, a8, a9] st h r ↔ gm_Go E d 67 55 [a0, a1, a2, a3, a4, a5, .int x, a7, a8, a9] (.int x :: st) h r := gr_loc m67 f67_53 rfl rfl
theorem f67_55 : gm_ft 67 55 = some (.invokevirtual 297, 3) := by decide +kernel
theorem n67_55 {st : List Value} {h : gm_H} {E : Nat → Value} {lv : List Value} {b0 : Value} {a : Nat} (hs : (st.map fun v => v.category).sum ≤ 8) (he : (gm_en1 [.ref a, b0]).length ≤ 4) {vs : List Value} (hr : gm_rd h a = some (0, vs)) : gm_next E 67 55 lv (b0 :: .ref a :: st) h = some (.inr (.inl (0, 69, [.ref a, b0], st))) := gn_call m67 f67_55 rfl rfl rfl rfl rfl rfl rfl (gc_virt (bs := [b0]) (w := 571) rfl rfl rfl rfl hs he hr) (by decide)
theorem f67_58 : gm_ft 67 58 = some (.goto 11, 3) := by decide +kernel
theorem r67_58 {E : Nat → Value} {d : Nat} {st : List Value} {h : gm_H} {r : gm_R × gm_H} {lv : List Value} : gm_Go E d 67 58 lv st h r ↔ gm_Go E d 67 69 lv st h r := gr_brT m67 f67_58 rfl rfl rfl rfl
theorem f67_61 : gm_ft 67 61 = some (.aload_n 0, 1) := by decide +kernel
theorem r67_61 {E : Nat → Value} {d : Nat} {st : List Value} {h : gm_H} {r : gm_R × gm_H} {a1 a2 a3 a4 a5 a6 a7 a8 a9 : Value} {x : Nat} : gm_Go E d 67 61 [.ref x, a1, a2, a3, a4, a5, a6, a7, a8, a9] st h r ↔ gm_Go E d 67 62 [.ref x, a1, a2, a3, a4, a5, a6, a7, a8, a9] (.ref x :: st) h r := gr_loc m67 f67_61 rfl rfl
theorem r67_61n {E : Nat → Value} {d : Nat} {st : List Value} {h : gm_H} {r : gm_R × gm_H} {a1 a2 a3 a4 a5 a6 a7 a8 a9 : Value}  : gm_Go E d 67 61 [.null, a1, a2, a3, a4, a5, a6, a7, a8, a9] st h r ↔ gm_Go E d 67 62 [.null, a1, a2, a3, a4, a5, a6, a7, a8, a9] (.null :: st) h r := gr_loc m67 f67_61 rfl rfl
theorem f67_62 : gm_ft 67 62 = some (.iload_n 3, 1) := by decide +kernel
theorem r67_62 {E : Nat → Value} {d : Nat} {st : List Value} {h : gm_H} {r : gm_R × gm_H} {a0 a1 a2 a4 a5 a6 a7 a8 a9 : Value} {x : Int32} : gm_Go E d 67 62 [a0, a1, a2, .int x, a4, a5, a6, a7, a8, a9] st h r ↔ gm_Go E d 67 63 [a0, a1, a2, .int x, a4, a5, a6, a7, a8, a9] (.int x :: st) h r := gr_loc m67 f67_62 rfl rfl
theorem f67_63 : gm_ft 67 63 = some (.iconst 1, 1) := by decide +kernel
theorem r67_63 {E : Nat → Value} {d : Nat} {st : List Value} {h : gm_H} {r : gm_R × gm_H} {lv : List Value} : gm_Go E d 67 63 lv st h r ↔ gm_Go E d 67 64 lv (.int (1 : Int32) :: st) h r := gr_pure m67 f67_63 rfl
theorem f67_64 : gm_ft 67 64 = some (.iadd, 1) := by decide +kernel
theorem r67_64 {E : Nat → Value} {d : Nat} {st : List Value} {h : gm_H} {r : gm_R × gm_H} {lv : List Value} {x y : Int32} : gm_Go E d 67 64 lv (.int y :: .int x :: st) h r ↔ gm_Go E d 67 65 lv (.int (x + y) :: st) h r := gr_pure m67 f67_64 rfl
theorem f67_65 : gm_ft 67 65 = some (.invokevirtual 182, 3) := by decide +kernel
theorem n67_65 {st : List Value} {h : gm_H} {E : Nat → Value} {lv : List Value} {b0 : Value} {a : Nat} (hs : (st.map fun v => v.category).sum ≤ 8) (he : (gm_en1 [.ref a, b0]).length ≤ 2) {vs : List Value} (hr : gm_rd h a = some (0, vs)) : gm_next E 67 65 lv (b0 :: .ref a :: st) h = some (.inr (.inl (0, 23, [.ref a, b0], st))) := gn_call m67 f67_65 rfl rfl rfl rfl rfl rfl rfl (gc_virt (bs := [b0]) (w := 270) rfl rfl rfl rfl hs he hr) (by decide)
theorem f67_68 : gm_ft 67 68 = some (.i2l, 1) := by decide +kernel
theorem r67_68 {E : Nat → Value} {d : Nat} {st : List Value} {h : gm_H} {r : gm_R × gm_H} {lv : List Value} {x : Int32} : gm_Go E d 67 68 lv (.int x :: st) h r ↔ gm_Go E d 67 69 lv (.long (x.toInt64) :: st) h r := gr_pure m67 f67_68 rfl
theorem f67_69 : gm_ft 67 69 = some (.lstore 7, 2) := by decide +kernel
theorem r67_69 {E : Nat → Value} {d : Nat} {st : List Value} {h : gm_H} {r : gm_R × gm_H} {a0 a1 a2 a3 a4 a5 a6 a7 a8 a9 : Value} {x : Int64} : gm_Go E d 67 69 [a0, a1, a2, a3, a4, a5, a6, a7, a8, a9] (.long x :: st) h r ↔ gm_Go E d 67 71 [a0, a1, a2, a3, a4, a5, gm_k a6, .long x, gm_u, a9] st h r := gr_loc m67 f67_69 rfl rfl
theorem f67_71 : gm_ft 67 71 = some (.aload 4, 2) := by decide +kernel
theorem r67_71 {E : Nat → Value} {d : Nat} {st : List Value} {h : gm_H} {r : gm_R × gm_H} {a0 a1 a2 a3 a5 a6 a7 a8 a9 : Value} {x : Nat} : gm_Go E d 67 71 [a0, a1, a2, a3, .ref x, a5, a6, a7, a8, a9] st h r ↔ gm_Go E d 67 73 [a0, a1, a2, a3, .ref x, a5, a6, a7, a8, a9] (.ref x :: st) h r := gr_loc m67 f67_71 rfl rfl
theorem r67_71n {E : Nat → Value} {d : Nat} {st : List Value} {h : gm_H} {r : gm_R × gm_H} {a0 a1 a2 a3 a5 a6 a7 a8 a9 : Value}  : gm_Go E d 67 71 [a0, a1, a2, a3, .null, a5, a6, a7, a8, a9] st h r ↔ gm_Go E d 67 73 [a0, a1, a2, a3, .null, a5, a6, a7, a8, a9] (.null :: st) h r := gr_loc m67 f67_71 rfl rfl
theorem f67_73 : gm_ft 67 73 = some (.ifnonnull 7, 3) := by decide +kernel
theorem r67_73n {E : Nat → Value} {d : Nat} {st : List Value} {h : gm_H} {r : gm_R × gm_H} {lv : List Value} : gm_Go E d 67 73 lv (.null :: st) h r ↔ gm_Go E d 67 76 lv st h r := gr_brF m67 f67_73 rfl rfl rfl rfl
theorem r67_73 {E : Nat → Value} {d : Nat} {st : List Value} {h : gm_H} {r : gm_R × gm_H} {lv : List Value} {a : Nat} : gm_Go E d 67 73 lv (.ref a :: st) h r ↔ gm_Go E d 67 80 lv st h r := gr_brT m67 f67_73 rfl rfl rfl rfl
theorem f67_76 : gm_ft 67 76 = some (.iconst (-1), 1) := by decide +kernel
theorem r67_76 {E : Nat → Value} {d : Nat} {st : List Value} {h : gm_H} {r : gm_R × gm_H} {lv : List Value} : gm_Go E d 67 76 lv st h r ↔ gm_Go E d 67 77 lv (.int (-1 : Int32) :: st) h r := gr_pure m67 f67_76 rfl
theorem f67_77 : gm_ft 67 77 = some (.goto 17, 3) := by decide +kernel
theorem r67_77 {E : Nat → Value} {d : Nat} {st : List Value} {h : gm_H} {r : gm_R × gm_H} {lv : List Value} : gm_Go E d 67 77 lv st h r ↔ gm_Go E d 67 94 lv st h r := gr_brT m67 f67_77 rfl rfl rfl rfl
theorem f67_80 : gm_ft 67 80 = some (.aload 4, 2) := by decide +kernel
theorem r67_80 {E : Nat → Value} {d : Nat} {st : List Value} {h : gm_H} {r : gm_R × gm_H} {a0 a1 a2 a3 a5 a6 a7 a8 a9 : Value} {x : Nat} : gm_Go E d 67 80 [a0, a1, a2, a3, .ref x, a5, a6, a7, a8, a9] st h r ↔ gm_Go E d 67 82 [a0, a1, a2, a3, .ref x, a5, a6, a7, a8, a9] (.ref x :: st) h r := gr_loc m67 f67_80 rfl rfl
theorem r67_80n {E : Nat → Value} {d : Nat} {st : List Value} {h : gm_H} {r : gm_R × gm_H} {a0 a1 a2 a3 a5 a6 a7 a8 a9 : Value}  : gm_Go E d 67 80 [a0, a1, a2, a3, .null, a5, a6, a7, a8, a9] st h r ↔ gm_Go E d 67 82 [a0, a1, a2, a3, .null, a5, a6, a7, a8, a9] (.null :: st) h r := gr_loc m67 f67_80 rfl rfl
theorem f67_82 : gm_ft 67 82 = some (.aload_n 1, 1) := by decide +kernel
theorem r67_82 {E : Nat → Value} {d : Nat} {st : List Value} {h : gm_H} {r : gm_R × gm_H} {a0 a2 a3 a4 a5 a6 a7 a8 a9 : Value} {x : Nat} : gm_Go E d 67 82 [a0, .ref x, a2, a3, a4, a5, a6, a7, a8, a9] st h r ↔ gm_Go E d 67 83 [a0, .ref x, a2, a3, a4, a5, a6, a7, a8, a9] (.ref x :: st) h r := gr_loc m67 f67_82 rfl rfl
theorem r67_82n {E : Nat → Value} {d : Nat} {st : List Value} {h : gm_H} {r : gm_R × gm_H} {a0 a2 a3 a4 a5 a6 a7 a8 a9 : Value}  : gm_Go E d 67 82 [a0, .null, a2, a3, a4, a5, a6, a7, a8, a9] st h r ↔ gm_Go E d 67 83 [a0, .null, a2, a3, a4, a5, a6, a7, a8, a9] (.null :: st) h r := gr_loc m67 f67_82 rfl rfl
theorem f67_83 : gm_ft 67 83 = some (.getfield 300, 3) := by decide +kernel
theorem r67_83 {E : Nat → Value} {d : Nat} {st : List Value} {h : gm_H} {r : gm_R × gm_H} {lv : List Value} {a : Nat} {vs : List Value} {v : Value} (hr : gm_rd h a = some (1, vs)) (hv : vs[5]? = some v) : gm_Go E d 67 83 lv (.ref a :: st) h r ↔ gm_Go E d 67 86 lv (v :: st) h r := gr_rd m67 f67_83 rfl rfl rfl rfl (gf_get k0_300 hr hv)
theorem f67_86 : gm_ft 67 86 = some (.iload 5, 2) := by decide +kernel
theorem r67_86 {E : Nat → Value} {d : Nat} {st : List Value} {h : gm_H} {r : gm_R × gm_H} {a0 a1 a2 a3 a4 a6 a7 a8 a9 : Value} {x : Int32} : gm_Go E d 67 86 [a0, a1, a2, a3, a4, .int x, a6, a7, a8, a9] st h r ↔ gm_Go E d 67 88 [a0, a1, a2, a3, a4, .int x, a6, a7, a8, a9] (.int x :: st) h r := gr_loc m67 f67_86 rfl rfl
theorem f67_88 : gm_ft 67 88 = some (.iaload, 1) := by decide +kernel
theorem r67_88 {E : Nat → Value} {d : Nat} {st : List Value} {h : gm_H} {r : gm_R × gm_H} {lv : List Value} {a k j : Nat} {vs : List Value} {v : Value} (hr : gm_rd h a = some (k, vs)) (hk : 100 ≤ k ∧ (fun t => t == 0) (k % 100) = true) (hj : j < 2 ^ 31) (hv : vs[j]? = some v) : gm_Go E d 67 88 lv (.int (nI j) :: .ref a :: st) h r ↔ gm_Go E d 67 89 lv (v :: st) h r := gr_rd m67 f67_88 rfl rfl rfl rfl (ga_ld (P := fun t => t == 0) hr hk hj hv)
theorem f67_89 : gm_ft 67 89 = some (.iload 6, 2) := by decide +kernel
theorem r67_89 {E : Nat → Value} {d : Nat} {st : List Value} {h : gm_H} {r : gm_R × gm_H} {a0 a1 a2 a3 a4 a5 a7 a8 a9 : Value} {x : Int32} : gm_Go E d 67 89 [a0, a1, a2, a3, a4, a5, .int x, a7, a8, a9] st h r ↔ gm_Go E d 67 91 [a0, a1, a2, a3, a4, a5, .int x, a7, a8, a9] (.int x :: st) h r := gr_loc m67 f67_89 rfl rfl
theorem f67_91 : gm_ft 67 91 = some (.invokevirtual 303, 3) := by decide +kernel
theorem n67_91 {st : List Value} {h : gm_H} {E : Nat → Value} {lv : List Value} {b0 b1 : Value} {a : Nat} (hs : (st.map fun v => v.category).sum ≤ 8) (he : (gm_en1 [.ref a, b0, b1]).length ≤ 4) {vs : List Value} (hr : gm_rd h a = some (3, vs)) : gm_next E 67 91 lv (b1 :: b0 :: .ref a :: st) h = some (.inr (.inl (0, 70, [.ref a, b0, b1], st))) := gn_call m67 f67_91 rfl rfl rfl rfl rfl rfl rfl (gc_virt (bs := [b1, b0]) (w := 577) rfl rfl rfl rfl hs he hr) (by decide)
theorem f67_94 : gm_ft 67 94 = some (.istore 9, 2) := by decide +kernel
theorem r67_94 {E : Nat → Value} {d : Nat} {st : List Value} {h : gm_H} {r : gm_R × gm_H} {a0 a1 a2 a3 a4 a5 a6 a7 a8 a9 : Value} {x : Int32} : gm_Go E d 67 94 [a0, a1, a2, a3, a4, a5, a6, a7, a8, a9] (.int x :: st) h r ↔ gm_Go E d 67 96 [a0, a1, a2, a3, a4, a5, a6, a7, gm_k a8, .int x] st h r := gr_loc m67 f67_94 rfl rfl
theorem f67_96 : gm_ft 67 96 = some (.iload 9, 2) := by decide +kernel
theorem r67_96 {E : Nat → Value} {d : Nat} {st : List Value} {h : gm_H} {r : gm_R × gm_H} {a0 a1 a2 a3 a4 a5 a6 a7 a8 : Value} {x : Int32} : gm_Go E d 67 96 [a0, a1, a2, a3, a4, a5, a6, a7, a8, .int x] st h r ↔ gm_Go E d 67 98 [a0, a1, a2, a3, a4, a5, a6, a7, a8, .int x] (.int x :: st) h r := gr_loc m67 f67_96 rfl rfl
theorem f67_98 : gm_ft 67 98 = some (.ifCond .lt 36, 3) := by decide +kernel
theorem r67_98 {E : Nat → Value} {d : Nat} {st : List Value} {h : gm_H} {r : gm_R × gm_H} {lv : List Value} {x : Int32} : gm_Go E d 67 98 lv (.int x :: st) h r ↔ (if x < 0 then gm_Go E d 67 134 lv st h r else gm_Go E d 67 101 lv st h r) := (gr_br m67 f67_98 rfl rfl rfl rfl).trans gr_if
theorem f67_101 : gm_ft 67 101 = some (.iload 6, 2) := by decide +kernel
theorem r67_101 {E : Nat → Value} {d : Nat} {st : List Value} {h : gm_H} {r : gm_R × gm_H} {a0 a1 a2 a3 a4 a5 a7 a8 a9 : Value} {x : Int32} : gm_Go E d 67 101 [a0, a1, a2, a3, a4, a5, .int x, a7, a8, a9] st h r ↔ gm_Go E d 67 103 [a0, a1, a2, a3, a4, a5, .int x, a7, a8, a9] (.int x :: st) h r := gr_loc m67 f67_101 rfl rfl
theorem f67_103 : gm_ft 67 103 = some (.bipush 6, 2) := by decide +kernel
theorem r67_103 {E : Nat → Value} {d : Nat} {st : List Value} {h : gm_H} {r : gm_R × gm_H} {lv : List Value} : gm_Go E d 67 103 lv st h r ↔ gm_Go E d 67 105 lv (.int (6 : Int32) :: st) h r := gr_pure m67 f67_103 rfl
theorem f67_105 : gm_ft 67 105 = some (.if_icmp .ne 20, 3) := by decide +kernel
theorem r67_105 {E : Nat → Value} {d : Nat} {st : List Value} {h : gm_H} {r : gm_R × gm_H} {lv : List Value} {x y : Int32} : gm_Go E d 67 105 lv (.int y :: .int x :: st) h r ↔ (if x = y then gm_Go E d 67 108 lv st h r else gm_Go E d 67 125 lv st h r) := (gr_br m67 f67_105 rfl rfl rfl rfl).trans gr_ifn
theorem f67_108 : gm_ft 67 108 = some (.aload_n 0, 1) := by decide +kernel
theorem r67_108 {E : Nat → Value} {d : Nat} {st : List Value} {h : gm_H} {r : gm_R × gm_H} {a1 a2 a3 a4 a5 a6 a7 a8 a9 : Value} {x : Nat} : gm_Go E d 67 108 [.ref x, a1, a2, a3, a4, a5, a6, a7, a8, a9] st h r ↔ gm_Go E d 67 109 [.ref x, a1, a2, a3, a4, a5, a6, a7, a8, a9] (.ref x :: st) h r := gr_loc m67 f67_108 rfl rfl
theorem r67_108n {E : Nat → Value} {d : Nat} {st : List Value} {h : gm_H} {r : gm_R × gm_H} {a1 a2 a3 a4 a5 a6 a7 a8 a9 : Value}  : gm_Go E d 67 108 [.null, a1, a2, a3, a4, a5, a6, a7, a8, a9] st h r ↔ gm_Go E d 67 109 [.null, a1, a2, a3, a4, a5, a6, a7, a8, a9] (.null :: st) h r := gr_loc m67 f67_108 rfl rfl
theorem f67_109 : gm_ft 67 109 = some (.lload 7, 2) := by decide +kernel
theorem r67_109 {E : Nat → Value} {d : Nat} {st : List Value} {h : gm_H} {r : gm_R × gm_H} {a0 a1 a2 a3 a4 a5 a6 a8 a9 : Value} {x : Int64} : gm_Go E d 67 109 [a0, a1, a2, a3, a4, a5, a6, .long x, a8, a9] st h r ↔ gm_Go E d 67 111 [a0, a1, a2, a3, a4, a5, a6, .long x, a8, a9] (.long x :: st) h r := gr_loc m67 f67_109 rfl rfl
theorem f67_111 : gm_ft 67 111 = some (.l2i, 1) := by decide +kernel
theorem r67_111 {E : Nat → Value} {d : Nat} {st : List Value} {h : gm_H} {r : gm_R × gm_H} {lv : List Value} {x : Int64} : gm_Go E d 67 111 lv (.long x :: st) h r ↔ gm_Go E d 67 112 lv (.int (x.toInt32) :: st) h r := gr_pure m67 f67_111 rfl
theorem f67_112 : gm_ft 67 112 = some (.invokevirtual 306, 3) := by decide +kernel
theorem n67_112 {st : List Value} {h : gm_H} {E : Nat → Value} {lv : List Value} {b0 : Value} {a : Nat} (hs : (st.map fun v => v.category).sum ≤ 8) (he : (gm_en1 [.ref a, b0]).length ≤ 2) {vs : List Value} (hr : gm_rd h a = some (0, vs)) : gm_next E 67 112 lv (b0 :: .ref a :: st) h = some (.inr (.inl (0, 71, [.ref a, b0], st))) := gn_call m67 f67_112 rfl rfl rfl rfl rfl rfl rfl (gc_virt (bs := [b0]) (w := 582) rfl rfl rfl rfl hs he hr) (by decide)
theorem f67_115 : gm_ft 67 115 = some (.ifCond .ne 10, 3) := by decide +kernel
theorem r67_115 {E : Nat → Value} {d : Nat} {st : List Value} {h : gm_H} {r : gm_R × gm_H} {lv : List Value} {x : Int32} : gm_Go E d 67 115 lv (.int x :: st) h r ↔ (if x = 0 then gm_Go E d 67 118 lv st h r else gm_Go E d 67 125 lv st h r) := (gr_br m67 f67_115 rfl rfl rfl rfl).trans gr_ifn
theorem f67_118 : gm_ft 67 118 = some (.aload_n 0, 1) := by decide +kernel
theorem r67_118 {E : Nat → Value} {d : Nat} {st : List Value} {h : gm_H} {r : gm_R × gm_H} {a1 a2 a3 a4 a5 a6 a7 a8 a9 : Value} {x : Nat} : gm_Go E d 67 118 [.ref x, a1, a2, a3, a4, a5, a6, a7, a8, a9] st h r ↔ gm_Go E d 67 119 [.ref x, a1, a2, a3, a4, a5, a6, a7, a8, a9] (.ref x :: st) h r := gr_loc m67 f67_118 rfl rfl
theorem r67_118n {E : Nat → Value} {d : Nat} {st : List Value} {h : gm_H} {r : gm_R × gm_H} {a1 a2 a3 a4 a5 a6 a7 a8 a9 : Value}  : gm_Go E d 67 118 [.null, a1, a2, a3, a4, a5, a6, a7, a8, a9] st h r ↔ gm_Go E d 67 119 [.null, a1, a2, a3, a4, a5, a6, a7, a8, a9] (.null :: st) h r := gr_loc m67 f67_118 rfl rfl
theorem f67_119 : gm_ft 67 119 = some (.bipush (-6), 2) := by decide +kernel
theorem r67_119 {E : Nat → Value} {d : Nat} {st : List Value} {h : gm_H} {r : gm_R × gm_H} {lv : List Value} : gm_Go E d 67 119 lv st h r ↔ gm_Go E d 67 121 lv (.int (-6 : Int32) :: st) h r := gr_pure m67 f67_119 rfl
theorem f67_121 : gm_ft 67 121 = some (.invokevirtual 160, 3) := by decide +kernel
theorem n67_121 {st : List Value} {h : gm_H} {E : Nat → Value} {lv : List Value} {b0 : Value} {a : Nat} (hs : (st.map fun v => v.category).sum ≤ 8) (he : (gm_en1 [.ref a, b0]).length ≤ 2) {vs : List Value} (hr : gm_rd h a = some (0, vs)) : gm_next E 67 121 lv (b0 :: .ref a :: st) h = some (.inr (.inl (0, 22, [.ref a, b0], st))) := gn_call m67 f67_121 rfl rfl rfl rfl rfl rfl rfl (gc_virt (bs := [b0]) (w := 206) rfl rfl rfl rfl hs he hr) (by decide)
theorem f67_124 : gm_ft 67 124 = some (.pop, 1) := by decide +kernel
theorem r67_124 {E : Nat → Value} {d : Nat} {st : List Value} {h : gm_H} {r : gm_R × gm_H} {lv : List Value} {x : Int32} : gm_Go E d 67 124 lv (.int x :: st) h r ↔ gm_Go E d 67 125 lv st h r := gr_pure m67 f67_124 rfl
theorem r67_124a {E : Nat → Value} {d : Nat} {st : List Value} {h : gm_H} {r : gm_R × gm_H} {lv : List Value} {a : Nat} : gm_Go E d 67 124 lv (.ref a :: st) h r ↔ gm_Go E d 67 125 lv st h r := gr_pure m67 f67_124 rfl
theorem r67_124n {E : Nat → Value} {d : Nat} {st : List Value} {h : gm_H} {r : gm_R × gm_H} {lv : List Value} : gm_Go E d 67 124 lv (.null :: st) h r ↔ gm_Go E d 67 125 lv st h r := gr_pure m67 f67_124 rfl
theorem f67_125 : gm_ft 67 125 = some (.aload_n 2, 1) := by decide +kernel
theorem r67_125 {E : Nat → Value} {d : Nat} {st : List Value} {h : gm_H} {r : gm_R × gm_H} {a0 a1 a3 a4 a5 a6 a7 a8 a9 : Value} {x : Nat} : gm_Go E d 67 125 [a0, a1, .ref x, a3, a4, a5, a6, a7, a8, a9] st h r ↔ gm_Go E d 67 126 [a0, a1, .ref x, a3, a4, a5, a6, a7, a8, a9] (.ref x :: st) h r := gr_loc m67 f67_125 rfl rfl
theorem r67_125n {E : Nat → Value} {d : Nat} {st : List Value} {h : gm_H} {r : gm_R × gm_H} {a0 a1 a3 a4 a5 a6 a7 a8 a9 : Value}  : gm_Go E d 67 125 [a0, a1, .null, a3, a4, a5, a6, a7, a8, a9] st h r ↔ gm_Go E d 67 126 [a0, a1, .null, a3, a4, a5, a6, a7, a8, a9] (.null :: st) h r := gr_loc m67 f67_125 rfl rfl
theorem f67_126 : gm_ft 67 126 = some (.getfield 147, 3) := by decide +kernel
theorem r67_126 {E : Nat → Value} {d : Nat} {st : List Value} {h : gm_H} {r : gm_R × gm_H} {lv : List Value} {a : Nat} {vs : List Value} {v : Value} (hr : gm_rd h a = some (4, vs)) (hv : vs[2]? = some v) : gm_Go E d 67 126 lv (.ref a :: st) h r ↔ gm_Go E d 67 129 lv (v :: st) h r := gr_rd m67 f67_126 rfl rfl rfl rfl (gf_get k0_147 hr hv)
theorem f67_129 : gm_ft 67 129 = some (.iload 9, 2) := by decide +kernel
theorem r67_129 {E : Nat → Value} {d : Nat} {st : List Value} {h : gm_H} {r : gm_R × gm_H} {a0 a1 a2 a3 a4 a5 a6 a7 a8 : Value} {x : Int32} : gm_Go E d 67 129 [a0, a1, a2, a3, a4, a5, a6, a7, a8, .int x] st h r ↔ gm_Go E d 67 131 [a0, a1, a2, a3, a4, a5, a6, a7, a8, .int x] (.int x :: st) h r := gr_loc m67 f67_129 rfl rfl
theorem f67_131 : gm_ft 67 131 = some (.lload 7, 2) := by decide +kernel
theorem r67_131 {E : Nat → Value} {d : Nat} {st : List Value} {h : gm_H} {r : gm_R × gm_H} {a0 a1 a2 a3 a4 a5 a6 a8 a9 : Value} {x : Int64} : gm_Go E d 67 131 [a0, a1, a2, a3, a4, a5, a6, .long x, a8, a9] st h r ↔ gm_Go E d 67 133 [a0, a1, a2, a3, a4, a5, a6, .long x, a8, a9] (.long x :: st) h r := gr_loc m67 f67_131 rfl rfl
theorem f67_133 : gm_ft 67 133 = some (.lastore, 1) := by decide +kernel
theorem r67_133 {E : Nat → Value} {d : Nat} {st : List Value} {h : gm_H} {r : gm_R × gm_H} {lv : List Value} {a k j : Nat} {vs : List Value} {x : Int64} (hr : gm_rd h a = some (k, vs)) (hk : 100 ≤ k ∧ k % 100 = 1 ∧ gm_ko k = 1 ∧ 1 < 3) (hj : j < 2 ^ 31) (hl : j < vs.length) : gm_Go E d 67 133 lv (.long x :: .int (nI j) :: .ref a :: st) h r ↔ gm_Go E d 67 134 lv st (gm_wr h a (k, vs.set j (.long x))) r := gr_wr m67 f67_133 rfl rfl rfl rfl rfl (ga_st hr hk hj hl)
theorem f67_134 : gm_ft 67 134 = some (.iinc 5 1, 3) := by decide +kernel
theorem r67_134 {E : Nat → Value} {d : Nat} {st : List Value} {h : gm_H} {r : gm_R × gm_H} {a0 a1 a2 a3 a4 a6 a7 a8 a9 : Value} {x : Int32} : gm_Go E d 67 134 [a0, a1, a2, a3, a4, .int x, a6, a7, a8, a9] st h r ↔ gm_Go E d 67 137 [a0, a1, a2, a3, gm_k a4, .int (x + (1 : Int32)), a6, a7, a8, a9] st h r := gr_loc m67 f67_134 rfl rfl
theorem f67_137 : gm_ft 67 137 = some (.goto (-110), 3) := by decide +kernel
theorem r67_137 {E : Nat → Value} {d : Nat} {st : List Value} {h : gm_H} {r : gm_R × gm_H} {lv : List Value} : gm_Go E d 67 137 lv st h r ↔ gm_Go E d 67 27 lv st h r := gr_brT m67 f67_137 rfl rfl rfl rfl
theorem f67_140 : gm_ft 67 140 = some (.aload_n 1, 1) := by decide +kernel
theorem r67_140 {E : Nat → Value} {d : Nat} {st : List Value} {h : gm_H} {r : gm_R × gm_H} {a0 a2 a3 a4 a5 a6 a7 a8 a9 : Value} {x : Nat} : gm_Go E d 67 140 [a0, .ref x, a2, a3, a4, a5, a6, a7, a8, a9] st h r ↔ gm_Go E d 67 141 [a0, .ref x, a2, a3, a4, a5, a6, a7, a8, a9] (.ref x :: st) h r := gr_loc m67 f67_140 rfl rfl
theorem r67_140n {E : Nat → Value} {d : Nat} {st : List Value} {h : gm_H} {r : gm_R × gm_H} {a0 a2 a3 a4 a5 a6 a7 a8 a9 : Value}  : gm_Go E d 67 140 [a0, .null, a2, a3, a4, a5, a6, a7, a8, a9] st h r ↔ gm_Go E d 67 141 [a0, .null, a2, a3, a4, a5, a6, a7, a8, a9] (.null :: st) h r := gr_loc m67 f67_140 rfl rfl
theorem f67_141 : gm_ft 67 141 = some (.iconst 1, 1) := by decide +kernel
theorem r67_141 {E : Nat → Value} {d : Nat} {st : List Value} {h : gm_H} {r : gm_R × gm_H} {lv : List Value} : gm_Go E d 67 141 lv st h r ↔ gm_Go E d 67 142 lv (.int (1 : Int32) :: st) h r := gr_pure m67 f67_141 rfl
theorem f67_142 : gm_ft 67 142 = some (.invokevirtual 309, 3) := by decide +kernel
theorem n67_142 {st : List Value} {h : gm_H} {E : Nat → Value} {lv : List Value} {b0 : Value} {a : Nat} (hs : (st.map fun v => v.category).sum ≤ 8) (he : (gm_en1 [.ref a, b0]).length ≤ 2) {vs : List Value} (hr : gm_rd h a = some (1, vs)) : gm_next E 67 142 lv (b0 :: .ref a :: st) h = some (.inr (.inl (0, 35, [.ref a, b0], st))) := gn_call m67 f67_142 rfl rfl rfl rfl rfl rfl rfl (gc_virt (bs := [b0]) (w := 360) rfl rfl rfl rfl hs he hr) (by decide)
theorem f67_145 : gm_ft 67 145 = some (.ifCond .eq 27, 3) := by decide +kernel
theorem r67_145 {E : Nat → Value} {d : Nat} {st : List Value} {h : gm_H} {r : gm_R × gm_H} {lv : List Value} {x : Int32} : gm_Go E d 67 145 lv (.int x :: st) h r ↔ (if x = 0 then gm_Go E d 67 172 lv st h r else gm_Go E d 67 148 lv st h r) := (gr_br m67 f67_145 rfl rfl rfl rfl).trans gr_if
theorem f67_148 : gm_ft 67 148 = some (.aload 4, 2) := by decide +kernel
theorem r67_148 {E : Nat → Value} {d : Nat} {st : List Value} {h : gm_H} {r : gm_R × gm_H} {a0 a1 a2 a3 a5 a6 a7 a8 a9 : Value} {x : Nat} : gm_Go E d 67 148 [a0, a1, a2, a3, .ref x, a5, a6, a7, a8, a9] st h r ↔ gm_Go E d 67 150 [a0, a1, a2, a3, .ref x, a5, a6, a7, a8, a9] (.ref x :: st) h r := gr_loc m67 f67_148 rfl rfl
theorem r67_148n {E : Nat → Value} {d : Nat} {st : List Value} {h : gm_H} {r : gm_R × gm_H} {a0 a1 a2 a3 a5 a6 a7 a8 a9 : Value}  : gm_Go E d 67 148 [a0, a1, a2, a3, .null, a5, a6, a7, a8, a9] st h r ↔ gm_Go E d 67 150 [a0, a1, a2, a3, .null, a5, a6, a7, a8, a9] (.null :: st) h r := gr_loc m67 f67_148 rfl rfl
theorem f67_150 : gm_ft 67 150 = some (.ifnull 17, 3) := by decide +kernel
theorem r67_150n {E : Nat → Value} {d : Nat} {st : List Value} {h : gm_H} {r : gm_R × gm_H} {lv : List Value} : gm_Go E d 67 150 lv (.null :: st) h r ↔ gm_Go E d 67 167 lv st h r := gr_brT m67 f67_150 rfl rfl rfl rfl
theorem r67_150 {E : Nat → Value} {d : Nat} {st : List Value} {h : gm_H} {r : gm_R × gm_H} {lv : List Value} {a : Nat} : gm_Go E d 67 150 lv (.ref a :: st) h r ↔ gm_Go E d 67 153 lv st h r := gr_brF m67 f67_150 rfl rfl rfl rfl
theorem f67_153 : gm_ft 67 153 = some (.aload 4, 2) := by decide +kernel
theorem r67_153 {E : Nat → Value} {d : Nat} {st : List Value} {h : gm_H} {r : gm_R × gm_H} {a0 a1 a2 a3 a5 a6 a7 a8 a9 : Value} {x : Nat} : gm_Go E d 67 153 [a0, a1, a2, a3, .ref x, a5, a6, a7, a8, a9] st h r ↔ gm_Go E d 67 155 [a0, a1, a2, a3, .ref x, a5, a6, a7, a8, a9] (.ref x :: st) h r := gr_loc m67 f67_153 rfl rfl
theorem r67_153n {E : Nat → Value} {d : Nat} {st : List Value} {h : gm_H} {r : gm_R × gm_H} {a0 a1 a2 a3 a5 a6 a7 a8 a9 : Value}  : gm_Go E d 67 153 [a0, a1, a2, a3, .null, a5, a6, a7, a8, a9] st h r ↔ gm_Go E d 67 155 [a0, a1, a2, a3, .null, a5, a6, a7, a8, a9] (.null :: st) h r := gr_loc m67 f67_153 rfl rfl
theorem f67_155 : gm_ft 67 155 = some (.getfield 54, 3) := by decide +kernel
theorem r67_155 {E : Nat → Value} {d : Nat} {st : List Value} {h : gm_H} {r : gm_R × gm_H} {lv : List Value} {a : Nat} {vs : List Value} {v : Value} (hr : gm_rd h a = some (3, vs)) (hv : vs[1]? = some v) : gm_Go E d 67 155 lv (.ref a :: st) h r ↔ gm_Go E d 67 158 lv (v :: st) h r := gr_rd m67 f67_155 rfl rfl rfl rfl (gf_get k0_54 hr hv)
theorem f67_158 : gm_ft 67 158 = some (.iconst 2, 1) := by decide +kernel
theorem r67_158 {E : Nat → Value} {d : Nat} {st : List Value} {h : gm_H} {r : gm_R × gm_H} {lv : List Value} : gm_Go E d 67 158 lv st h r ↔ gm_Go E d 67 159 lv (.int (2 : Int32) :: st) h r := gr_pure m67 f67_158 rfl
theorem f67_159 : gm_ft 67 159 = some (.if_icmp .ne 8, 3) := by decide +kernel
theorem r67_159 {E : Nat → Value} {d : Nat} {st : List Value} {h : gm_H} {r : gm_R × gm_H} {lv : List Value} {x y : Int32} : gm_Go E d 67 159 lv (.int y :: .int x :: st) h r ↔ (if x = y then gm_Go E d 67 162 lv st h r else gm_Go E d 67 167 lv st h r) := (gr_br m67 f67_159 rfl rfl rfl rfl).trans gr_ifn
theorem f67_162 : gm_ft 67 162 = some (.aload_n 0, 1) := by decide +kernel
theorem r67_162 {E : Nat → Value} {d : Nat} {st : List Value} {h : gm_H} {r : gm_R × gm_H} {a1 a2 a3 a4 a5 a6 a7 a8 a9 : Value} {x : Nat} : gm_Go E d 67 162 [.ref x, a1, a2, a3, a4, a5, a6, a7, a8, a9] st h r ↔ gm_Go E d 67 163 [.ref x, a1, a2, a3, a4, a5, a6, a7, a8, a9] (.ref x :: st) h r := gr_loc m67 f67_162 rfl rfl
theorem r67_162n {E : Nat → Value} {d : Nat} {st : List Value} {h : gm_H} {r : gm_R × gm_H} {a1 a2 a3 a4 a5 a6 a7 a8 a9 : Value}  : gm_Go E d 67 162 [.null, a1, a2, a3, a4, a5, a6, a7, a8, a9] st h r ↔ gm_Go E d 67 163 [.null, a1, a2, a3, a4, a5, a6, a7, a8, a9] (.null :: st) h r := gr_loc m67 f67_162 rfl rfl
theorem f67_163 : gm_ft 67 163 = some (.aload_n 2, 1) := by decide +kernel
theorem r67_163 {E : Nat → Value} {d : Nat} {st : List Value} {h : gm_H} {r : gm_R × gm_H} {a0 a1 a3 a4 a5 a6 a7 a8 a9 : Value} {x : Nat} : gm_Go E d 67 163 [a0, a1, .ref x, a3, a4, a5, a6, a7, a8, a9] st h r ↔ gm_Go E d 67 164 [a0, a1, .ref x, a3, a4, a5, a6, a7, a8, a9] (.ref x :: st) h r := gr_loc m67 f67_163 rfl rfl
theorem r67_163n {E : Nat → Value} {d : Nat} {st : List Value} {h : gm_H} {r : gm_R × gm_H} {a0 a1 a3 a4 a5 a6 a7 a8 a9 : Value}  : gm_Go E d 67 163 [a0, a1, .null, a3, a4, a5, a6, a7, a8, a9] st h r ↔ gm_Go E d 67 164 [a0, a1, .null, a3, a4, a5, a6, a7, a8, a9] (.null :: st) h r := gr_loc m67 f67_163 rfl rfl
theorem f67_164 : gm_ft 67 164 = some (.invokevirtual 312, 3) := by decide +kernel
theorem n67_164 {st : List Value} {h : gm_H} {E : Nat → Value} {lv : List Value} {b0 : Value} {a : Nat} (hs : (st.map fun v => v.category).sum ≤ 8) (he : (gm_en1 [.ref a, b0]).length ≤ 3) {vs : List Value} (hr : gm_rd h a = some (0, vs)) : gm_next E 67 164 lv (b0 :: .ref a :: st) h = some (.inr (.inl (0, 72, [.ref a, b0], st))) := gn_call m67 f67_164 rfl rfl rfl rfl rfl rfl rfl (gc_virt (bs := [b0]) (w := 586) rfl rfl rfl rfl hs he hr) (by decide)
theorem f67_167 : gm_ft 67 167 = some (.aload_n 0, 1) := by decide +kernel
theorem r67_167 {E : Nat → Value} {d : Nat} {st : List Value} {h : gm_H} {r : gm_R × gm_H} {a1 a2 a3 a4 a5 a6 a7 a8 a9 : Value} {x : Nat} : gm_Go E d 67 167 [.ref x, a1, a2, a3, a4, a5, a6, a7, a8, a9] st h r ↔ gm_Go E d 67 168 [.ref x, a1, a2, a3, a4, a5, a6, a7, a8, a9] (.ref x :: st) h r := gr_loc m67 f67_167 rfl rfl
theorem r67_167n {E : Nat → Value} {d : Nat} {st : List Value} {h : gm_H} {r : gm_R × gm_H} {a1 a2 a3 a4 a5 a6 a7 a8 a9 : Value}  : gm_Go E d 67 167 [.null, a1, a2, a3, a4, a5, a6, a7, a8, a9] st h r ↔ gm_Go E d 67 168 [.null, a1, a2, a3, a4, a5, a6, a7, a8, a9] (.null :: st) h r := gr_loc m67 f67_167 rfl rfl
theorem f67_168 : gm_ft 67 168 = some (.iload_n 3, 1) := by decide +kernel
theorem r67_168 {E : Nat → Value} {d : Nat} {st : List Value} {h : gm_H} {r : gm_R × gm_H} {a0 a1 a2 a4 a5 a6 a7 a8 a9 : Value} {x : Int32} : gm_Go E d 67 168 [a0, a1, a2, .int x, a4, a5, a6, a7, a8, a9] st h r ↔ gm_Go E d 67 169 [a0, a1, a2, .int x, a4, a5, a6, a7, a8, a9] (.int x :: st) h r := gr_loc m67 f67_168 rfl rfl
theorem f67_169 : gm_ft 67 169 = some (.invokevirtual 316, 3) := by decide +kernel
theorem n67_169 {st : List Value} {h : gm_H} {E : Nat → Value} {lv : List Value} {b0 : Value} {a : Nat} (hs : (st.map fun v => v.category).sum ≤ 8) (he : (gm_en1 [.ref a, b0]).length ≤ 4) {vs : List Value} (hr : gm_rd h a = some (0, vs)) : gm_next E 67 169 lv (b0 :: .ref a :: st) h = some (.inr (.inl (0, 50, [.ref a, b0], st))) := gn_call m67 f67_169 rfl rfl rfl rfl rfl rfl rfl (gc_virt (bs := [b0]) (w := 472) rfl rfl rfl rfl hs he hr) (by decide)
theorem f67_172 : gm_ft 67 172 = some (.return_, 1) := by decide +kernel
theorem r67_172 {E : Nat → Value} {d : Nat} {h : gm_H} {r : gm_R × gm_H} {lv : List Value} : gm_Go E d 67 172 lv [] h r ↔ r = (.inl none, h) := gr_ret m67 f67_172 rfl rfl rfl rfl rfl rfl rfl rfl rfl
/-! GraphReader$LocalClass.chainHas(LGraphReader$LocalClass;)Z -/
theorem m68 : gm_mt[68]? = some (⟨"GraphReader$LocalClass", "chainHas", "(LGraphReader$LocalClass;)Z"⟩, prog_4_method_4_code, 3, (some .boolean), [], 3, 1) := rfl
theorem f68_0 : gm_ft 68 0 = some (.aload_n 0, 1) := by decide +kernel
theorem r68_0 {E : Nat → Value} {d : Nat} {st : List Value} {h : gm_H} {r : gm_R × gm_H} {a1 a2 : Value} {x : Nat} : gm_Go E d 68 0 [.ref x, a1, a2] st h r ↔ gm_Go E d 68 1 [.ref x, a1, a2] (.ref x :: st) h r := gr_loc m68 f68_0 rfl rfl
theorem r68_0n {E : Nat → Value} {d : Nat} {st : List Value} {h : gm_H} {r : gm_R × gm_H} {a1 a2 : Value}  : gm_Go E d 68 0 [.null, a1, a2] st h r ↔ gm_Go E d 68 1 [.null, a1, a2] (.null :: st) h r := gr_loc m68 f68_0 rfl rfl
theorem f68_1 : gm_ft 68 1 = some (.astore_n 2, 1) := by decide +kernel
theorem r68_1 {E : Nat → Value} {d : Nat} {st : List Value} {h : gm_H} {r : gm_R × gm_H} {a0 a1 a2 : Value} {x : Nat} : gm_Go E d 68 1 [a0, a1, a2] (.ref x :: st) h r ↔ gm_Go E d 68 2 [a0, gm_k a1, .ref x] st h r := gr_loc m68 f68_1 rfl rfl
theorem r68_1n {E : Nat → Value} {d : Nat} {st : List Value} {h : gm_H} {r : gm_R × gm_H} {a0 a1 a2 : Value}  : gm_Go E d 68 1 [a0, a1, a2] (.null :: st) h r ↔ gm_Go E d 68 2 [a0, gm_k a1, .null] st h r := gr_loc m68 f68_1 rfl rfl
theorem f68_2 : gm_ft 68 2 = some (.aload_n 2, 1) := by decide +kernel
theorem r68_2 {E : Nat → Value} {d : Nat} {st : List Value} {h : gm_H} {r : gm_R × gm_H} {a0 a1 : Value} {x : Nat} : gm_Go E d 68 2 [a0, a1, .ref x] st h r ↔ gm_Go E d 68 3 [a0, a1, .ref x] (.ref x :: st) h r := gr_loc m68 f68_2 rfl rfl
theorem r68_2n {E : Nat → Value} {d : Nat} {st : List Value} {h : gm_H} {r : gm_R × gm_H} {a0 a1 : Value}  : gm_Go E d 68 2 [a0, a1, .null] st h r ↔ gm_Go E d 68 3 [a0, a1, .null] (.null :: st) h r := gr_loc m68 f68_2 rfl rfl
theorem f68_3 : gm_ft 68 3 = some (.ifnull 18, 3) := by decide +kernel
theorem r68_3n {E : Nat → Value} {d : Nat} {st : List Value} {h : gm_H} {r : gm_R × gm_H} {lv : List Value} : gm_Go E d 68 3 lv (.null :: st) h r ↔ gm_Go E d 68 21 lv st h r := gr_brT m68 f68_3 rfl rfl rfl rfl
theorem r68_3 {E : Nat → Value} {d : Nat} {st : List Value} {h : gm_H} {r : gm_R × gm_H} {lv : List Value} {a : Nat} : gm_Go E d 68 3 lv (.ref a :: st) h r ↔ gm_Go E d 68 6 lv st h r := gr_brF m68 f68_3 rfl rfl rfl rfl
theorem f68_6 : gm_ft 68 6 = some (.aload_n 2, 1) := by decide +kernel
theorem r68_6 {E : Nat → Value} {d : Nat} {st : List Value} {h : gm_H} {r : gm_R × gm_H} {a0 a1 : Value} {x : Nat} : gm_Go E d 68 6 [a0, a1, .ref x] st h r ↔ gm_Go E d 68 7 [a0, a1, .ref x] (.ref x :: st) h r := gr_loc m68 f68_6 rfl rfl
theorem r68_6n {E : Nat → Value} {d : Nat} {st : List Value} {h : gm_H} {r : gm_R × gm_H} {a0 a1 : Value}  : gm_Go E d 68 6 [a0, a1, .null] st h r ↔ gm_Go E d 68 7 [a0, a1, .null] (.null :: st) h r := gr_loc m68 f68_6 rfl rfl
theorem f68_7 : gm_ft 68 7 = some (.aload_n 1, 1) := by decide +kernel
theorem r68_7 {E : Nat → Value} {d : Nat} {st : List Value} {h : gm_H} {r : gm_R × gm_H} {a0 a2 : Value} {x : Nat} : gm_Go E d 68 7 [a0, .ref x, a2] st h r ↔ gm_Go E d 68 8 [a0, .ref x, a2] (.ref x :: st) h r := gr_loc m68 f68_7 rfl rfl
theorem r68_7n {E : Nat → Value} {d : Nat} {st : List Value} {h : gm_H} {r : gm_R × gm_H} {a0 a2 : Value}  : gm_Go E d 68 7 [a0, .null, a2] st h r ↔ gm_Go E d 68 8 [a0, .null, a2] (.null :: st) h r := gr_loc m68 f68_7 rfl rfl
theorem f68_8 : gm_ft 68 8 = some (.if_acmp .ne 5, 3) := by decide +kernel
theorem r68_8 {E : Nat → Value} {d : Nat} {st : List Value} {h : gm_H} {r : gm_R × gm_H} {lv : List Value} {u v : Nat} : gm_Go E d 68 8 lv (.ref v :: .ref u :: st) h r ↔ (if u = v then gm_Go E d 68 11 lv st h r else gm_Go E d 68 13 lv st h r) := (gr_br m68 f68_8 rfl rfl rfl rfl).trans gr_acn
theorem f68_11 : gm_ft 68 11 = some (.iconst 1, 1) := by decide +kernel
theorem r68_11 {E : Nat → Value} {d : Nat} {st : List Value} {h : gm_H} {r : gm_R × gm_H} {lv : List Value} : gm_Go E d 68 11 lv st h r ↔ gm_Go E d 68 12 lv (.int (1 : Int32) :: st) h r := gr_pure m68 f68_11 rfl
theorem f68_12 : gm_ft 68 12 = some (.ireturn, 1) := by decide +kernel
theorem r68_12_0 {E : Nat → Value} {d : Nat} {h : gm_H} {r : gm_R × gm_H} {lv : List Value} : gm_Go E d 68 12 lv [.int (0 : Int32)] h r ↔ r = (.inl (some (.int (0 : Int32))), h) := gr_ret m68 f68_12 rfl rfl rfl rfl rfl rfl rfl rfl (by unfold gm_rt; dsimp only; rw [if_pos ⟨rfl, rfl⟩])
theorem r68_12_1 {E : Nat → Value} {d : Nat} {h : gm_H} {r : gm_R × gm_H} {lv : List Value} : gm_Go E d 68 12 lv [.int (1 : Int32)] h r ↔ r = (.inl (some (.int (1 : Int32))), h) := gr_ret m68 f68_12 rfl rfl rfl rfl rfl rfl rfl rfl (by unfold gm_rt; dsimp only; rw [if_pos ⟨rfl, rfl⟩])
theorem f68_13 : gm_ft 68 13 = some (.aload_n 2, 1) := by decide +kernel
theorem r68_13 {E : Nat → Value} {d : Nat} {st : List Value} {h : gm_H} {r : gm_R × gm_H} {a0 a1 : Value} {x : Nat} : gm_Go E d 68 13 [a0, a1, .ref x] st h r ↔ gm_Go E d 68 14 [a0, a1, .ref x] (.ref x :: st) h r := gr_loc m68 f68_13 rfl rfl
theorem r68_13n {E : Nat → Value} {d : Nat} {st : List Value} {h : gm_H} {r : gm_R × gm_H} {a0 a1 : Value}  : gm_Go E d 68 13 [a0, a1, .null] st h r ↔ gm_Go E d 68 14 [a0, a1, .null] (.null :: st) h r := gr_loc m68 f68_13 rfl rfl
theorem f68_14 : gm_ft 68 14 = some (.getfield 25, 3) := by decide +kernel
theorem r68_14 {E : Nat → Value} {d : Nat} {st : List Value} {h : gm_H} {r : gm_R × gm_H} {lv : List Value} {a : Nat} {vs : List Value} {v : Value} (hr : gm_rd h a = some (3, vs)) (hv : vs[2]? = some v) : gm_Go E d 68 14 lv (.ref a :: st) h r ↔ gm_Go E d 68 17 lv (v :: st) h r := gr_rd m68 f68_14 rfl rfl rfl rfl (gf_get k3_25 hr hv)
theorem f68_17 : gm_ft 68 17 = some (.astore_n 2, 1) := by decide +kernel
theorem r68_17 {E : Nat → Value} {d : Nat} {st : List Value} {h : gm_H} {r : gm_R × gm_H} {a0 a1 a2 : Value} {x : Nat} : gm_Go E d 68 17 [a0, a1, a2] (.ref x :: st) h r ↔ gm_Go E d 68 18 [a0, gm_k a1, .ref x] st h r := gr_loc m68 f68_17 rfl rfl
theorem r68_17n {E : Nat → Value} {d : Nat} {st : List Value} {h : gm_H} {r : gm_R × gm_H} {a0 a1 a2 : Value}  : gm_Go E d 68 17 [a0, a1, a2] (.null :: st) h r ↔ gm_Go E d 68 18 [a0, gm_k a1, .null] st h r := gr_loc m68 f68_17 rfl rfl
theorem f68_18 : gm_ft 68 18 = some (.goto (-16), 3) := by decide +kernel
theorem r68_18 {E : Nat → Value} {d : Nat} {st : List Value} {h : gm_H} {r : gm_R × gm_H} {lv : List Value} : gm_Go E d 68 18 lv st h r ↔ gm_Go E d 68 2 lv st h r := gr_brT m68 f68_18 rfl rfl rfl rfl
theorem f68_21 : gm_ft 68 21 = some (.iconst 0, 1) := by decide +kernel
theorem r68_21 {E : Nat → Value} {d : Nat} {st : List Value} {h : gm_H} {r : gm_R × gm_H} {lv : List Value} : gm_Go E d 68 21 lv st h r ↔ gm_Go E d 68 22 lv (.int (0 : Int32) :: st) h r := gr_pure m68 f68_21 rfl
theorem f68_22 : gm_ft 68 22 = some (.ireturn, 1) := by decide +kernel
theorem r68_22_0 {E : Nat → Value} {d : Nat} {h : gm_H} {r : gm_R × gm_H} {lv : List Value} : gm_Go E d 68 22 lv [.int (0 : Int32)] h r ↔ r = (.inl (some (.int (0 : Int32))), h) := gr_ret m68 f68_22 rfl rfl rfl rfl rfl rfl rfl rfl (by unfold gm_rt; dsimp only; rw [if_pos ⟨rfl, rfl⟩])
theorem r68_22_1 {E : Nat → Value} {d : Nat} {h : gm_H} {r : gm_R × gm_H} {lv : List Value} : gm_Go E d 68 22 lv [.int (1 : Int32)] h r ↔ r = (.inl (some (.int (1 : Int32))), h) := gr_ret m68 f68_22 rfl rfl rfl rfl rfl rfl rfl rfl (by unfold gm_rt; dsimp only; rw [if_pos ⟨rfl, rfl⟩])
/-! GraphReader.nextPrimitive(I)J -/
theorem m69 : gm_mt[69]? = some (⟨"GraphReader", "nextPrimitive", "(I)J"⟩, prog_1_method_43_code, 4, (some .long), [], 0, 1) := rfl
theorem f69_0 : gm_ft 69 0 = some (.aload_n 0, 1) := by decide +kernel
theorem r69_0 {E : Nat → Value} {d : Nat} {st : List Value} {h : gm_H} {r : gm_R × gm_H} {a1 a2 a3 : Value} {x : Nat} : gm_Go E d 69 0 [.ref x, a1, a2, a3] st h r ↔ gm_Go E d 69 1 [.ref x, a1, a2, a3] (.ref x :: st) h r := gr_loc m69 f69_0 rfl rfl
theorem r69_0n {E : Nat → Value} {d : Nat} {st : List Value} {h : gm_H} {r : gm_R × gm_H} {a1 a2 a3 : Value}  : gm_Go E d 69 0 [.null, a1, a2, a3] st h r ↔ gm_Go E d 69 1 [.null, a1, a2, a3] (.null :: st) h r := gr_loc m69 f69_0 rfl rfl
theorem f69_1 : gm_ft 69 1 = some (.getstatic 319, 3) := by decide +kernel
theorem r69_1 {E : Nat → Value} {d : Nat} {st : List Value} {h : gm_H} {r : gm_R × gm_H} {lv : List Value} : gm_Go E d 69 1 lv st h r ↔ gm_Go E d 69 4 lv (E 0 :: st) h r := gr_rd m69 f69_1 rfl rfl rfl rfl rfl
theorem f69_4 : gm_ft 69 4 = some (.iload_n 1, 1) := by decide +kernel
theorem r69_4 {E : Nat → Value} {d : Nat} {st : List Value} {h : gm_H} {r : gm_R × gm_H} {a0 a2 a3 : Value} {x : Int32} : gm_Go E d 69 4 [a0, .int x, a2, a3] st h r ↔ gm_Go E d 69 5 [a0, .int x, a2, a3] (.int x :: st) h r := gr_loc m69 f69_4 rfl rfl
theorem f69_5 : gm_ft 69 5 = some (.iaload, 1) := by decide +kernel
theorem r69_5 {E : Nat → Value} {d : Nat} {st : List Value} {h : gm_H} {r : gm_R × gm_H} {lv : List Value} {a k j : Nat} {vs : List Value} {v : Value} (hr : gm_rd h a = some (k, vs)) (hk : 100 ≤ k ∧ (fun t => t == 0) (k % 100) = true) (hj : j < 2 ^ 31) (hv : vs[j]? = some v) : gm_Go E d 69 5 lv (.int (nI j) :: .ref a :: st) h r ↔ gm_Go E d 69 6 lv (v :: st) h r := gr_rd m69 f69_5 rfl rfl rfl rfl (ga_ld (P := fun t => t == 0) hr hk hj hv)
theorem f69_6 : gm_ft 69 6 = some (.invokevirtual 163, 3) := by decide +kernel
theorem n69_6 {st : List Value} {h : gm_H} {E : Nat → Value} {lv : List Value} {b0 : Value} {a : Nat} (hs : (st.map fun v => v.category).sum ≤ 8) (he : (gm_en1 [.ref a, b0]).length ≤ 4) {vs : List Value} (hr : gm_rd h a = some (0, vs)) : gm_next E 69 6 lv (b0 :: .ref a :: st) h = some (.inr (.inl (0, 25, [.ref a, b0], st))) := gn_call m69 f69_6 rfl rfl rfl rfl rfl rfl rfl (gc_virt (bs := [b0]) (w := 278) rfl rfl rfl rfl hs he hr) (by decide)
theorem f69_9 : gm_ft 69 9 = some (.lstore_n 2, 1) := by decide +kernel
theorem r69_9 {E : Nat → Value} {d : Nat} {st : List Value} {h : gm_H} {r : gm_R × gm_H} {a0 a1 a2 a3 : Value} {x : Int64} : gm_Go E d 69 9 [a0, a1, a2, a3] (.long x :: st) h r ↔ gm_Go E d 69 10 [a0, gm_k a1, .long x, gm_u] st h r := gr_loc m69 f69_9 rfl rfl
theorem f69_10 : gm_ft 69 10 = some (.iload_n 1, 1) := by decide +kernel
theorem r69_10 {E : Nat → Value} {d : Nat} {st : List Value} {h : gm_H} {r : gm_R × gm_H} {a0 a2 a3 : Value} {x : Int32} : gm_Go E d 69 10 [a0, .int x, a2, a3] st h r ↔ gm_Go E d 69 11 [a0, .int x, a2, a3] (.int x :: st) h r := gr_loc m69 f69_10 rfl rfl
theorem f69_11 : gm_ft 69 11 = some (.tableswitch 63 0 5 #[37, 63, 42, 63, 46, 51], 37) := by decide +kernel
theorem r69_11d {E : Nat → Value} {d : Nat} {st : List Value} {h : gm_H} {r : gm_R × gm_H} {lv : List Value} {x : Int32} (hx : x.toInt < 0 ∨ 5 < x.toInt) : gm_Go E d 69 11 lv (.int x :: st) h r ↔ gm_Go E d 69 74 lv st h r := gr_sw m69 f69_11 rfl rfl rfl (by unfold gm_sw; dsimp only; rw [if_pos hx]) rfl
theorem r69_11_0 {E : Nat → Value} {d : Nat} {st : List Value} {h : gm_H} {r : gm_R × gm_H} {lv : List Value} : gm_Go E d 69 11 lv (.int (0 : Int32) :: st) h r ↔ gm_Go E d 69 48 lv st h r := gr_sw m69 f69_11 rfl rfl rfl rfl rfl
theorem r69_11_1 {E : Nat → Value} {d : Nat} {st : List Value} {h : gm_H} {r : gm_R × gm_H} {lv : List Value} : gm_Go E d 69 11 lv (.int (1 : Int32) :: st) h r ↔ gm_Go E d 69 74 lv st h r := gr_sw m69 f69_11 rfl rfl rfl rfl rfl
theorem r69_11_2 {E : Nat → Value} {d : Nat} {st : List Value} {h : gm_H} {r : gm_R × gm_H} {lv : List Value} : gm_Go E d 69 11 lv (.int (2 : Int32) :: st) h r ↔ gm_Go E d 69 53 lv st h r := gr_sw m69 f69_11 rfl rfl rfl rfl rfl
theorem r69_11_3 {E : Nat → Value} {d : Nat} {st : List Value} {h : gm_H} {r : gm_R × gm_H} {lv : List Value} : gm_Go E d 69 11 lv (.int (3 : Int32) :: st) h r ↔ gm_Go E d 69 74 lv st h r := gr_sw m69 f69_11 rfl rfl rfl rfl rfl
theorem r69_11_4 {E : Nat → Value} {d : Nat} {st : List Value} {h : gm_H} {r : gm_R × gm_H} {lv : List Value} : gm_Go E d 69 11 lv (.int (4 : Int32) :: st) h r ↔ gm_Go E d 69 57 lv st h r := gr_sw m69 f69_11 rfl rfl rfl rfl rfl
theorem r69_11_5 {E : Nat → Value} {d : Nat} {st : List Value} {h : gm_H} {r : gm_R × gm_H} {lv : List Value} : gm_Go E d 69 11 lv (.int (5 : Int32) :: st) h r ↔ gm_Go E d 69 62 lv st h r := gr_sw m69 f69_11 rfl rfl rfl rfl rfl
theorem f69_48 : gm_ft 69 48 = some (.lload_n 2, 1) := by decide +kernel
theorem r69_48 {E : Nat → Value} {d : Nat} {st : List Value} {h : gm_H} {r : gm_R × gm_H} {a0 a1 a3 : Value} {x : Int64} : gm_Go E d 69 48 [a0, a1, .long x, a3] st h r ↔ gm_Go E d 69 49 [a0, a1, .long x, a3] (.long x :: st) h r := gr_loc m69 f69_48 rfl rfl
theorem f69_49 : gm_ft 69 49 = some (.l2i, 1) := by decide +kernel
theorem r69_49 {E : Nat → Value} {d : Nat} {st : List Value} {h : gm_H} {r : gm_R × gm_H} {lv : List Value} {x : Int64} : gm_Go E d 69 49 lv (.long x :: st) h r ↔ gm_Go E d 69 50 lv (.int (x.toInt32) :: st) h r := gr_pure m69 f69_49 rfl
theorem f69_50 : gm_ft 69 50 = some (.i2b, 1) := by decide +kernel
theorem r69_50 {E : Nat → Value} {d : Nat} {st : List Value} {h : gm_H} {r : gm_R × gm_H} {lv : List Value} {x : Int32} : gm_Go E d 69 50 lv (.int x :: st) h r ↔ gm_Go E d 69 51 lv (.int (x.toInt8.toInt32) :: st) h r := gr_pure m69 f69_50 rfl
theorem f69_51 : gm_ft 69 51 = some (.i2l, 1) := by decide +kernel
theorem r69_51 {E : Nat → Value} {d : Nat} {st : List Value} {h : gm_H} {r : gm_R × gm_H} {lv : List Value} {x : Int32} : gm_Go E d 69 51 lv (.int x :: st) h r ↔ gm_Go E d 69 52 lv (.long (x.toInt64) :: st) h r := gr_pure m69 f69_51 rfl
theorem f69_52 : gm_ft 69 52 = some (.lreturn, 1) := by decide +kernel
theorem r69_52 {E : Nat → Value} {d : Nat} {h : gm_H} {r : gm_R × gm_H} {lv : List Value} {x : Int64} : gm_Go E d 69 52 lv [.long x] h r ↔ r = (.inl (some (.long x)), h) := gr_ret m69 f69_52 rfl rfl rfl rfl rfl rfl rfl rfl rfl
theorem f69_53 : gm_ft 69 53 = some (.lload_n 2, 1) := by decide +kernel
theorem r69_53 {E : Nat → Value} {d : Nat} {st : List Value} {h : gm_H} {r : gm_R × gm_H} {a0 a1 a3 : Value} {x : Int64} : gm_Go E d 69 53 [a0, a1, .long x, a3] st h r ↔ gm_Go E d 69 54 [a0, a1, .long x, a3] (.long x :: st) h r := gr_loc m69 f69_53 rfl rfl
theorem f69_54 : gm_ft 69 54 = some (.l2i, 1) := by decide +kernel
theorem r69_54 {E : Nat → Value} {d : Nat} {st : List Value} {h : gm_H} {r : gm_R × gm_H} {lv : List Value} {x : Int64} : gm_Go E d 69 54 lv (.long x :: st) h r ↔ gm_Go E d 69 55 lv (.int (x.toInt32) :: st) h r := gr_pure m69 f69_54 rfl
theorem f69_55 : gm_ft 69 55 = some (.i2l, 1) := by decide +kernel
theorem r69_55 {E : Nat → Value} {d : Nat} {st : List Value} {h : gm_H} {r : gm_R × gm_H} {lv : List Value} {x : Int32} : gm_Go E d 69 55 lv (.int x :: st) h r ↔ gm_Go E d 69 56 lv (.long (x.toInt64) :: st) h r := gr_pure m69 f69_55 rfl
theorem f69_56 : gm_ft 69 56 = some (.lreturn, 1) := by decide +kernel
theorem r69_56 {E : Nat → Value} {d : Nat} {h : gm_H} {r : gm_R × gm_H} {lv : List Value} {x : Int64} : gm_Go E d 69 56 lv [.long x] h r ↔ r = (.inl (some (.long x)), h) := gr_ret m69 f69_56 rfl rfl rfl rfl rfl rfl rfl rfl rfl
theorem f69_57 : gm_ft 69 57 = some (.lload_n 2, 1) := by decide +kernel
theorem r69_57 {E : Nat → Value} {d : Nat} {st : List Value} {h : gm_H} {r : gm_R × gm_H} {a0 a1 a3 : Value} {x : Int64} : gm_Go E d 69 57 [a0, a1, .long x, a3] st h r ↔ gm_Go E d 69 58 [a0, a1, .long x, a3] (.long x :: st) h r := gr_loc m69 f69_57 rfl rfl
theorem f69_58 : gm_ft 69 58 = some (.l2i, 1) := by decide +kernel
theorem r69_58 {E : Nat → Value} {d : Nat} {st : List Value} {h : gm_H} {r : gm_R × gm_H} {lv : List Value} {x : Int64} : gm_Go E d 69 58 lv (.long x :: st) h r ↔ gm_Go E d 69 59 lv (.int (x.toInt32) :: st) h r := gr_pure m69 f69_58 rfl
theorem f69_59 : gm_ft 69 59 = some (.i2s, 1) := by decide +kernel
theorem r69_59 {E : Nat → Value} {d : Nat} {st : List Value} {h : gm_H} {r : gm_R × gm_H} {lv : List Value} {x : Int32} : gm_Go E d 69 59 lv (.int x :: st) h r ↔ gm_Go E d 69 60 lv (.int (x.toInt16.toInt32) :: st) h r := gr_pure m69 f69_59 rfl
theorem f69_60 : gm_ft 69 60 = some (.i2l, 1) := by decide +kernel
theorem r69_60 {E : Nat → Value} {d : Nat} {st : List Value} {h : gm_H} {r : gm_R × gm_H} {lv : List Value} {x : Int32} : gm_Go E d 69 60 lv (.int x :: st) h r ↔ gm_Go E d 69 61 lv (.long (x.toInt64) :: st) h r := gr_pure m69 f69_60 rfl
theorem f69_61 : gm_ft 69 61 = some (.lreturn, 1) := by decide +kernel
theorem r69_61 {E : Nat → Value} {d : Nat} {h : gm_H} {r : gm_R × gm_H} {lv : List Value} {x : Int64} : gm_Go E d 69 61 lv [.long x] h r ↔ r = (.inl (some (.long x)), h) := gr_ret m69 f69_61 rfl rfl rfl rfl rfl rfl rfl rfl rfl
theorem f69_62 : gm_ft 69 62 = some (.lload_n 2, 1) := by decide +kernel
theorem r69_62 {E : Nat → Value} {d : Nat} {st : List Value} {h : gm_H} {r : gm_R × gm_H} {a0 a1 a3 : Value} {x : Int64} : gm_Go E d 69 62 [a0, a1, .long x, a3] st h r ↔ gm_Go E d 69 63 [a0, a1, .long x, a3] (.long x :: st) h r := gr_loc m69 f69_62 rfl rfl
theorem f69_63 : gm_ft 69 63 = some (.lconst 0, 1) := by decide +kernel
theorem r69_63 {E : Nat → Value} {d : Nat} {st : List Value} {h : gm_H} {r : gm_R × gm_H} {lv : List Value} : gm_Go E d 69 63 lv st h r ↔ gm_Go E d 69 64 lv (.long 0 :: st) h r := gr_pure m69 f69_63 rfl
theorem f69_64 : gm_ft 69 64 = some (.lcmp, 1) := by decide +kernel
theorem r69_64 {E : Nat → Value} {d : Nat} {st : List Value} {h : gm_H} {r : gm_R × gm_H} {lv : List Value} {x y : Int64} : gm_Go E d 69 64 lv (.long y :: .long x :: st) h r ↔ gm_Go E d 69 65 lv (.int (lg_cmp x y) :: st) h r := gr_pure m69 f69_64 rfl
theorem f69_65 : gm_ft 69 65 = some (.ifCond .ne 7, 3) := by decide +kernel
theorem r69_65 {E : Nat → Value} {d : Nat} {st : List Value} {h : gm_H} {r : gm_R × gm_H} {lv : List Value} {x : Int32} : gm_Go E d 69 65 lv (.int x :: st) h r ↔ (if x = 0 then gm_Go E d 69 68 lv st h r else gm_Go E d 69 72 lv st h r) := (gr_br m69 f69_65 rfl rfl rfl rfl).trans gr_ifn
theorem f69_68 : gm_ft 69 68 = some (.lconst 0, 1) := by decide +kernel
theorem r69_68 {E : Nat → Value} {d : Nat} {st : List Value} {h : gm_H} {r : gm_R × gm_H} {lv : List Value} : gm_Go E d 69 68 lv st h r ↔ gm_Go E d 69 69 lv (.long 0 :: st) h r := gr_pure m69 f69_68 rfl
theorem f69_69 : gm_ft 69 69 = some (.goto 4, 3) := by decide +kernel
theorem r69_69 {E : Nat → Value} {d : Nat} {st : List Value} {h : gm_H} {r : gm_R × gm_H} {lv : List Value} : gm_Go E d 69 69 lv st h r ↔ gm_Go E d 69 73 lv st h r := gr_brT m69 f69_69 rfl rfl rfl rfl
theorem f69_72 : gm_ft 69 72 = some (.lconst 1, 1) := by decide +kernel
theorem r69_72 {E : Nat → Value} {d : Nat} {st : List Value} {h : gm_H} {r : gm_R × gm_H} {lv : List Value} : gm_Go E d 69 72 lv st h r ↔ gm_Go E d 69 73 lv (.long 1 :: st) h r := gr_pure m69 f69_72 rfl
theorem f69_73 : gm_ft 69 73 = some (.lreturn, 1) := by decide +kernel
theorem r69_73 {E : Nat → Value} {d : Nat} {h : gm_H} {r : gm_R × gm_H} {lv : List Value} {x : Int64} : gm_Go E d 69 73 lv [.long x] h r ↔ r = (.inl (some (.long x)), h) := gr_ret m69 f69_73 rfl rfl rfl rfl rfl rfl rfl rfl rfl
theorem f69_74 : gm_ft 69 74 = some (.lload_n 2, 1) := by decide +kernel
theorem r69_74 {E : Nat → Value} {d : Nat} {st : List Value} {h : gm_H} {r : gm_R × gm_H} {a0 a1 a3 : Value} {x : Int64} : gm_Go E d 69 74 [a0, a1, .long x, a3] st h r ↔ gm_Go E d 69 75 [a0, a1, .long x, a3] (.long x :: st) h r := gr_loc m69 f69_74 rfl rfl
theorem f69_75 : gm_ft 69 75 = some (.lreturn, 1) := by decide +kernel
theorem r69_75 {E : Nat → Value} {d : Nat} {h : gm_H} {r : gm_R × gm_H} {lv : List Value} {x : Int64} : gm_Go E d 69 75 lv [.long x] h r ↔ r = (.inl (some (.long x)), h) := gr_ret m69 f69_75 rfl rfl rfl rfl rfl rfl rfl rfl rfl
/-! GraphReader$LocalClass.slotOf(II)I -/
theorem m70 : gm_mt[70]? = some (⟨"GraphReader$LocalClass", "slotOf", "(II)I"⟩, prog_4_method_7_code, 4, (some .int), [], 3, 1) := rfl
theorem f70_0 : gm_ft 70 0 = some (.aload_n 0, 1) := by decide +kernel
theorem r70_0 {E : Nat → Value} {d : Nat} {st : List Value} {h : gm_H} {r : gm_R × gm_H} {a1 a2 a3 : Value} {x : Nat} : gm_Go E d 70 0 [.ref x, a1, a2, a3] st h r ↔ gm_Go E d 70 1 [.ref x, a1, a2, a3] (.ref x :: st) h r := gr_loc m70 f70_0 rfl rfl
theorem r70_0n {E : Nat → Value} {d : Nat} {st : List Value} {h : gm_H} {r : gm_R × gm_H} {a1 a2 a3 : Value}  : gm_Go E d 70 0 [.null, a1, a2, a3] st h r ↔ gm_Go E d 70 1 [.null, a1, a2, a3] (.null :: st) h r := gr_loc m70 f70_0 rfl rfl
theorem f70_1 : gm_ft 70 1 = some (.iload_n 1, 1) := by decide +kernel
theorem r70_1 {E : Nat → Value} {d : Nat} {st : List Value} {h : gm_H} {r : gm_R × gm_H} {a0 a2 a3 : Value} {x : Int32} : gm_Go E d 70 1 [a0, .int x, a2, a3] st h r ↔ gm_Go E d 70 2 [a0, .int x, a2, a3] (.int x :: st) h r := gr_loc m70 f70_1 rfl rfl
theorem f70_2 : gm_ft 70 2 = some (.invokevirtual 40, 3) := by decide +kernel
theorem n70_2 {st : List Value} {h : gm_H} {E : Nat → Value} {lv : List Value} {b0 : Value} {a : Nat} (hs : (st.map fun v => v.category).sum ≤ 8) (he : (gm_en1 [.ref a, b0]).length ≤ 3) {vs : List Value} (hr : gm_rd h a = some (3, vs)) : gm_next E 70 2 lv (b0 :: .ref a :: st) h = some (.inr (.inl (0, 11, [.ref a, b0], st))) := gn_call m70 f70_2 rfl rfl rfl rfl rfl rfl rfl (gc_virt (bs := [b0]) (w := 581) rfl rfl rfl rfl hs he hr) (by decide)
theorem f70_5 : gm_ft 70 5 = some (.istore_n 3, 1) := by decide +kernel
theorem r70_5 {E : Nat → Value} {d : Nat} {st : List Value} {h : gm_H} {r : gm_R × gm_H} {a0 a1 a2 a3 : Value} {x : Int32} : gm_Go E d 70 5 [a0, a1, a2, a3] (.int x :: st) h r ↔ gm_Go E d 70 6 [a0, a1, gm_k a2, .int x] st h r := gr_loc m70 f70_5 rfl rfl
theorem f70_6 : gm_ft 70 6 = some (.iload_n 3, 1) := by decide +kernel
theorem r70_6 {E : Nat → Value} {d : Nat} {st : List Value} {h : gm_H} {r : gm_R × gm_H} {a0 a1 a2 : Value} {x : Int32} : gm_Go E d 70 6 [a0, a1, a2, .int x] st h r ↔ gm_Go E d 70 7 [a0, a1, a2, .int x] (.int x :: st) h r := gr_loc m70 f70_6 rfl rfl
theorem f70_7 : gm_ft 70 7 = some (.ifCond .lt 22, 3) := by decide +kernel
theorem r70_7 {E : Nat → Value} {d : Nat} {st : List Value} {h : gm_H} {r : gm_R × gm_H} {lv : List Value} {x : Int32} : gm_Go E d 70 7 lv (.int x :: st) h r ↔ (if x < 0 then gm_Go E d 70 29 lv st h r else gm_Go E d 70 10 lv st h r) := (gr_br m70 f70_7 rfl rfl rfl rfl).trans gr_if
theorem f70_10 : gm_ft 70 10 = some (.aload_n 0, 1) := by decide +kernel
theorem r70_10 {E : Nat → Value} {d : Nat} {st : List Value} {h : gm_H} {r : gm_R × gm_H} {a1 a2 a3 : Value} {x : Nat} : gm_Go E d 70 10 [.ref x, a1, a2, a3] st h r ↔ gm_Go E d 70 11 [.ref x, a1, a2, a3] (.ref x :: st) h r := gr_loc m70 f70_10 rfl rfl
theorem r70_10n {E : Nat → Value} {d : Nat} {st : List Value} {h : gm_H} {r : gm_R × gm_H} {a1 a2 a3 : Value}  : gm_Go E d 70 10 [.null, a1, a2, a3] st h r ↔ gm_Go E d 70 11 [.null, a1, a2, a3] (.null :: st) h r := gr_loc m70 f70_10 rfl rfl
theorem f70_11 : gm_ft 70 11 = some (.getfield 15, 3) := by decide +kernel
theorem r70_11 {E : Nat → Value} {d : Nat} {st : List Value} {h : gm_H} {r : gm_R × gm_H} {lv : List Value} {a : Nat} {vs : List Value} {v : Value} (hr : gm_rd h a = some (3, vs)) (hv : vs[5]? = some v) : gm_Go E d 70 11 lv (.ref a :: st) h r ↔ gm_Go E d 70 14 lv (v :: st) h r := gr_rd m70 f70_11 rfl rfl rfl rfl (gf_get k3_15 hr hv)
theorem f70_14 : gm_ft 70 14 = some (.iload_n 3, 1) := by decide +kernel
theorem r70_14 {E : Nat → Value} {d : Nat} {st : List Value} {h : gm_H} {r : gm_R × gm_H} {a0 a1 a2 : Value} {x : Int32} : gm_Go E d 70 14 [a0, a1, a2, .int x] st h r ↔ gm_Go E d 70 15 [a0, a1, a2, .int x] (.int x :: st) h r := gr_loc m70 f70_14 rfl rfl
theorem f70_15 : gm_ft 70 15 = some (.iaload, 1) := by decide +kernel
theorem r70_15 {E : Nat → Value} {d : Nat} {st : List Value} {h : gm_H} {r : gm_R × gm_H} {lv : List Value} {a k j : Nat} {vs : List Value} {v : Value} (hr : gm_rd h a = some (k, vs)) (hk : 100 ≤ k ∧ (fun t => t == 0) (k % 100) = true) (hj : j < 2 ^ 31) (hv : vs[j]? = some v) : gm_Go E d 70 15 lv (.int (nI j) :: .ref a :: st) h r ↔ gm_Go E d 70 16 lv (v :: st) h r := gr_rd m70 f70_15 rfl rfl rfl rfl (ga_ld (P := fun t => t == 0) hr hk hj hv)
theorem f70_16 : gm_ft 70 16 = some (.iload_n 2, 1) := by decide +kernel
theorem r70_16 {E : Nat → Value} {d : Nat} {st : List Value} {h : gm_H} {r : gm_R × gm_H} {a0 a1 a3 : Value} {x : Int32} : gm_Go E d 70 16 [a0, a1, .int x, a3] st h r ↔ gm_Go E d 70 17 [a0, a1, .int x, a3] (.int x :: st) h r := gr_loc m70 f70_16 rfl rfl
theorem f70_17 : gm_ft 70 17 = some (.if_icmp .ne 12, 3) := by decide +kernel
theorem r70_17 {E : Nat → Value} {d : Nat} {st : List Value} {h : gm_H} {r : gm_R × gm_H} {lv : List Value} {x y : Int32} : gm_Go E d 70 17 lv (.int y :: .int x :: st) h r ↔ (if x = y then gm_Go E d 70 20 lv st h r else gm_Go E d 70 29 lv st h r) := (gr_br m70 f70_17 rfl rfl rfl rfl).trans gr_ifn
theorem f70_20 : gm_ft 70 20 = some (.aload_n 0, 1) := by decide +kernel
theorem r70_20 {E : Nat → Value} {d : Nat} {st : List Value} {h : gm_H} {r : gm_R × gm_H} {a1 a2 a3 : Value} {x : Nat} : gm_Go E d 70 20 [.ref x, a1, a2, a3] st h r ↔ gm_Go E d 70 21 [.ref x, a1, a2, a3] (.ref x :: st) h r := gr_loc m70 f70_20 rfl rfl
theorem r70_20n {E : Nat → Value} {d : Nat} {st : List Value} {h : gm_H} {r : gm_R × gm_H} {a1 a2 a3 : Value}  : gm_Go E d 70 20 [.null, a1, a2, a3] st h r ↔ gm_Go E d 70 21 [.null, a1, a2, a3] (.null :: st) h r := gr_loc m70 f70_20 rfl rfl
theorem f70_21 : gm_ft 70 21 = some (.invokevirtual 44, 3) := by decide +kernel
theorem n70_21 {st : List Value} {h : gm_H} {E : Nat → Value} {lv : List Value} {a : Nat} (hs : (st.map fun v => v.category).sum ≤ 8) (he : (gm_en1 [.ref a]).length ≤ 1) {vs : List Value} (hr : gm_rd h a = some (3, vs)) : gm_next E 70 21 lv (.ref a :: st) h = some (.inr (.inl (0, 63, [.ref a], st))) := gn_call m70 f70_21 rfl rfl rfl rfl rfl rfl rfl (gc_virt (bs := []) (w := 546) rfl rfl rfl rfl hs he hr) (by decide)
theorem f70_24 : gm_ft 70 24 = some (.iload_n 3, 1) := by decide +kernel
theorem r70_24 {E : Nat → Value} {d : Nat} {st : List Value} {h : gm_H} {r : gm_R × gm_H} {a0 a1 a2 : Value} {x : Int32} : gm_Go E d 70 24 [a0, a1, a2, .int x] st h r ↔ gm_Go E d 70 25 [a0, a1, a2, .int x] (.int x :: st) h r := gr_loc m70 f70_24 rfl rfl
theorem f70_25 : gm_ft 70 25 = some (.iadd, 1) := by decide +kernel
theorem r70_25 {E : Nat → Value} {d : Nat} {st : List Value} {h : gm_H} {r : gm_R × gm_H} {lv : List Value} {x y : Int32} : gm_Go E d 70 25 lv (.int y :: .int x :: st) h r ↔ gm_Go E d 70 26 lv (.int (x + y) :: st) h r := gr_pure m70 f70_25 rfl
theorem f70_26 : gm_ft 70 26 = some (.goto 4, 3) := by decide +kernel
theorem r70_26 {E : Nat → Value} {d : Nat} {st : List Value} {h : gm_H} {r : gm_R × gm_H} {lv : List Value} : gm_Go E d 70 26 lv st h r ↔ gm_Go E d 70 30 lv st h r := gr_brT m70 f70_26 rfl rfl rfl rfl
theorem f70_29 : gm_ft 70 29 = some (.iconst (-1), 1) := by decide +kernel
theorem r70_29 {E : Nat → Value} {d : Nat} {st : List Value} {h : gm_H} {r : gm_R × gm_H} {lv : List Value} : gm_Go E d 70 29 lv st h r ↔ gm_Go E d 70 30 lv (.int (-1 : Int32) :: st) h r := gr_pure m70 f70_29 rfl
theorem f70_30 : gm_ft 70 30 = some (.ireturn, 1) := by decide +kernel
theorem r70_30 {E : Nat → Value} {d : Nat} {h : gm_H} {r : gm_R × gm_H} {lv : List Value} {x : Int32} : gm_Go E d 70 30 lv [.int x] h r ↔ r = (.inl (some (.int x)), h) := gr_ret m70 f70_30 rfl rfl rfl rfl rfl rfl rfl rfl (by unfold gm_rt; dsimp only; rw [if_pos ⟨rfl, rfl⟩])
/-! GraphReader.isIntsOrNull(I)Z -/
theorem m71 : gm_mt[71]? = some (⟨"GraphReader", "isIntsOrNull", "(I)Z"⟩, prog_1_method_44_code, 2, (some .boolean), [], 0, 1) := rfl
theorem f71_0 : gm_ft 71 0 = some (.iload_n 1, 1) := by decide +kernel
theorem r71_0 {E : Nat → Value} {d : Nat} {st : List Value} {h : gm_H} {r : gm_R × gm_H} {a0 : Value} {x : Int32} : gm_Go E d 71 0 [a0, .int x] st h r ↔ gm_Go E d 71 1 [a0, .int x] (.int x :: st) h r := gr_loc m71 f71_0 rfl rfl
theorem f71_1 : gm_ft 71 1 = some (.bipush (-2), 2) := by decide +kernel
theorem r71_1 {E : Nat → Value} {d : Nat} {st : List Value} {h : gm_H} {r : gm_R × gm_H} {lv : List Value} : gm_Go E d 71 1 lv st h r ↔ gm_Go E d 71 3 lv (.int (-2 : Int32) :: st) h r := gr_pure m71 f71_1 rfl
theorem f71_3 : gm_ft 71 3 = some (.if_icmp .eq 24, 3) := by decide +kernel
theorem r71_3 {E : Nat → Value} {d : Nat} {st : List Value} {h : gm_H} {r : gm_R × gm_H} {lv : List Value} {x y : Int32} : gm_Go E d 71 3 lv (.int y :: .int x :: st) h r ↔ (if x = y then gm_Go E d 71 27 lv st h r else gm_Go E d 71 6 lv st h r) := (gr_br m71 f71_3 rfl rfl rfl rfl).trans gr_if
theorem f71_6 : gm_ft 71 6 = some (.aload_n 0, 1) := by decide +kernel
theorem r71_6 {E : Nat → Value} {d : Nat} {st : List Value} {h : gm_H} {r : gm_R × gm_H} {a1 : Value} {x : Nat} : gm_Go E d 71 6 [.ref x, a1] st h r ↔ gm_Go E d 71 7 [.ref x, a1] (.ref x :: st) h r := gr_loc m71 f71_6 rfl rfl
theorem r71_6n {E : Nat → Value} {d : Nat} {st : List Value} {h : gm_H} {r : gm_R × gm_H} {a1 : Value}  : gm_Go E d 71 6 [.null, a1] st h r ↔ gm_Go E d 71 7 [.null, a1] (.null :: st) h r := gr_loc m71 f71_6 rfl rfl
theorem f71_7 : gm_ft 71 7 = some (.iload_n 1, 1) := by decide +kernel
theorem r71_7 {E : Nat → Value} {d : Nat} {st : List Value} {h : gm_H} {r : gm_R × gm_H} {a0 : Value} {x : Int32} : gm_Go E d 71 7 [a0, .int x] st h r ↔ gm_Go E d 71 8 [a0, .int x] (.int x :: st) h r := gr_loc m71 f71_7 rfl rfl
theorem f71_8 : gm_ft 71 8 = some (.invokevirtual 131, 3) := by decide +kernel
theorem n71_8 {st : List Value} {h : gm_H} {E : Nat → Value} {lv : List Value} {b0 : Value} {a : Nat} (hs : (st.map fun v => v.category).sum ≤ 8) (he : (gm_en1 [.ref a, b0]).length ≤ 2) {vs : List Value} (hr : gm_rd h a = some (0, vs)) : gm_next E 71 8 lv (b0 :: .ref a :: st) h = some (.inr (.inl (0, 49, [.ref a, b0], st))) := gn_call m71 f71_8 rfl rfl rfl rfl rfl rfl rfl (gc_virt (bs := [b0]) (w := 468) rfl rfl rfl rfl hs he hr) (by decide)
theorem f71_11 : gm_ft 71 11 = some (.ifCond .eq 20, 3) := by decide +kernel
theorem r71_11 {E : Nat → Value} {d : Nat} {st : List Value} {h : gm_H} {r : gm_R × gm_H} {lv : List Value} {x : Int32} : gm_Go E d 71 11 lv (.int x :: st) h r ↔ (if x = 0 then gm_Go E d 71 31 lv st h r else gm_Go E d 71 14 lv st h r) := (gr_br m71 f71_11 rfl rfl rfl rfl).trans gr_if
theorem f71_14 : gm_ft 71 14 = some (.aload_n 0, 1) := by decide +kernel
theorem r71_14 {E : Nat → Value} {d : Nat} {st : List Value} {h : gm_H} {r : gm_R × gm_H} {a1 : Value} {x : Nat} : gm_Go E d 71 14 [.ref x, a1] st h r ↔ gm_Go E d 71 15 [.ref x, a1] (.ref x :: st) h r := gr_loc m71 f71_14 rfl rfl
theorem r71_14n {E : Nat → Value} {d : Nat} {st : List Value} {h : gm_H} {r : gm_R × gm_H} {a1 : Value}  : gm_Go E d 71 14 [.null, a1] st h r ↔ gm_Go E d 71 15 [.null, a1] (.null :: st) h r := gr_loc m71 f71_14 rfl rfl
theorem f71_15 : gm_ft 71 15 = some (.getfield 21, 3) := by decide +kernel
theorem r71_15 {E : Nat → Value} {d : Nat} {st : List Value} {h : gm_H} {r : gm_R × gm_H} {lv : List Value} {a : Nat} {vs : List Value} {v : Value} (hr : gm_rd h a = some (0, vs)) (hv : vs[8]? = some v) : gm_Go E d 71 15 lv (.ref a :: st) h r ↔ gm_Go E d 71 18 lv (v :: st) h r := gr_rd m71 f71_15 rfl rfl rfl rfl (gf_get k0_21 hr hv)
theorem f71_18 : gm_ft 71 18 = some (.iload_n 1, 1) := by decide +kernel
theorem r71_18 {E : Nat → Value} {d : Nat} {st : List Value} {h : gm_H} {r : gm_R × gm_H} {a0 : Value} {x : Int32} : gm_Go E d 71 18 [a0, .int x] st h r ↔ gm_Go E d 71 19 [a0, .int x] (.int x :: st) h r := gr_loc m71 f71_18 rfl rfl
theorem f71_19 : gm_ft 71 19 = some (.aaload, 1) := by decide +kernel
theorem r71_19 {E : Nat → Value} {d : Nat} {st : List Value} {h : gm_H} {r : gm_R × gm_H} {lv : List Value} {a k j : Nat} {vs : List Value} {v : Value} (hr : gm_rd h a = some (k, vs)) (hk : 100 ≤ k ∧ (fun t => t == 10 || t == 11 || t == 12) (k % 100) = true) (hj : j < 2 ^ 31) (hv : vs[j]? = some v) : gm_Go E d 71 19 lv (.int (nI j) :: .ref a :: st) h r ↔ gm_Go E d 71 20 lv (v :: st) h r := gr_rd m71 f71_19 rfl rfl rfl rfl (ga_ld (P := fun t => t == 10 || t == 11 || t == 12) hr hk hj hv)
theorem f71_20 : gm_ft 71 20 = some (.getfield 134, 3) := by decide +kernel
theorem r71_20 {E : Nat → Value} {d : Nat} {st : List Value} {h : gm_H} {r : gm_R × gm_H} {lv : List Value} {a : Nat} {vs : List Value} {v : Value} (hr : gm_rd h a = some (4, vs)) (hv : vs[0]? = some v) : gm_Go E d 71 20 lv (.ref a :: st) h r ↔ gm_Go E d 71 23 lv (v :: st) h r := gr_rd m71 f71_20 rfl rfl rfl rfl (gf_get k0_134 hr hv)
theorem f71_23 : gm_ft 71 23 = some (.iconst 2, 1) := by decide +kernel
theorem r71_23 {E : Nat → Value} {d : Nat} {st : List Value} {h : gm_H} {r : gm_R × gm_H} {lv : List Value} : gm_Go E d 71 23 lv st h r ↔ gm_Go E d 71 24 lv (.int (2 : Int32) :: st) h r := gr_pure m71 f71_23 rfl
theorem f71_24 : gm_ft 71 24 = some (.if_icmp .ne 7, 3) := by decide +kernel
theorem r71_24 {E : Nat → Value} {d : Nat} {st : List Value} {h : gm_H} {r : gm_R × gm_H} {lv : List Value} {x y : Int32} : gm_Go E d 71 24 lv (.int y :: .int x :: st) h r ↔ (if x = y then gm_Go E d 71 27 lv st h r else gm_Go E d 71 31 lv st h r) := (gr_br m71 f71_24 rfl rfl rfl rfl).trans gr_ifn
theorem f71_27 : gm_ft 71 27 = some (.iconst 1, 1) := by decide +kernel
theorem r71_27 {E : Nat → Value} {d : Nat} {st : List Value} {h : gm_H} {r : gm_R × gm_H} {lv : List Value} : gm_Go E d 71 27 lv st h r ↔ gm_Go E d 71 28 lv (.int (1 : Int32) :: st) h r := gr_pure m71 f71_27 rfl
theorem f71_28 : gm_ft 71 28 = some (.goto 4, 3) := by decide +kernel
theorem r71_28 {E : Nat → Value} {d : Nat} {st : List Value} {h : gm_H} {r : gm_R × gm_H} {lv : List Value} : gm_Go E d 71 28 lv st h r ↔ gm_Go E d 71 32 lv st h r := gr_brT m71 f71_28 rfl rfl rfl rfl
theorem f71_31 : gm_ft 71 31 = some (.iconst 0, 1) := by decide +kernel
theorem r71_31 {E : Nat → Value} {d : Nat} {st : List Value} {h : gm_H} {r : gm_R × gm_H} {lv : List Value} : gm_Go E d 71 31 lv st h r ↔ gm_Go E d 71 32 lv (.int (0 : Int32) :: st) h r := gr_pure m71 f71_31 rfl
theorem f71_32 : gm_ft 71 32 = some (.ireturn, 1) := by decide +kernel
theorem r71_32_0 {E : Nat → Value} {d : Nat} {h : gm_H} {r : gm_R × gm_H} {lv : List Value} : gm_Go E d 71 32 lv [.int (0 : Int32)] h r ↔ r = (.inl (some (.int (0 : Int32))), h) := gr_ret m71 f71_32 rfl rfl rfl rfl rfl rfl rfl rfl (by unfold gm_rt; dsimp only; rw [if_pos ⟨rfl, rfl⟩])
theorem r71_32_1 {E : Nat → Value} {d : Nat} {h : gm_H} {r : gm_R × gm_H} {lv : List Value} : gm_Go E d 71 32 lv [.int (1 : Int32)] h r ↔ r = (.inl (some (.int (1 : Int32))), h) := gr_ret m71 f71_32 rfl rfl rfl rfl rfl rfl rfl rfl (by unfold gm_rt; dsimp only; rw [if_pos ⟨rfl, rfl⟩])
/-! GraphReader.takeExtra(LGraphReader$Thing;)V -/
theorem m72 : gm_mt[72]? = some (⟨"GraphReader", "takeExtra", "(LGraphReader$Thing;)V"⟩, prog_1_method_45_code, 3, none, [], 0, 1) := rfl
theorem f72_0 : gm_ft 72 0 = some (.aload_n 0, 1) := by decide +kernel
theorem r72_0 {E : Nat → Value} {d : Nat} {st : List Value} {h : gm_H} {r : gm_R × gm_H} {a1 a2 : Value} {x : Nat} : gm_Go E d 72 0 [.ref x, a1, a2] st h r ↔ gm_Go E d 72 1 [.ref x, a1, a2] (.ref x :: st) h r := gr_loc m72 f72_0 rfl rfl
theorem r72_0n {E : Nat → Value} {d : Nat} {st : List Value} {h : gm_H} {r : gm_R × gm_H} {a1 a2 : Value}  : gm_Go E d 72 0 [.null, a1, a2] st h r ↔ gm_Go E d 72 1 [.null, a1, a2] (.null :: st) h r := gr_loc m72 f72_0 rfl rfl
theorem f72_1 : gm_ft 72 1 = some (.getfield 96, 3) := by decide +kernel
theorem r72_1 {E : Nat → Value} {d : Nat} {st : List Value} {h : gm_H} {r : gm_R × gm_H} {lv : List Value} {a : Nat} {vs : List Value} {v : Value} (hr : gm_rd h a = some (0, vs)) (hv : vs[7]? = some v) : gm_Go E d 72 1 lv (.ref a :: st) h r ↔ gm_Go E d 72 4 lv (v :: st) h r := gr_rd m72 f72_1 rfl rfl rfl rfl (gf_get k0_96 hr hv)
theorem f72_4 : gm_ft 72 4 = some (.iconst 2, 1) := by decide +kernel
theorem r72_4 {E : Nat → Value} {d : Nat} {st : List Value} {h : gm_H} {r : gm_R × gm_H} {lv : List Value} : gm_Go E d 72 4 lv st h r ↔ gm_Go E d 72 5 lv (.int (2 : Int32) :: st) h r := gr_pure m72 f72_4 rfl
theorem f72_5 : gm_ft 72 5 = some (.iadd, 1) := by decide +kernel
theorem r72_5 {E : Nat → Value} {d : Nat} {st : List Value} {h : gm_H} {r : gm_R × gm_H} {lv : List Value} {x y : Int32} : gm_Go E d 72 5 lv (.int y :: .int x :: st) h r ↔ gm_Go E d 72 6 lv (.int (x + y) :: st) h r := gr_pure m72 f72_5 rfl
theorem f72_6 : gm_ft 72 6 = some (.istore_n 2, 1) := by decide +kernel
theorem r72_6 {E : Nat → Value} {d : Nat} {st : List Value} {h : gm_H} {r : gm_R × gm_H} {a0 a1 a2 : Value} {x : Int32} : gm_Go E d 72 6 [a0, a1, a2] (.int x :: st) h r ↔ gm_Go E d 72 7 [a0, gm_k a1, .int x] st h r := gr_loc m72 f72_6 rfl rfl
theorem f72_7 : gm_ft 72 7 = some (.aload_n 0, 1) := by decide +kernel
theorem r72_7 {E : Nat → Value} {d : Nat} {st : List Value} {h : gm_H} {r : gm_R × gm_H} {a1 a2 : Value} {x : Nat} : gm_Go E d 72 7 [.ref x, a1, a2] st h r ↔ gm_Go E d 72 8 [.ref x, a1, a2] (.ref x :: st) h r := gr_loc m72 f72_7 rfl rfl
theorem r72_7n {E : Nat → Value} {d : Nat} {st : List Value} {h : gm_H} {r : gm_R × gm_H} {a1 a2 : Value}  : gm_Go E d 72 7 [.null, a1, a2] st h r ↔ gm_Go E d 72 8 [.null, a1, a2] (.null :: st) h r := gr_loc m72 f72_7 rfl rfl
theorem f72_8 : gm_ft 72 8 = some (.getfield 93, 3) := by decide +kernel
theorem r72_8 {E : Nat → Value} {d : Nat} {st : List Value} {h : gm_H} {r : gm_R × gm_H} {lv : List Value} {a : Nat} {vs : List Value} {v : Value} (hr : gm_rd h a = some (0, vs)) (hv : vs[6]? = some v) : gm_Go E d 72 8 lv (.ref a :: st) h r ↔ gm_Go E d 72 11 lv (v :: st) h r := gr_rd m72 f72_8 rfl rfl rfl rfl (gf_get k0_93 hr hv)
theorem f72_11 : gm_ft 72 11 = some (.iload_n 2, 1) := by decide +kernel
theorem r72_11 {E : Nat → Value} {d : Nat} {st : List Value} {h : gm_H} {r : gm_R × gm_H} {a0 a1 : Value} {x : Int32} : gm_Go E d 72 11 [a0, a1, .int x] st h r ↔ gm_Go E d 72 12 [a0, a1, .int x] (.int x :: st) h r := gr_loc m72 f72_11 rfl rfl
theorem f72_12 : gm_ft 72 12 = some (.isub, 1) := by decide +kernel
theorem r72_12 {E : Nat → Value} {d : Nat} {st : List Value} {h : gm_H} {r : gm_R × gm_H} {lv : List Value} {x y : Int32} : gm_Go E d 72 12 lv (.int y :: .int x :: st) h r ↔ gm_Go E d 72 13 lv (.int (x - y) :: st) h r := gr_pure m72 f72_12 rfl
theorem f72_13 : gm_ft 72 13 = some (.iconst 4, 1) := by decide +kernel
theorem r72_13 {E : Nat → Value} {d : Nat} {st : List Value} {h : gm_H} {r : gm_R × gm_H} {lv : List Value} : gm_Go E d 72 13 lv st h r ↔ gm_Go E d 72 14 lv (.int (4 : Int32) :: st) h r := gr_pure m72 f72_13 rfl
theorem f72_14 : gm_ft 72 14 = some (.if_icmp .lt 17, 3) := by decide +kernel
theorem r72_14 {E : Nat → Value} {d : Nat} {st : List Value} {h : gm_H} {r : gm_R × gm_H} {lv : List Value} {x y : Int32} : gm_Go E d 72 14 lv (.int y :: .int x :: st) h r ↔ (if x < y then gm_Go E d 72 31 lv st h r else gm_Go E d 72 17 lv st h r) := (gr_br m72 f72_14 rfl rfl rfl rfl).trans gr_if
theorem f72_17 : gm_ft 72 17 = some (.aload_n 0, 1) := by decide +kernel
theorem r72_17 {E : Nat → Value} {d : Nat} {st : List Value} {h : gm_H} {r : gm_R × gm_H} {a1 a2 : Value} {x : Nat} : gm_Go E d 72 17 [.ref x, a1, a2] st h r ↔ gm_Go E d 72 18 [.ref x, a1, a2] (.ref x :: st) h r := gr_loc m72 f72_17 rfl rfl
theorem r72_17n {E : Nat → Value} {d : Nat} {st : List Value} {h : gm_H} {r : gm_R × gm_H} {a1 a2 : Value}  : gm_Go E d 72 17 [.null, a1, a2] st h r ↔ gm_Go E d 72 18 [.null, a1, a2] (.null :: st) h r := gr_loc m72 f72_17 rfl rfl
theorem f72_18 : gm_ft 72 18 = some (.getfield 15, 3) := by decide +kernel
theorem r72_18 {E : Nat → Value} {d : Nat} {st : List Value} {h : gm_H} {r : gm_R × gm_H} {lv : List Value} {a : Nat} {vs : List Value} {v : Value} (hr : gm_rd h a = some (0, vs)) (hv : vs[5]? = some v) : gm_Go E d 72 18 lv (.ref a :: st) h r ↔ gm_Go E d 72 21 lv (v :: st) h r := gr_rd m72 f72_18 rfl rfl rfl rfl (gf_get k0_15 hr hv)
theorem f72_21 : gm_ft 72 21 = some (.aload_n 0, 1) := by decide +kernel
theorem r72_21 {E : Nat → Value} {d : Nat} {st : List Value} {h : gm_H} {r : gm_R × gm_H} {a1 a2 : Value} {x : Nat} : gm_Go E d 72 21 [.ref x, a1, a2] st h r ↔ gm_Go E d 72 22 [.ref x, a1, a2] (.ref x :: st) h r := gr_loc m72 f72_21 rfl rfl
theorem r72_21n {E : Nat → Value} {d : Nat} {st : List Value} {h : gm_H} {r : gm_R × gm_H} {a1 a2 : Value}  : gm_Go E d 72 21 [.null, a1, a2] st h r ↔ gm_Go E d 72 22 [.null, a1, a2] (.null :: st) h r := gr_loc m72 f72_21 rfl rfl
theorem f72_22 : gm_ft 72 22 = some (.getfield 96, 3) := by decide +kernel
theorem r72_22 {E : Nat → Value} {d : Nat} {st : List Value} {h : gm_H} {r : gm_R × gm_H} {lv : List Value} {a : Nat} {vs : List Value} {v : Value} (hr : gm_rd h a = some (0, vs)) (hv : vs[7]? = some v) : gm_Go E d 72 22 lv (.ref a :: st) h r ↔ gm_Go E d 72 25 lv (v :: st) h r := gr_rd m72 f72_22 rfl rfl rfl rfl (gf_get k0_96 hr hv)
theorem f72_25 : gm_ft 72 25 = some (.baload, 1) := by decide +kernel
theorem r72_25 {E : Nat → Value} {d : Nat} {st : List Value} {h : gm_H} {r : gm_R × gm_H} {lv : List Value} {a k j : Nat} {vs : List Value} {v : Value} (hr : gm_rd h a = some (k, vs)) (hk : 100 ≤ k ∧ (fun t => t == 2 || t == 3) (k % 100) = true) (hj : j < 2 ^ 31) (hv : vs[j]? = some v) : gm_Go E d 72 25 lv (.int (nI j) :: .ref a :: st) h r ↔ gm_Go E d 72 26 lv (v :: st) h r := gr_rd m72 f72_25 rfl rfl rfl rfl (ga_ld (P := fun t => t == 2 || t == 3) hr hk hj hv)
theorem f72_26 : gm_ft 72 26 = some (.bipush 119, 2) := by decide +kernel
theorem r72_26 {E : Nat → Value} {d : Nat} {st : List Value} {h : gm_H} {r : gm_R × gm_H} {lv : List Value} : gm_Go E d 72 26 lv st h r ↔ gm_Go E d 72 28 lv (.int (119 : Int32) :: st) h r := gr_pure m72 f72_26 rfl
theorem f72_28 : gm_ft 72 28 = some (.if_icmp .eq 4, 3) := by decide +kernel
theorem r72_28 {E : Nat → Value} {d : Nat} {st : List Value} {h : gm_H} {r : gm_R × gm_H} {lv : List Value} {x y : Int32} : gm_Go E d 72 28 lv (.int y :: .int x :: st) h r ↔ (if x = y then gm_Go E d 72 32 lv st h r else gm_Go E d 72 31 lv st h r) := (gr_br m72 f72_28 rfl rfl rfl rfl).trans gr_if
theorem f72_31 : gm_ft 72 31 = some (.return_, 1) := by decide +kernel
theorem r72_31 {E : Nat → Value} {d : Nat} {h : gm_H} {r : gm_R × gm_H} {lv : List Value} : gm_Go E d 72 31 lv [] h r ↔ r = (.inl none, h) := gr_ret m72 f72_31 rfl rfl rfl rfl rfl rfl rfl rfl rfl
theorem f72_32 : gm_ft 72 32 = some (.aload_n 0, 1) := by decide +kernel
theorem r72_32 {E : Nat → Value} {d : Nat} {st : List Value} {h : gm_H} {r : gm_R × gm_H} {a1 a2 : Value} {x : Nat} : gm_Go E d 72 32 [.ref x, a1, a2] st h r ↔ gm_Go E d 72 33 [.ref x, a1, a2] (.ref x :: st) h r := gr_loc m72 f72_32 rfl rfl
theorem r72_32n {E : Nat → Value} {d : Nat} {st : List Value} {h : gm_H} {r : gm_R × gm_H} {a1 a2 : Value}  : gm_Go E d 72 32 [.null, a1, a2] st h r ↔ gm_Go E d 72 33 [.null, a1, a2] (.null :: st) h r := gr_loc m72 f72_32 rfl rfl
theorem f72_33 : gm_ft 72 33 = some (.getfield 15, 3) := by decide +kernel
theorem r72_33 {E : Nat → Value} {d : Nat} {st : List Value} {h : gm_H} {r : gm_R × gm_H} {lv : List Value} {a : Nat} {vs : List Value} {v : Value} (hr : gm_rd h a = some (0, vs)) (hv : vs[5]? = some v) : gm_Go E d 72 33 lv (.ref a :: st) h r ↔ gm_Go E d 72 36 lv (v :: st) h r := gr_rd m72 f72_33 rfl rfl rfl rfl (gf_get k0_15 hr hv)
theorem f72_36 : gm_ft 72 36 = some (.aload_n 0, 1) := by decide +kernel
theorem r72_36 {E : Nat → Value} {d : Nat} {st : List Value} {h : gm_H} {r : gm_R × gm_H} {a1 a2 : Value} {x : Nat} : gm_Go E d 72 36 [.ref x, a1, a2] st h r ↔ gm_Go E d 72 37 [.ref x, a1, a2] (.ref x :: st) h r := gr_loc m72 f72_36 rfl rfl
theorem r72_36n {E : Nat → Value} {d : Nat} {st : List Value} {h : gm_H} {r : gm_R × gm_H} {a1 a2 : Value}  : gm_Go E d 72 36 [.null, a1, a2] st h r ↔ gm_Go E d 72 37 [.null, a1, a2] (.null :: st) h r := gr_loc m72 f72_36 rfl rfl
theorem f72_37 : gm_ft 72 37 = some (.getfield 96, 3) := by decide +kernel
theorem r72_37 {E : Nat → Value} {d : Nat} {st : List Value} {h : gm_H} {r : gm_R × gm_H} {lv : List Value} {a : Nat} {vs : List Value} {v : Value} (hr : gm_rd h a = some (0, vs)) (hv : vs[7]? = some v) : gm_Go E d 72 37 lv (.ref a :: st) h r ↔ gm_Go E d 72 40 lv (v :: st) h r := gr_rd m72 f72_37 rfl rfl rfl rfl (gf_get k0_96 hr hv)
theorem f72_40 : gm_ft 72 40 = some (.iconst 1, 1) := by decide +kernel
theorem r72_40 {E : Nat → Value} {d : Nat} {st : List Value} {h : gm_H} {r : gm_R × gm_H} {lv : List Value} : gm_Go E d 72 40 lv st h r ↔ gm_Go E d 72 41 lv (.int (1 : Int32) :: st) h r := gr_pure m72 f72_40 rfl
theorem f72_41 : gm_ft 72 41 = some (.iadd, 1) := by decide +kernel
theorem r72_41 {E : Nat → Value} {d : Nat} {st : List Value} {h : gm_H} {r : gm_R × gm_H} {lv : List Value} {x y : Int32} : gm_Go E d 72 41 lv (.int y :: .int x :: st) h r ↔ gm_Go E d 72 42 lv (.int (x + y) :: st) h r := gr_pure m72 f72_41 rfl
theorem f72_42 : gm_ft 72 42 = some (.baload, 1) := by decide +kernel
theorem r72_42 {E : Nat → Value} {d : Nat} {st : List Value} {h : gm_H} {r : gm_R × gm_H} {lv : List Value} {a k j : Nat} {vs : List Value} {v : Value} (hr : gm_rd h a = some (k, vs)) (hk : 100 ≤ k ∧ (fun t => t == 2 || t == 3) (k % 100) = true) (hj : j < 2 ^ 31) (hv : vs[j]? = some v) : gm_Go E d 72 42 lv (.int (nI j) :: .ref a :: st) h r ↔ gm_Go E d 72 43 lv (v :: st) h r := gr_rd m72 f72_42 rfl rfl rfl rfl (ga_ld (P := fun t => t == 2 || t == 3) hr hk hj hv)
theorem f72_43 : gm_ft 72 43 = some (.sipush 255, 3) := by decide +kernel
theorem r72_43 {E : Nat → Value} {d : Nat} {st : List Value} {h : gm_H} {r : gm_R × gm_H} {lv : List Value} : gm_Go E d 72 43 lv st h r ↔ gm_Go E d 72 46 lv (.int (255 : Int32) :: st) h r := gr_pure m72 f72_43 rfl
theorem f72_46 : gm_ft 72 46 = some (.iand, 1) := by decide +kernel
theorem r72_46 {E : Nat → Value} {d : Nat} {st : List Value} {h : gm_H} {r : gm_R × gm_H} {lv : List Value} {x y : Int32} : gm_Go E d 72 46 lv (.int y :: .int x :: st) h r ↔ gm_Go E d 72 47 lv (.int (x &&& y) :: st) h r := gr_pure m72 f72_46 rfl
theorem f72_47 : gm_ft 72 47 = some (.iconst 4, 1) := by decide +kernel
theorem r72_47 {E : Nat → Value} {d : Nat} {st : List Value} {h : gm_H} {r : gm_R × gm_H} {lv : List Value} : gm_Go E d 72 47 lv st h r ↔ gm_Go E d 72 48 lv (.int (4 : Int32) :: st) h r := gr_pure m72 f72_47 rfl
theorem f72_48 : gm_ft 72 48 = some (.if_icmp .lt 14, 3) := by decide +kernel
theorem r72_48 {E : Nat → Value} {d : Nat} {st : List Value} {h : gm_H} {r : gm_R × gm_H} {lv : List Value} {x y : Int32} : gm_Go E d 72 48 lv (.int y :: .int x :: st) h r ↔ (if x < y then gm_Go E d 72 62 lv st h r else gm_Go E d 72 51 lv st h r) := (gr_br m72 f72_48 rfl rfl rfl rfl).trans gr_if
theorem f72_51 : gm_ft 72 51 = some (.aload_n 1, 1) := by decide +kernel
theorem r72_51 {E : Nat → Value} {d : Nat} {st : List Value} {h : gm_H} {r : gm_R × gm_H} {a0 a2 : Value} {x : Nat} : gm_Go E d 72 51 [a0, .ref x, a2] st h r ↔ gm_Go E d 72 52 [a0, .ref x, a2] (.ref x :: st) h r := gr_loc m72 f72_51 rfl rfl
theorem r72_51n {E : Nat → Value} {d : Nat} {st : List Value} {h : gm_H} {r : gm_R × gm_H} {a0 a2 : Value}  : gm_Go E d 72 51 [a0, .null, a2] st h r ↔ gm_Go E d 72 52 [a0, .null, a2] (.null :: st) h r := gr_loc m72 f72_51 rfl rfl
theorem f72_52 : gm_ft 72 52 = some (.aload_n 0, 1) := by decide +kernel
theorem r72_52 {E : Nat → Value} {d : Nat} {st : List Value} {h : gm_H} {r : gm_R × gm_H} {a1 a2 : Value} {x : Nat} : gm_Go E d 72 52 [.ref x, a1, a2] st h r ↔ gm_Go E d 72 53 [.ref x, a1, a2] (.ref x :: st) h r := gr_loc m72 f72_52 rfl rfl
theorem r72_52n {E : Nat → Value} {d : Nat} {st : List Value} {h : gm_H} {r : gm_R × gm_H} {a1 a2 : Value}  : gm_Go E d 72 52 [.null, a1, a2] st h r ↔ gm_Go E d 72 53 [.null, a1, a2] (.null :: st) h r := gr_loc m72 f72_52 rfl rfl
theorem f72_53 : gm_ft 72 53 = some (.iload_n 2, 1) := by decide +kernel
theorem r72_53 {E : Nat → Value} {d : Nat} {st : List Value} {h : gm_H} {r : gm_R × gm_H} {a0 a1 : Value} {x : Int32} : gm_Go E d 72 53 [a0, a1, .int x] st h r ↔ gm_Go E d 72 54 [a0, a1, .int x] (.int x :: st) h r := gr_loc m72 f72_53 rfl rfl
theorem f72_54 : gm_ft 72 54 = some (.iconst 4, 1) := by decide +kernel
theorem r72_54 {E : Nat → Value} {d : Nat} {st : List Value} {h : gm_H} {r : gm_R × gm_H} {lv : List Value} : gm_Go E d 72 54 lv st h r ↔ gm_Go E d 72 55 lv (.int (4 : Int32) :: st) h r := gr_pure m72 f72_54 rfl
theorem f72_55 : gm_ft 72 55 = some (.invokevirtual 105, 3) := by decide +kernel
theorem n72_55 {st : List Value} {h : gm_H} {E : Nat → Value} {lv : List Value} {b0 b1 : Value} {a : Nat} (hs : (st.map fun v => v.category).sum ≤ 8) (he : (gm_en1 [.ref a, b0, b1]).length ≤ 6) {vs : List Value} (hr : gm_rd h a = some (0, vs)) : gm_next E 72 55 lv (b1 :: b0 :: .ref a :: st) h = some (.inr (.inl (0, 17, [.ref a, b0, b1], st))) := gn_call m72 f72_55 rfl rfl rfl rfl rfl rfl rfl (gc_virt (bs := [b1, b0]) (w := 184) rfl rfl rfl rfl hs he hr) (by decide)
theorem f72_58 : gm_ft 72 58 = some (.l2i, 1) := by decide +kernel
theorem r72_58 {E : Nat → Value} {d : Nat} {st : List Value} {h : gm_H} {r : gm_R × gm_H} {lv : List Value} {x : Int64} : gm_Go E d 72 58 lv (.long x :: st) h r ↔ gm_Go E d 72 59 lv (.int (x.toInt32) :: st) h r := gr_pure m72 f72_58 rfl
theorem f72_59 : gm_ft 72 59 = some (.putfield 151, 3) := by decide +kernel
theorem r72_59 {E : Nat → Value} {d : Nat} {st : List Value} {h : gm_H} {r : gm_R × gm_H} {lv : List Value} {a : Nat} {vs : List Value} {v : Value} (hr : gm_rd h a = some (4, vs)) (hk : 4 < vs.length) (hn : narrow (gm_ty 4 4) v = v ∧ fits (gm_ty 4 4) v = true) : gm_Go E d 72 59 lv (v :: .ref a :: st) h r ↔ gm_Go E d 72 62 lv st (gm_wr h a (4, vs.set 4 v)) r := gr_wr m72 f72_59 rfl rfl rfl rfl rfl (gf_put k0_151 hr (by decide) hk hn (by decide))
theorem f72_62 : gm_ft 72 62 = some (.return_, 1) := by decide +kernel
theorem r72_62 {E : Nat → Value} {d : Nat} {h : gm_H} {r : gm_R × gm_H} {lv : List Value} : gm_Go E d 72 62 lv [] h r ↔ r = (.inl none, h) := gr_ret m72 f72_62 rfl rfl rfl rfl rfl rfl rfl rfl rfl
/-! GraphReader.isValidRecord(LGraphReader$Thing;)Z -/
theorem m73 : gm_mt[73]? = some (⟨"GraphReader", "isValidRecord", "(LGraphReader$Thing;)Z"⟩, prog_1_method_41_code, 1, (some .boolean), [], 0, 1) := rfl
theorem f73_0 : gm_ft 73 0 = some (.aload_n 0, 1) := by decide +kernel
theorem r73_0 {E : Nat → Value} {d : Nat} {st : List Value} {h : gm_H} {r : gm_R × gm_H}  {x : Nat} : gm_Go E d 73 0 [.ref x] st h r ↔ gm_Go E d 73 1 [.ref x] (.ref x :: st) h r := gr_loc m73 f73_0 rfl rfl
theorem r73_0n {E : Nat → Value} {d : Nat} {st : List Value} {h : gm_H} {r : gm_R × gm_H}   : gm_Go E d 73 0 [.null] st h r ↔ gm_Go E d 73 1 [.null] (.null :: st) h r := gr_loc m73 f73_0 rfl rfl
theorem f73_1 : gm_ft 73 1 = some (.getfield 137, 3) := by decide +kernel
theorem r73_1 {E : Nat → Value} {d : Nat} {st : List Value} {h : gm_H} {r : gm_R × gm_H} {lv : List Value} {a : Nat} {vs : List Value} {v : Value} (hr : gm_rd h a = some (4, vs)) (hv : vs[1]? = some v) : gm_Go E d 73 1 lv (.ref a :: st) h r ↔ gm_Go E d 73 4 lv (v :: st) h r := gr_rd m73 f73_1 rfl rfl rfl rfl (gf_get k0_137 hr hv)
theorem f73_4 : gm_ft 73 4 = some (.getfield 75, 3) := by decide +kernel
theorem r73_4 {E : Nat → Value} {d : Nat} {st : List Value} {h : gm_H} {r : gm_R × gm_H} {lv : List Value} {a : Nat} {vs : List Value} {v : Value} (hr : gm_rd h a = some (3, vs)) (hv : vs[6]? = some v) : gm_Go E d 73 4 lv (.ref a :: st) h r ↔ gm_Go E d 73 7 lv (v :: st) h r := gr_rd m73 f73_4 rfl rfl rfl rfl (gf_get k0_75 hr hv)
theorem f73_7 : gm_ft 73 7 = some (.ifCond .eq 17, 3) := by decide +kernel
theorem r73_7 {E : Nat → Value} {d : Nat} {st : List Value} {h : gm_H} {r : gm_R × gm_H} {lv : List Value} {x : Int32} : gm_Go E d 73 7 lv (.int x :: st) h r ↔ (if x = 0 then gm_Go E d 73 24 lv st h r else gm_Go E d 73 10 lv st h r) := (gr_br m73 f73_7 rfl rfl rfl rfl).trans gr_if
theorem f73_10 : gm_ft 73 10 = some (.aload_n 0, 1) := by decide +kernel
theorem r73_10 {E : Nat → Value} {d : Nat} {st : List Value} {h : gm_H} {r : gm_R × gm_H}  {x : Nat} : gm_Go E d 73 10 [.ref x] st h r ↔ gm_Go E d 73 11 [.ref x] (.ref x :: st) h r := gr_loc m73 f73_10 rfl rfl
theorem r73_10n {E : Nat → Value} {d : Nat} {st : List Value} {h : gm_H} {r : gm_R × gm_H}   : gm_Go E d 73 10 [.null] st h r ↔ gm_Go E d 73 11 [.null] (.null :: st) h r := gr_loc m73 f73_10 rfl rfl
theorem f73_11 : gm_ft 73 11 = some (.getfield 137, 3) := by decide +kernel
theorem r73_11 {E : Nat → Value} {d : Nat} {st : List Value} {h : gm_H} {r : gm_R × gm_H} {lv : List Value} {a : Nat} {vs : List Value} {v : Value} (hr : gm_rd h a = some (4, vs)) (hv : vs[1]? = some v) : gm_Go E d 73 11 lv (.ref a :: st) h r ↔ gm_Go E d 73 14 lv (v :: st) h r := gr_rd m73 f73_11 rfl rfl rfl rfl (gf_get k0_137 hr hv)
theorem f73_14 : gm_ft 73 14 = some (.getfield 288, 3) := by decide +kernel
theorem r73_14 {E : Nat → Value} {d : Nat} {st : List Value} {h : gm_H} {r : gm_R × gm_H} {lv : List Value} {a : Nat} {vs : List Value} {v : Value} (hr : gm_rd h a = some (3, vs)) (hv : vs[5]? = some v) : gm_Go E d 73 14 lv (.ref a :: st) h r ↔ gm_Go E d 73 17 lv (v :: st) h r := gr_rd m73 f73_14 rfl rfl rfl rfl (gf_get k0_288 hr hv)
theorem f73_17 : gm_ft 73 17 = some (.iconst 0, 1) := by decide +kernel
theorem r73_17 {E : Nat → Value} {d : Nat} {st : List Value} {h : gm_H} {r : gm_R × gm_H} {lv : List Value} : gm_Go E d 73 17 lv st h r ↔ gm_Go E d 73 18 lv (.int (0 : Int32) :: st) h r := gr_pure m73 f73_17 rfl
theorem f73_18 : gm_ft 73 18 = some (.iaload, 1) := by decide +kernel
theorem r73_18 {E : Nat → Value} {d : Nat} {st : List Value} {h : gm_H} {r : gm_R × gm_H} {lv : List Value} {a k j : Nat} {vs : List Value} {v : Value} (hr : gm_rd h a = some (k, vs)) (hk : 100 ≤ k ∧ (fun t => t == 0) (k % 100) = true) (hj : j < 2 ^ 31) (hv : vs[j]? = some v) : gm_Go E d 73 18 lv (.int (nI j) :: .ref a :: st) h r ↔ gm_Go E d 73 19 lv (v :: st) h r := gr_rd m73 f73_18 rfl rfl rfl rfl (ga_ld (P := fun t => t == 0) hr hk hj hv)
theorem f73_19 : gm_ft 73 19 = some (.bipush 6, 2) := by decide +kernel
theorem r73_19 {E : Nat → Value} {d : Nat} {st : List Value} {h : gm_H} {r : gm_R × gm_H} {lv : List Value} : gm_Go E d 73 19 lv st h r ↔ gm_Go E d 73 21 lv (.int (6 : Int32) :: st) h r := gr_pure m73 f73_19 rfl
theorem f73_21 : gm_ft 73 21 = some (.if_icmp .lt 5, 3) := by decide +kernel
theorem r73_21 {E : Nat → Value} {d : Nat} {st : List Value} {h : gm_H} {r : gm_R × gm_H} {lv : List Value} {x y : Int32} : gm_Go E d 73 21 lv (.int y :: .int x :: st) h r ↔ (if x < y then gm_Go E d 73 26 lv st h r else gm_Go E d 73 24 lv st h r) := (gr_br m73 f73_21 rfl rfl rfl rfl).trans gr_if
theorem f73_24 : gm_ft 73 24 = some (.iconst 1, 1) := by decide +kernel
theorem r73_24 {E : Nat → Value} {d : Nat} {st : List Value} {h : gm_H} {r : gm_R × gm_H} {lv : List Value} : gm_Go E d 73 24 lv st h r ↔ gm_Go E d 73 25 lv (.int (1 : Int32) :: st) h r := gr_pure m73 f73_24 rfl
theorem f73_25 : gm_ft 73 25 = some (.ireturn, 1) := by decide +kernel
theorem r73_25_0 {E : Nat → Value} {d : Nat} {h : gm_H} {r : gm_R × gm_H} {lv : List Value} : gm_Go E d 73 25 lv [.int (0 : Int32)] h r ↔ r = (.inl (some (.int (0 : Int32))), h) := gr_ret m73 f73_25 rfl rfl rfl rfl rfl rfl rfl rfl (by unfold gm_rt; dsimp only; rw [if_pos ⟨rfl, rfl⟩])
theorem r73_25_1 {E : Nat → Value} {d : Nat} {h : gm_H} {r : gm_R × gm_H} {lv : List Value} : gm_Go E d 73 25 lv [.int (1 : Int32)] h r ↔ r = (.inl (some (.int (1 : Int32))), h) := gr_ret m73 f73_25 rfl rfl rfl rfl rfl rfl rfl rfl (by unfold gm_rt; dsimp only; rw [if_pos ⟨rfl, rfl⟩])
theorem f73_26 : gm_ft 73 26 = some (.aload_n 0, 1) := by decide +kernel
theorem r73_26 {E : Nat → Value} {d : Nat} {st : List Value} {h : gm_H} {r : gm_R × gm_H}  {x : Nat} : gm_Go E d 73 26 [.ref x] st h r ↔ gm_Go E d 73 27 [.ref x] (.ref x :: st) h r := gr_loc m73 f73_26 rfl rfl
theorem r73_26n {E : Nat → Value} {d : Nat} {st : List Value} {h : gm_H} {r : gm_R × gm_H}   : gm_Go E d 73 26 [.null] st h r ↔ gm_Go E d 73 27 [.null] (.null :: st) h r := gr_loc m73 f73_26 rfl rfl
theorem f73_27 : gm_ft 73 27 = some (.getfield 147, 3) := by decide +kernel
theorem r73_27 {E : Nat → Value} {d : Nat} {st : List Value} {h : gm_H} {r : gm_R × gm_H} {lv : List Value} {a : Nat} {vs : List Value} {v : Value} (hr : gm_rd h a = some (4, vs)) (hv : vs[2]? = some v) : gm_Go E d 73 27 lv (.ref a :: st) h r ↔ gm_Go E d 73 30 lv (v :: st) h r := gr_rd m73 f73_27 rfl rfl rfl rfl (gf_get k0_147 hr hv)
theorem f73_30 : gm_ft 73 30 = some (.iconst 0, 1) := by decide +kernel
theorem r73_30 {E : Nat → Value} {d : Nat} {st : List Value} {h : gm_H} {r : gm_R × gm_H} {lv : List Value} : gm_Go E d 73 30 lv st h r ↔ gm_Go E d 73 31 lv (.int (0 : Int32) :: st) h r := gr_pure m73 f73_30 rfl
theorem f73_31 : gm_ft 73 31 = some (.laload, 1) := by decide +kernel
theorem r73_31 {E : Nat → Value} {d : Nat} {st : List Value} {h : gm_H} {r : gm_R × gm_H} {lv : List Value} {a k j : Nat} {vs : List Value} {v : Value} (hr : gm_rd h a = some (k, vs)) (hk : 100 ≤ k ∧ (fun t => t == 1) (k % 100) = true) (hj : j < 2 ^ 31) (hv : vs[j]? = some v) : gm_Go E d 73 31 lv (.int (nI j) :: .ref a :: st) h r ↔ gm_Go E d 73 32 lv (v :: st) h r := gr_rd m73 f73_31 rfl rfl rfl rfl (ga_ld (P := fun t => t == 1) hr hk hj hv)
theorem f73_32 : gm_ft 73 32 = some (.lconst 0, 1) := by decide +kernel
theorem r73_32 {E : Nat → Value} {d : Nat} {st : List Value} {h : gm_H} {r : gm_R × gm_H} {lv : List Value} : gm_Go E d 73 32 lv st h r ↔ gm_Go E d 73 33 lv (.long 0 :: st) h r := gr_pure m73 f73_32 rfl
theorem f73_33 : gm_ft 73 33 = some (.lcmp, 1) := by decide +kernel
theorem r73_33 {E : Nat → Value} {d : Nat} {st : List Value} {h : gm_H} {r : gm_R × gm_H} {lv : List Value} {x y : Int64} : gm_Go E d 73 33 lv (.long y :: .long x :: st) h r ↔ gm_Go E d 73 34 lv (.int (lg_cmp x y) :: st) h r := gr_pure m73 f73_33 rfl
theorem f73_34 : gm_ft 73 34 = some (.ifCond .lt 7, 3) := by decide +kernel
theorem r73_34 {E : Nat → Value} {d : Nat} {st : List Value} {h : gm_H} {r : gm_R × gm_H} {lv : List Value} {x : Int32} : gm_Go E d 73 34 lv (.int x :: st) h r ↔ (if x < 0 then gm_Go E d 73 41 lv st h r else gm_Go E d 73 37 lv st h r) := (gr_br m73 f73_34 rfl rfl rfl rfl).trans gr_if
theorem f73_37 : gm_ft 73 37 = some (.iconst 1, 1) := by decide +kernel
theorem r73_37 {E : Nat → Value} {d : Nat} {st : List Value} {h : gm_H} {r : gm_R × gm_H} {lv : List Value} : gm_Go E d 73 37 lv st h r ↔ gm_Go E d 73 38 lv (.int (1 : Int32) :: st) h r := gr_pure m73 f73_37 rfl
theorem f73_38 : gm_ft 73 38 = some (.goto 4, 3) := by decide +kernel
theorem r73_38 {E : Nat → Value} {d : Nat} {st : List Value} {h : gm_H} {r : gm_R × gm_H} {lv : List Value} : gm_Go E d 73 38 lv st h r ↔ gm_Go E d 73 42 lv st h r := gr_brT m73 f73_38 rfl rfl rfl rfl
theorem f73_41 : gm_ft 73 41 = some (.iconst 0, 1) := by decide +kernel
theorem r73_41 {E : Nat → Value} {d : Nat} {st : List Value} {h : gm_H} {r : gm_R × gm_H} {lv : List Value} : gm_Go E d 73 41 lv st h r ↔ gm_Go E d 73 42 lv (.int (0 : Int32) :: st) h r := gr_pure m73 f73_41 rfl
theorem f73_42 : gm_ft 73 42 = some (.ireturn, 1) := by decide +kernel
theorem r73_42_0 {E : Nat → Value} {d : Nat} {h : gm_H} {r : gm_R × gm_H} {lv : List Value} : gm_Go E d 73 42 lv [.int (0 : Int32)] h r ↔ r = (.inl (some (.int (0 : Int32))), h) := gr_ret m73 f73_42 rfl rfl rfl rfl rfl rfl rfl rfl (by unfold gm_rt; dsimp only; rw [if_pos ⟨rfl, rfl⟩])
theorem r73_42_1 {E : Nat → Value} {d : Nat} {h : gm_H} {r : gm_R × gm_H} {lv : List Value} : gm_Go E d 73 42 lv [.int (1 : Int32)] h r ↔ r = (.inl (some (.int (1 : Int32))), h) := gr_ret m73 f73_42 rfl rfl rfl rfl rfl rfl rfl rfl (by unfold gm_rt; dsimp only; rw [if_pos ⟨rfl, rfl⟩])
/-! GraphReader.readText()I -/
theorem m74 : gm_mt[74]? = some (⟨"GraphReader", "readText", "()I"⟩, prog_1_method_35_code, 5, (some .int), [], 0, 1) := rfl
theorem f74_0 : gm_ft 74 0 = some (.aload_n 0, 1) := by decide +kernel
theorem r74_0 {E : Nat → Value} {d : Nat} {st : List Value} {h : gm_H} {r : gm_R × gm_H} {a1 a2 a3 a4 : Value} {x : Nat} : gm_Go E d 74 0 [.ref x, a1, a2, a3, a4] st h r ↔ gm_Go E d 74 1 [.ref x, a1, a2, a3, a4] (.ref x :: st) h r := gr_loc m74 f74_0 rfl rfl
theorem r74_0n {E : Nat → Value} {d : Nat} {st : List Value} {h : gm_H} {r : gm_R × gm_H} {a1 a2 a3 a4 : Value}  : gm_Go E d 74 0 [.null, a1, a2, a3, a4] st h r ↔ gm_Go E d 74 1 [.null, a1, a2, a3, a4] (.null :: st) h r := gr_loc m74 f74_0 rfl rfl
theorem f74_1 : gm_ft 74 1 = some (.iconst (-1), 1) := by decide +kernel
theorem r74_1 {E : Nat → Value} {d : Nat} {st : List Value} {h : gm_H} {r : gm_R × gm_H} {lv : List Value} : gm_Go E d 74 1 lv st h r ↔ gm_Go E d 74 2 lv (.int (-1 : Int32) :: st) h r := gr_pure m74 f74_1 rfl
theorem f74_2 : gm_ft 74 2 = some (.invokevirtual 222, 3) := by decide +kernel
theorem n74_2 {st : List Value} {h : gm_H} {E : Nat → Value} {lv : List Value} {b0 : Value} {a : Nat} (hs : (st.map fun v => v.category).sum ≤ 8) (he : (gm_en1 [.ref a, b0]).length ≤ 2) {vs : List Value} (hr : gm_rd h a = some (0, vs)) : gm_next E 74 2 lv (b0 :: .ref a :: st) h = some (.inr (.inl (0, 32, [.ref a, b0], st))) := gn_call m74 f74_2 rfl rfl rfl rfl rfl rfl rfl (gc_virt (bs := [b0]) (w := 348) rfl rfl rfl rfl hs he hr) (by decide)
theorem f74_5 : gm_ft 74 5 = some (.istore_n 1, 1) := by decide +kernel
theorem r74_5 {E : Nat → Value} {d : Nat} {st : List Value} {h : gm_H} {r : gm_R × gm_H} {a0 a1 a2 a3 a4 : Value} {x : Int32} : gm_Go E d 74 5 [a0, a1, a2, a3, a4] (.int x :: st) h r ↔ gm_Go E d 74 6 [gm_k a0, .int x, a2, a3, a4] st h r := gr_loc m74 f74_5 rfl rfl
theorem f74_6 : gm_ft 74 6 = some (.aload_n 0, 1) := by decide +kernel
theorem r74_6 {E : Nat → Value} {d : Nat} {st : List Value} {h : gm_H} {r : gm_R × gm_H} {a1 a2 a3 a4 : Value} {x : Nat} : gm_Go E d 74 6 [.ref x, a1, a2, a3, a4] st h r ↔ gm_Go E d 74 7 [.ref x, a1, a2, a3, a4] (.ref x :: st) h r := gr_loc m74 f74_6 rfl rfl
theorem r74_6n {E : Nat → Value} {d : Nat} {st : List Value} {h : gm_H} {r : gm_R × gm_H} {a1 a2 a3 a4 : Value}  : gm_Go E d 74 6 [.null, a1, a2, a3, a4] st h r ↔ gm_Go E d 74 7 [.null, a1, a2, a3, a4] (.null :: st) h r := gr_loc m74 f74_6 rfl rfl
theorem f74_7 : gm_ft 74 7 = some (.invokevirtual 225, 3) := by decide +kernel
theorem n74_7 {st : List Value} {h : gm_H} {E : Nat → Value} {lv : List Value} {a : Nat} (hs : (st.map fun v => v.category).sum ≤ 8) (he : (gm_en1 [.ref a]).length ≤ 4) {vs : List Value} (hr : gm_rd h a = some (0, vs)) : gm_next E 74 7 lv (.ref a :: st) h = some (.inr (.inl (0, 30, [.ref a], st))) := gn_call m74 f74_7 rfl rfl rfl rfl rfl rfl rfl (gc_virt (bs := []) (w := 299) rfl rfl rfl rfl hs he hr) (by decide)
theorem f74_10 : gm_ft 74 10 = some (.istore_n 2, 1) := by decide +kernel
theorem r74_10 {E : Nat → Value} {d : Nat} {st : List Value} {h : gm_H} {r : gm_R × gm_H} {a0 a1 a2 a3 a4 : Value} {x : Int32} : gm_Go E d 74 10 [a0, a1, a2, a3, a4] (.int x :: st) h r ↔ gm_Go E d 74 11 [a0, gm_k a1, .int x, a3, a4] st h r := gr_loc m74 f74_10 rfl rfl
theorem f74_11 : gm_ft 74 11 = some (.new 19, 3) := by decide +kernel
theorem r74_11 {E : Nat → Value} {d : Nat} {st : List Value} {h : gm_H} {r : gm_R × gm_H} {lv : List Value} : gm_Go E d 74 11 lv st h r ↔ gm_Go E d 74 14 lv (.ref h.1 :: st) (gm_nw h (4, (List.range (gm_N 4)).map (fun k => defaultValue (gm_ty 4 k))) (gm_N 4)) r := gr_nw m74 f74_11 rfl rfl rfl rfl rfl rfl rfl
theorem f74_14 : gm_ft 74 14 = some (.dup, 1) := by decide +kernel
theorem r74_14 {E : Nat → Value} {d : Nat} {st : List Value} {h : gm_H} {r : gm_R × gm_H} {lv : List Value} {a : Nat} : gm_Go E d 74 14 lv (.ref a :: st) h r ↔ gm_Go E d 74 15 lv (.ref a :: .ref a :: st) h r := gr_pure m74 f74_14 rfl
theorem r74_14i {E : Nat → Value} {d : Nat} {st : List Value} {h : gm_H} {r : gm_R × gm_H} {lv : List Value} {x : Int32} : gm_Go E d 74 14 lv (.int x :: st) h r ↔ gm_Go E d 74 15 lv (.int x :: .int x :: st) h r := gr_pure m74 f74_14 rfl
theorem f74_15 : gm_ft 74 15 = some (.iconst 1, 1) := by decide +kernel
theorem r74_15 {E : Nat → Value} {d : Nat} {st : List Value} {h : gm_H} {r : gm_R × gm_H} {lv : List Value} : gm_Go E d 74 15 lv st h r ↔ gm_Go E d 74 16 lv (.int (1 : Int32) :: st) h r := gr_pure m74 f74_15 rfl
theorem f74_16 : gm_ft 74 16 = some (.aconst_null, 1) := by decide +kernel
theorem r74_16 {E : Nat → Value} {d : Nat} {st : List Value} {h : gm_H} {r : gm_R × gm_H} {lv : List Value} : gm_Go E d 74 16 lv st h r ↔ gm_Go E d 74 17 lv (.null :: st) h r := gr_pure m74 f74_16 rfl
theorem f74_17 : gm_ft 74 17 = some (.aload_n 0, 1) := by decide +kernel
theorem r74_17 {E : Nat → Value} {d : Nat} {st : List Value} {h : gm_H} {r : gm_R × gm_H} {a1 a2 a3 a4 : Value} {x : Nat} : gm_Go E d 74 17 [.ref x, a1, a2, a3, a4] st h r ↔ gm_Go E d 74 18 [.ref x, a1, a2, a3, a4] (.ref x :: st) h r := gr_loc m74 f74_17 rfl rfl
theorem r74_17n {E : Nat → Value} {d : Nat} {st : List Value} {h : gm_H} {r : gm_R × gm_H} {a1 a2 a3 a4 : Value}  : gm_Go E d 74 17 [.null, a1, a2, a3, a4] st h r ↔ gm_Go E d 74 18 [.null, a1, a2, a3, a4] (.null :: st) h r := gr_loc m74 f74_17 rfl rfl
theorem f74_18 : gm_ft 74 18 = some (.getfield 96, 3) := by decide +kernel
theorem r74_18 {E : Nat → Value} {d : Nat} {st : List Value} {h : gm_H} {r : gm_R × gm_H} {lv : List Value} {a : Nat} {vs : List Value} {v : Value} (hr : gm_rd h a = some (0, vs)) (hv : vs[7]? = some v) : gm_Go E d 74 18 lv (.ref a :: st) h r ↔ gm_Go E d 74 21 lv (v :: st) h r := gr_rd m74 f74_18 rfl rfl rfl rfl (gf_get k0_96 hr hv)
theorem f74_21 : gm_ft 74 21 = some (.iload_n 2, 1) := by decide +kernel
theorem r74_21 {E : Nat → Value} {d : Nat} {st : List Value} {h : gm_H} {r : gm_R × gm_H} {a0 a1 a3 a4 : Value} {x : Int32} : gm_Go E d 74 21 [a0, a1, .int x, a3, a4] st h r ↔ gm_Go E d 74 22 [a0, a1, .int x, a3, a4] (.int x :: st) h r := gr_loc m74 f74_21 rfl rfl
theorem f74_22 : gm_ft 74 22 = some (.isub, 1) := by decide +kernel
theorem r74_22 {E : Nat → Value} {d : Nat} {st : List Value} {h : gm_H} {r : gm_R × gm_H} {lv : List Value} {x y : Int32} : gm_Go E d 74 22 lv (.int y :: .int x :: st) h r ↔ gm_Go E d 74 23 lv (.int (x - y) :: st) h r := gr_pure m74 f74_22 rfl
theorem f74_23 : gm_ft 74 23 = some (.invokespecial 228, 3) := by decide +kernel
theorem n74_23 {st : List Value} {h : gm_H} {E : Nat → Value} {lv : List Value} {b0 b1 b2 : Value} {a : Nat} (hs : (st.map fun v => v.category).sum ≤ 8) (he : (gm_en1 [.ref a, b0, b1, b2]).length ≤ 4) : gm_next E 74 23 lv (b2 :: b1 :: b0 :: .ref a :: st) h = some (.inr (.inl (2, 61, [.ref a, b0, b1, b2], st))) := gn_call m74 f74_23 rfl rfl rfl rfl rfl rfl rfl (gc_init (bs := [b2, b1, b0]) (w := 518) rfl rfl rfl hs he (by decide)) (by decide)
theorem f74_26 : gm_ft 74 26 = some (.astore_n 3, 1) := by decide +kernel
theorem r74_26 {E : Nat → Value} {d : Nat} {st : List Value} {h : gm_H} {r : gm_R × gm_H} {a0 a1 a2 a3 a4 : Value} {x : Nat} : gm_Go E d 74 26 [a0, a1, a2, a3, a4] (.ref x :: st) h r ↔ gm_Go E d 74 27 [a0, a1, gm_k a2, .ref x, a4] st h r := gr_loc m74 f74_26 rfl rfl
theorem r74_26n {E : Nat → Value} {d : Nat} {st : List Value} {h : gm_H} {r : gm_R × gm_H} {a0 a1 a2 a3 a4 : Value}  : gm_Go E d 74 26 [a0, a1, a2, a3, a4] (.null :: st) h r ↔ gm_Go E d 74 27 [a0, a1, gm_k a2, .null, a4] st h r := gr_loc m74 f74_26 rfl rfl
theorem f74_27 : gm_ft 74 27 = some (.iconst 0, 1) := by decide +kernel
theorem r74_27 {E : Nat → Value} {d : Nat} {st : List Value} {h : gm_H} {r : gm_R × gm_H} {lv : List Value} : gm_Go E d 74 27 lv st h r ↔ gm_Go E d 74 28 lv (.int (0 : Int32) :: st) h r := gr_pure m74 f74_27 rfl
theorem f74_28 : gm_ft 74 28 = some (.istore 4, 2) := by decide +kernel
theorem r74_28 {E : Nat → Value} {d : Nat} {st : List Value} {h : gm_H} {r : gm_R × gm_H} {a0 a1 a2 a3 a4 : Value} {x : Int32} : gm_Go E d 74 28 [a0, a1, a2, a3, a4] (.int x :: st) h r ↔ gm_Go E d 74 30 [a0, a1, a2, gm_k a3, .int x] st h r := gr_loc m74 f74_28 rfl rfl
theorem f74_30 : gm_ft 74 30 = some (.iload 4, 2) := by decide +kernel
theorem r74_30 {E : Nat → Value} {d : Nat} {st : List Value} {h : gm_H} {r : gm_R × gm_H} {a0 a1 a2 a3 : Value} {x : Int32} : gm_Go E d 74 30 [a0, a1, a2, a3, .int x] st h r ↔ gm_Go E d 74 32 [a0, a1, a2, a3, .int x] (.int x :: st) h r := gr_loc m74 f74_30 rfl rfl
theorem f74_32 : gm_ft 74 32 = some (.aload_n 3, 1) := by decide +kernel
theorem r74_32 {E : Nat → Value} {d : Nat} {st : List Value} {h : gm_H} {r : gm_R × gm_H} {a0 a1 a2 a4 : Value} {x : Nat} : gm_Go E d 74 32 [a0, a1, a2, .ref x, a4] st h r ↔ gm_Go E d 74 33 [a0, a1, a2, .ref x, a4] (.ref x :: st) h r := gr_loc m74 f74_32 rfl rfl
theorem r74_32n {E : Nat → Value} {d : Nat} {st : List Value} {h : gm_H} {r : gm_R × gm_H} {a0 a1 a2 a4 : Value}  : gm_Go E d 74 32 [a0, a1, a2, .null, a4] st h r ↔ gm_Go E d 74 33 [a0, a1, a2, .null, a4] (.null :: st) h r := gr_loc m74 f74_32 rfl rfl
theorem f74_33 : gm_ft 74 33 = some (.getfield 147, 3) := by decide +kernel
theorem r74_33 {E : Nat → Value} {d : Nat} {st : List Value} {h : gm_H} {r : gm_R × gm_H} {lv : List Value} {a : Nat} {vs : List Value} {v : Value} (hr : gm_rd h a = some (4, vs)) (hv : vs[2]? = some v) : gm_Go E d 74 33 lv (.ref a :: st) h r ↔ gm_Go E d 74 36 lv (v :: st) h r := gr_rd m74 f74_33 rfl rfl rfl rfl (gf_get k0_147 hr hv)
theorem f74_36 : gm_ft 74 36 = some (.arraylength, 1) := by decide +kernel
theorem r74_36 {E : Nat → Value} {d : Nat} {st : List Value} {h : gm_H} {r : gm_R × gm_H} {lv : List Value} {a k : Nat} {vs : List Value} (hr : gm_rd h a = some (k, vs)) (hk : 100 ≤ k) : gm_Go E d 74 36 lv (.ref a :: st) h r ↔ gm_Go E d 74 37 lv (.int (nI vs.length) :: st) h r := gr_rd m74 f74_36 rfl rfl rfl rfl (ga_len hr hk)
theorem f74_37 : gm_ft 74 37 = some (.if_icmp .ge 26, 3) := by decide +kernel
theorem r74_37 {E : Nat → Value} {d : Nat} {st : List Value} {h : gm_H} {r : gm_R × gm_H} {lv : List Value} {x y : Int32} : gm_Go E d 74 37 lv (.int y :: .int x :: st) h r ↔ (if y ≤ x then gm_Go E d 74 63 lv st h r else gm_Go E d 74 40 lv st h r) := (gr_br m74 f74_37 rfl rfl rfl rfl).trans gr_if
theorem f74_40 : gm_ft 74 40 = some (.aload_n 3, 1) := by decide +kernel
theorem r74_40 {E : Nat → Value} {d : Nat} {st : List Value} {h : gm_H} {r : gm_R × gm_H} {a0 a1 a2 a4 : Value} {x : Nat} : gm_Go E d 74 40 [a0, a1, a2, .ref x, a4] st h r ↔ gm_Go E d 74 41 [a0, a1, a2, .ref x, a4] (.ref x :: st) h r := gr_loc m74 f74_40 rfl rfl
theorem r74_40n {E : Nat → Value} {d : Nat} {st : List Value} {h : gm_H} {r : gm_R × gm_H} {a0 a1 a2 a4 : Value}  : gm_Go E d 74 40 [a0, a1, a2, .null, a4] st h r ↔ gm_Go E d 74 41 [a0, a1, a2, .null, a4] (.null :: st) h r := gr_loc m74 f74_40 rfl rfl
theorem f74_41 : gm_ft 74 41 = some (.getfield 147, 3) := by decide +kernel
theorem r74_41 {E : Nat → Value} {d : Nat} {st : List Value} {h : gm_H} {r : gm_R × gm_H} {lv : List Value} {a : Nat} {vs : List Value} {v : Value} (hr : gm_rd h a = some (4, vs)) (hv : vs[2]? = some v) : gm_Go E d 74 41 lv (.ref a :: st) h r ↔ gm_Go E d 74 44 lv (v :: st) h r := gr_rd m74 f74_41 rfl rfl rfl rfl (gf_get k0_147 hr hv)
theorem f74_44 : gm_ft 74 44 = some (.iload 4, 2) := by decide +kernel
theorem r74_44 {E : Nat → Value} {d : Nat} {st : List Value} {h : gm_H} {r : gm_R × gm_H} {a0 a1 a2 a3 : Value} {x : Int32} : gm_Go E d 74 44 [a0, a1, a2, a3, .int x] st h r ↔ gm_Go E d 74 46 [a0, a1, a2, a3, .int x] (.int x :: st) h r := gr_loc m74 f74_44 rfl rfl
theorem f74_46 : gm_ft 74 46 = some (.aload_n 0, 1) := by decide +kernel
theorem r74_46 {E : Nat → Value} {d : Nat} {st : List Value} {h : gm_H} {r : gm_R × gm_H} {a1 a2 a3 a4 : Value} {x : Nat} : gm_Go E d 74 46 [.ref x, a1, a2, a3, a4] st h r ↔ gm_Go E d 74 47 [.ref x, a1, a2, a3, a4] (.ref x :: st) h r := gr_loc m74 f74_46 rfl rfl
theorem r74_46n {E : Nat → Value} {d : Nat} {st : List Value} {h : gm_H} {r : gm_R × gm_H} {a1 a2 a3 a4 : Value}  : gm_Go E d 74 46 [.null, a1, a2, a3, a4] st h r ↔ gm_Go E d 74 47 [.null, a1, a2, a3, a4] (.null :: st) h r := gr_loc m74 f74_46 rfl rfl
theorem f74_47 : gm_ft 74 47 = some (.getfield 15, 3) := by decide +kernel
theorem r74_47 {E : Nat → Value} {d : Nat} {st : List Value} {h : gm_H} {r : gm_R × gm_H} {lv : List Value} {a : Nat} {vs : List Value} {v : Value} (hr : gm_rd h a = some (0, vs)) (hv : vs[5]? = some v) : gm_Go E d 74 47 lv (.ref a :: st) h r ↔ gm_Go E d 74 50 lv (v :: st) h r := gr_rd m74 f74_47 rfl rfl rfl rfl (gf_get k0_15 hr hv)
theorem f74_50 : gm_ft 74 50 = some (.iload_n 2, 1) := by decide +kernel
theorem r74_50 {E : Nat → Value} {d : Nat} {st : List Value} {h : gm_H} {r : gm_R × gm_H} {a0 a1 a3 a4 : Value} {x : Int32} : gm_Go E d 74 50 [a0, a1, .int x, a3, a4] st h r ↔ gm_Go E d 74 51 [a0, a1, .int x, a3, a4] (.int x :: st) h r := gr_loc m74 f74_50 rfl rfl
theorem f74_51 : gm_ft 74 51 = some (.iload 4, 2) := by decide +kernel
theorem r74_51 {E : Nat → Value} {d : Nat} {st : List Value} {h : gm_H} {r : gm_R × gm_H} {a0 a1 a2 a3 : Value} {x : Int32} : gm_Go E d 74 51 [a0, a1, a2, a3, .int x] st h r ↔ gm_Go E d 74 53 [a0, a1, a2, a3, .int x] (.int x :: st) h r := gr_loc m74 f74_51 rfl rfl
theorem f74_53 : gm_ft 74 53 = some (.iadd, 1) := by decide +kernel
theorem r74_53 {E : Nat → Value} {d : Nat} {st : List Value} {h : gm_H} {r : gm_R × gm_H} {lv : List Value} {x y : Int32} : gm_Go E d 74 53 lv (.int y :: .int x :: st) h r ↔ gm_Go E d 74 54 lv (.int (x + y) :: st) h r := gr_pure m74 f74_53 rfl
theorem f74_54 : gm_ft 74 54 = some (.baload, 1) := by decide +kernel
theorem r74_54 {E : Nat → Value} {d : Nat} {st : List Value} {h : gm_H} {r : gm_R × gm_H} {lv : List Value} {a k j : Nat} {vs : List Value} {v : Value} (hr : gm_rd h a = some (k, vs)) (hk : 100 ≤ k ∧ (fun t => t == 2 || t == 3) (k % 100) = true) (hj : j < 2 ^ 31) (hv : vs[j]? = some v) : gm_Go E d 74 54 lv (.int (nI j) :: .ref a :: st) h r ↔ gm_Go E d 74 55 lv (v :: st) h r := gr_rd m74 f74_54 rfl rfl rfl rfl (ga_ld (P := fun t => t == 2 || t == 3) hr hk hj hv)
theorem f74_55 : gm_ft 74 55 = some (.i2l, 1) := by decide +kernel
theorem r74_55 {E : Nat → Value} {d : Nat} {st : List Value} {h : gm_H} {r : gm_R × gm_H} {lv : List Value} {x : Int32} : gm_Go E d 74 55 lv (.int x :: st) h r ↔ gm_Go E d 74 56 lv (.long (x.toInt64) :: st) h r := gr_pure m74 f74_55 rfl
theorem f74_56 : gm_ft 74 56 = some (.lastore, 1) := by decide +kernel
theorem r74_56 {E : Nat → Value} {d : Nat} {st : List Value} {h : gm_H} {r : gm_R × gm_H} {lv : List Value} {a k j : Nat} {vs : List Value} {x : Int64} (hr : gm_rd h a = some (k, vs)) (hk : 100 ≤ k ∧ k % 100 = 1 ∧ gm_ko k = 1 ∧ 1 < 3) (hj : j < 2 ^ 31) (hl : j < vs.length) : gm_Go E d 74 56 lv (.long x :: .int (nI j) :: .ref a :: st) h r ↔ gm_Go E d 74 57 lv st (gm_wr h a (k, vs.set j (.long x))) r := gr_wr m74 f74_56 rfl rfl rfl rfl rfl (ga_st hr hk hj hl)
theorem f74_57 : gm_ft 74 57 = some (.iinc 4 1, 3) := by decide +kernel
theorem r74_57 {E : Nat → Value} {d : Nat} {st : List Value} {h : gm_H} {r : gm_R × gm_H} {a0 a1 a2 a3 : Value} {x : Int32} : gm_Go E d 74 57 [a0, a1, a2, a3, .int x] st h r ↔ gm_Go E d 74 60 [a0, a1, a2, gm_k a3, .int (x + (1 : Int32))] st h r := gr_loc m74 f74_57 rfl rfl
theorem f74_60 : gm_ft 74 60 = some (.goto (-30), 3) := by decide +kernel
theorem r74_60 {E : Nat → Value} {d : Nat} {st : List Value} {h : gm_H} {r : gm_R × gm_H} {lv : List Value} : gm_Go E d 74 60 lv st h r ↔ gm_Go E d 74 30 lv st h r := gr_brT m74 f74_60 rfl rfl rfl rfl
theorem f74_63 : gm_ft 74 63 = some (.aload_n 0, 1) := by decide +kernel
theorem r74_63 {E : Nat → Value} {d : Nat} {st : List Value} {h : gm_H} {r : gm_R × gm_H} {a1 a2 a3 a4 : Value} {x : Nat} : gm_Go E d 74 63 [.ref x, a1, a2, a3, a4] st h r ↔ gm_Go E d 74 64 [.ref x, a1, a2, a3, a4] (.ref x :: st) h r := gr_loc m74 f74_63 rfl rfl
theorem r74_63n {E : Nat → Value} {d : Nat} {st : List Value} {h : gm_H} {r : gm_R × gm_H} {a1 a2 a3 a4 : Value}  : gm_Go E d 74 63 [.null, a1, a2, a3, a4] st h r ↔ gm_Go E d 74 64 [.null, a1, a2, a3, a4] (.null :: st) h r := gr_loc m74 f74_63 rfl rfl
theorem f74_64 : gm_ft 74 64 = some (.getfield 28, 3) := by decide +kernel
theorem r74_64 {E : Nat → Value} {d : Nat} {st : List Value} {h : gm_H} {r : gm_R × gm_H} {lv : List Value} {a : Nat} {vs : List Value} {v : Value} (hr : gm_rd h a = some (0, vs)) (hv : vs[10]? = some v) : gm_Go E d 74 64 lv (.ref a :: st) h r ↔ gm_Go E d 74 67 lv (v :: st) h r := gr_rd m74 f74_64 rfl rfl rfl rfl (gf_get k0_28 hr hv)
theorem f74_67 : gm_ft 74 67 = some (.getfield 215, 3) := by decide +kernel
theorem r74_67 {E : Nat → Value} {d : Nat} {st : List Value} {h : gm_H} {r : gm_R × gm_H} {lv : List Value} {a : Nat} {vs : List Value} {v : Value} (hr : gm_rd h a = some (2, vs)) (hv : vs[0]? = some v) : gm_Go E d 74 67 lv (.ref a :: st) h r ↔ gm_Go E d 74 70 lv (v :: st) h r := gr_rd m74 f74_67 rfl rfl rfl rfl (gf_get k0_215 hr hv)
theorem f74_70 : gm_ft 74 70 = some (.iload_n 1, 1) := by decide +kernel
theorem r74_70 {E : Nat → Value} {d : Nat} {st : List Value} {h : gm_H} {r : gm_R × gm_H} {a0 a2 a3 a4 : Value} {x : Int32} : gm_Go E d 74 70 [a0, .int x, a2, a3, a4] st h r ↔ gm_Go E d 74 71 [a0, .int x, a2, a3, a4] (.int x :: st) h r := gr_loc m74 f74_70 rfl rfl
theorem f74_71 : gm_ft 74 71 = some (.aload_n 0, 1) := by decide +kernel
theorem r74_71 {E : Nat → Value} {d : Nat} {st : List Value} {h : gm_H} {r : gm_R × gm_H} {a1 a2 a3 a4 : Value} {x : Nat} : gm_Go E d 74 71 [.ref x, a1, a2, a3, a4] st h r ↔ gm_Go E d 74 72 [.ref x, a1, a2, a3, a4] (.ref x :: st) h r := gr_loc m74 f74_71 rfl rfl
theorem r74_71n {E : Nat → Value} {d : Nat} {st : List Value} {h : gm_H} {r : gm_R × gm_H} {a1 a2 a3 a4 : Value}  : gm_Go E d 74 71 [.null, a1, a2, a3, a4] st h r ↔ gm_Go E d 74 72 [.null, a1, a2, a3, a4] (.null :: st) h r := gr_loc m74 f74_71 rfl rfl
theorem f74_72 : gm_ft 74 72 = some (.aload_n 3, 1) := by decide +kernel
theorem r74_72 {E : Nat → Value} {d : Nat} {st : List Value} {h : gm_H} {r : gm_R × gm_H} {a0 a1 a2 a4 : Value} {x : Nat} : gm_Go E d 74 72 [a0, a1, a2, .ref x, a4] st h r ↔ gm_Go E d 74 73 [a0, a1, a2, .ref x, a4] (.ref x :: st) h r := gr_loc m74 f74_72 rfl rfl
theorem r74_72n {E : Nat → Value} {d : Nat} {st : List Value} {h : gm_H} {r : gm_R × gm_H} {a0 a1 a2 a4 : Value}  : gm_Go E d 74 72 [a0, a1, a2, .null, a4] st h r ↔ gm_Go E d 74 73 [a0, a1, a2, .null, a4] (.null :: st) h r := gr_loc m74 f74_72 rfl rfl
theorem f74_73 : gm_ft 74 73 = some (.invokevirtual 231, 3) := by decide +kernel
theorem n74_73 {st : List Value} {h : gm_H} {E : Nat → Value} {lv : List Value} {b0 : Value} {a : Nat} (hs : (st.map fun v => v.category).sum ≤ 8) (he : (gm_en1 [.ref a, b0]).length ≤ 2) {vs : List Value} (hr : gm_rd h a = some (0, vs)) : gm_next E 74 73 lv (b0 :: .ref a :: st) h = some (.inr (.inl (0, 65, [.ref a, b0], st))) := gn_call m74 f74_73 rfl rfl rfl rfl rfl rfl rfl (gc_virt (bs := [b0]) (w := 555) rfl rfl rfl rfl hs he hr) (by decide)
theorem f74_76 : gm_ft 74 76 = some (.iastore, 1) := by decide +kernel
theorem r74_76 {E : Nat → Value} {d : Nat} {st : List Value} {h : gm_H} {r : gm_R × gm_H} {lv : List Value} {a k j : Nat} {vs : List Value} {x : Int32} (hr : gm_rd h a = some (k, vs)) (hk : 100 ≤ k ∧ k % 100 = 0 ∧ gm_ko k = 1 ∧ 1 < 3) (hj : j < 2 ^ 31) (hl : j < vs.length) : gm_Go E d 74 76 lv (.int x :: .int (nI j) :: .ref a :: st) h r ↔ gm_Go E d 74 77 lv st (gm_wr h a (k, vs.set j (.int x))) r := gr_wr m74 f74_76 rfl rfl rfl rfl rfl (ga_st hr hk hj hl)
theorem f74_77 : gm_ft 74 77 = some (.aload_n 0, 1) := by decide +kernel
theorem r74_77 {E : Nat → Value} {d : Nat} {st : List Value} {h : gm_H} {r : gm_R × gm_H} {a1 a2 a3 a4 : Value} {x : Nat} : gm_Go E d 74 77 [.ref x, a1, a2, a3, a4] st h r ↔ gm_Go E d 74 78 [.ref x, a1, a2, a3, a4] (.ref x :: st) h r := gr_loc m74 f74_77 rfl rfl
theorem r74_77n {E : Nat → Value} {d : Nat} {st : List Value} {h : gm_H} {r : gm_R × gm_H} {a1 a2 a3 a4 : Value}  : gm_Go E d 74 77 [.null, a1, a2, a3, a4] st h r ↔ gm_Go E d 74 78 [.null, a1, a2, a3, a4] (.null :: st) h r := gr_loc m74 f74_77 rfl rfl
theorem f74_78 : gm_ft 74 78 = some (.getfield 28, 3) := by decide +kernel
theorem r74_78 {E : Nat → Value} {d : Nat} {st : List Value} {h : gm_H} {r : gm_R × gm_H} {lv : List Value} {a : Nat} {vs : List Value} {v : Value} (hr : gm_rd h a = some (0, vs)) (hv : vs[10]? = some v) : gm_Go E d 74 78 lv (.ref a :: st) h r ↔ gm_Go E d 74 81 lv (v :: st) h r := gr_rd m74 f74_78 rfl rfl rfl rfl (gf_get k0_28 hr hv)
theorem f74_81 : gm_ft 74 81 = some (.getfield 215, 3) := by decide +kernel
theorem r74_81 {E : Nat → Value} {d : Nat} {st : List Value} {h : gm_H} {r : gm_R × gm_H} {lv : List Value} {a : Nat} {vs : List Value} {v : Value} (hr : gm_rd h a = some (2, vs)) (hv : vs[0]? = some v) : gm_Go E d 74 81 lv (.ref a :: st) h r ↔ gm_Go E d 74 84 lv (v :: st) h r := gr_rd m74 f74_81 rfl rfl rfl rfl (gf_get k0_215 hr hv)
theorem f74_84 : gm_ft 74 84 = some (.iload_n 1, 1) := by decide +kernel
theorem r74_84 {E : Nat → Value} {d : Nat} {st : List Value} {h : gm_H} {r : gm_R × gm_H} {a0 a2 a3 a4 : Value} {x : Int32} : gm_Go E d 74 84 [a0, .int x, a2, a3, a4] st h r ↔ gm_Go E d 74 85 [a0, .int x, a2, a3, a4] (.int x :: st) h r := gr_loc m74 f74_84 rfl rfl
theorem f74_85 : gm_ft 74 85 = some (.iaload, 1) := by decide +kernel
theorem r74_85 {E : Nat → Value} {d : Nat} {st : List Value} {h : gm_H} {r : gm_R × gm_H} {lv : List Value} {a k j : Nat} {vs : List Value} {v : Value} (hr : gm_rd h a = some (k, vs)) (hk : 100 ≤ k ∧ (fun t => t == 0) (k % 100) = true) (hj : j < 2 ^ 31) (hv : vs[j]? = some v) : gm_Go E d 74 85 lv (.int (nI j) :: .ref a :: st) h r ↔ gm_Go E d 74 86 lv (v :: st) h r := gr_rd m74 f74_85 rfl rfl rfl rfl (ga_ld (P := fun t => t == 0) hr hk hj hv)
theorem f74_86 : gm_ft 74 86 = some (.ireturn, 1) := by decide +kernel
theorem r74_86 {E : Nat → Value} {d : Nat} {h : gm_H} {r : gm_R × gm_H} {lv : List Value} {x : Int32} : gm_Go E d 74 86 lv [.int x] h r ↔ r = (.inl (some (.int x)), h) := gr_ret m74 f74_86 rfl rfl rfl rfl rfl rfl rfl rfl (by unfold gm_rt; dsimp only; rw [if_pos ⟨rfl, rfl⟩])
/-! GraphReader.readArray(I)I -/
theorem m75 : gm_mt[75]? = some (⟨"GraphReader", "readArray", "(I)I"⟩, prog_1_method_36_code, 8, (some .int), [], 0, 1) := rfl
theorem f75_0 : gm_ft 75 0 = some (.aload_n 0, 1) := by decide +kernel
theorem r75_0 {E : Nat → Value} {d : Nat} {st : List Value} {h : gm_H} {r : gm_R × gm_H} {a1 a2 a3 a4 a5 a6 a7 : Value} {x : Nat} : gm_Go E d 75 0 [.ref x, a1, a2, a3, a4, a5, a6, a7] st h r ↔ gm_Go E d 75 1 [.ref x, a1, a2, a3, a4, a5, a6, a7] (.ref x :: st) h r := gr_loc m75 f75_0 rfl rfl
theorem r75_0n {E : Nat → Value} {d : Nat} {st : List Value} {h : gm_H} {r : gm_R × gm_H} {a1 a2 a3 a4 a5 a6 a7 : Value}  : gm_Go E d 75 0 [.null, a1, a2, a3, a4, a5, a6, a7] st h r ↔ gm_Go E d 75 1 [.null, a1, a2, a3, a4, a5, a6, a7] (.null :: st) h r := gr_loc m75 f75_0 rfl rfl
theorem f75_1 : gm_ft 75 1 = some (.iload_n 1, 1) := by decide +kernel
theorem r75_1 {E : Nat → Value} {d : Nat} {st : List Value} {h : gm_H} {r : gm_R × gm_H} {a0 a2 a3 a4 a5 a6 a7 : Value} {x : Int32} : gm_Go E d 75 1 [a0, .int x, a2, a3, a4, a5, a6, a7] st h r ↔ gm_Go E d 75 2 [a0, .int x, a2, a3, a4, a5, a6, a7] (.int x :: st) h r := gr_loc m75 f75_1 rfl rfl
theorem f75_2 : gm_ft 75 2 = some (.invokevirtual 235, 3) := by decide +kernel
theorem n75_2 {st : List Value} {h : gm_H} {E : Nat → Value} {lv : List Value} {b0 : Value} {a : Nat} (hs : (st.map fun v => v.category).sum ≤ 8) (he : (gm_en1 [.ref a, b0]).length ≤ 3) {vs : List Value} (hr : gm_rd h a = some (0, vs)) : gm_next E 75 2 lv (b0 :: .ref a :: st) h = some (.inr (.inl (0, 58, [.ref a, b0], st))) := gn_call m75 f75_2 rfl rfl rfl rfl rfl rfl rfl (gc_virt (bs := [b0]) (w := 505) rfl rfl rfl rfl hs he hr) (by decide)
theorem f75_5 : gm_ft 75 5 = some (.astore_n 2, 1) := by decide +kernel
theorem r75_5 {E : Nat → Value} {d : Nat} {st : List Value} {h : gm_H} {r : gm_R × gm_H} {a0 a1 a2 a3 a4 a5 a6 a7 : Value} {x : Nat} : gm_Go E d 75 5 [a0, a1, a2, a3, a4, a5, a6, a7] (.ref x :: st) h r ↔ gm_Go E d 75 6 [a0, gm_k a1, .ref x, a3, a4, a5, a6, a7] st h r := gr_loc m75 f75_5 rfl rfl
theorem r75_5n {E : Nat → Value} {d : Nat} {st : List Value} {h : gm_H} {r : gm_R × gm_H} {a0 a1 a2 a3 a4 a5 a6 a7 : Value}  : gm_Go E d 75 5 [a0, a1, a2, a3, a4, a5, a6, a7] (.null :: st) h r ↔ gm_Go E d 75 6 [a0, gm_k a1, .null, a3, a4, a5, a6, a7] st h r := gr_loc m75 f75_5 rfl rfl
theorem f75_6 : gm_ft 75 6 = some (.aload_n 0, 1) := by decide +kernel
theorem r75_6 {E : Nat → Value} {d : Nat} {st : List Value} {h : gm_H} {r : gm_R × gm_H} {a1 a2 a3 a4 a5 a6 a7 : Value} {x : Nat} : gm_Go E d 75 6 [.ref x, a1, a2, a3, a4, a5, a6, a7] st h r ↔ gm_Go E d 75 7 [.ref x, a1, a2, a3, a4, a5, a6, a7] (.ref x :: st) h r := gr_loc m75 f75_6 rfl rfl
theorem r75_6n {E : Nat → Value} {d : Nat} {st : List Value} {h : gm_H} {r : gm_R × gm_H} {a1 a2 a3 a4 a5 a6 a7 : Value}  : gm_Go E d 75 6 [.null, a1, a2, a3, a4, a5, a6, a7] st h r ↔ gm_Go E d 75 7 [.null, a1, a2, a3, a4, a5, a6, a7] (.null :: st) h r := gr_loc m75 f75_6 rfl rfl
theorem f75_7 : gm_ft 75 7 = some (.aload_n 2, 1) := by decide +kernel
theorem r75_7 {E : Nat → Value} {d : Nat} {st : List Value} {h : gm_H} {r : gm_R × gm_H} {a0 a1 a3 a4 a5 a6 a7 : Value} {x : Nat} : gm_Go E d 75 7 [a0, a1, .ref x, a3, a4, a5, a6, a7] st h r ↔ gm_Go E d 75 8 [a0, a1, .ref x, a3, a4, a5, a6, a7] (.ref x :: st) h r := gr_loc m75 f75_7 rfl rfl
theorem r75_7n {E : Nat → Value} {d : Nat} {st : List Value} {h : gm_H} {r : gm_R × gm_H} {a0 a1 a3 a4 a5 a6 a7 : Value}  : gm_Go E d 75 7 [a0, a1, .null, a3, a4, a5, a6, a7] st h r ↔ gm_Go E d 75 8 [a0, a1, .null, a3, a4, a5, a6, a7] (.null :: st) h r := gr_loc m75 f75_7 rfl rfl
theorem f75_8 : gm_ft 75 8 = some (.getfield 239, 3) := by decide +kernel
theorem r75_8 {E : Nat → Value} {d : Nat} {st : List Value} {h : gm_H} {r : gm_R × gm_H} {lv : List Value} {a : Nat} {vs : List Value} {v : Value} (hr : gm_rd h a = some (1, vs)) (hv : vs[0]? = some v) : gm_Go E d 75 8 lv (.ref a :: st) h r ↔ gm_Go E d 75 11 lv (v :: st) h r := gr_rd m75 f75_8 rfl rfl rfl rfl (gf_get k0_239 hr hv)
theorem f75_11 : gm_ft 75 11 = some (.aload_n 2, 1) := by decide +kernel
theorem r75_11 {E : Nat → Value} {d : Nat} {st : List Value} {h : gm_H} {r : gm_R × gm_H} {a0 a1 a3 a4 a5 a6 a7 : Value} {x : Nat} : gm_Go E d 75 11 [a0, a1, .ref x, a3, a4, a5, a6, a7] st h r ↔ gm_Go E d 75 12 [a0, a1, .ref x, a3, a4, a5, a6, a7] (.ref x :: st) h r := gr_loc m75 f75_11 rfl rfl
theorem r75_11n {E : Nat → Value} {d : Nat} {st : List Value} {h : gm_H} {r : gm_R × gm_H} {a0 a1 a3 a4 a5 a6 a7 : Value}  : gm_Go E d 75 11 [a0, a1, .null, a3, a4, a5, a6, a7] st h r ↔ gm_Go E d 75 12 [a0, a1, .null, a3, a4, a5, a6, a7] (.null :: st) h r := gr_loc m75 f75_11 rfl rfl
theorem f75_12 : gm_ft 75 12 = some (.getfield 242, 3) := by decide +kernel
theorem r75_12 {E : Nat → Value} {d : Nat} {st : List Value} {h : gm_H} {r : gm_R × gm_H} {lv : List Value} {a : Nat} {vs : List Value} {v : Value} (hr : gm_rd h a = some (1, vs)) (hv : vs[1]? = some v) : gm_Go E d 75 12 lv (.ref a :: st) h r ↔ gm_Go E d 75 15 lv (v :: st) h r := gr_rd m75 f75_12 rfl rfl rfl rfl (gf_get k0_242 hr hv)
theorem f75_15 : gm_ft 75 15 = some (.ldc 245, 2) := by decide +kernel
theorem r75_15 {E : Nat → Value} {d : Nat} {st : List Value} {h : gm_H} {r : gm_R × gm_H} {lv : List Value} : gm_Go E d 75 15 lv st h r ↔ gm_Go E d 75 17 lv (E 4 :: st) h r := gr_rd m75 f75_15 rfl rfl rfl rfl rfl
theorem f75_17 : gm_ft 75 17 = some (.invokevirtual 246, 3) := by decide +kernel
theorem n75_17 {st : List Value} {h : gm_H} {E : Nat → Value} {lv : List Value} {b0 b1 b2 : Value} {a : Nat} (hs : (st.map fun v => v.category).sum ≤ 8) (he : (gm_en1 [.ref a, b0, b1, b2]).length ≤ 5) {vs : List Value} (hr : gm_rd h a = some (0, vs)) : gm_next E 75 17 lv (b2 :: b1 :: b0 :: .ref a :: st) h = some (.inr (.inl (0, 76, [.ref a, b0, b1, b2], st))) := gn_call m75 f75_17 rfl rfl rfl rfl rfl rfl rfl (gc_virt (bs := [b2, b1, b0]) (w := 602) rfl rfl rfl rfl hs he hr) (by decide)
theorem f75_20 : gm_ft 75 20 = some (.istore_n 3, 1) := by decide +kernel
theorem r75_20 {E : Nat → Value} {d : Nat} {st : List Value} {h : gm_H} {r : gm_R × gm_H} {a0 a1 a2 a3 a4 a5 a6 a7 : Value} {x : Int32} : gm_Go E d 75 20 [a0, a1, a2, a3, a4, a5, a6, a7] (.int x :: st) h r ↔ gm_Go E d 75 21 [a0, a1, gm_k a2, .int x, a4, a5, a6, a7] st h r := gr_loc m75 f75_20 rfl rfl
theorem f75_21 : gm_ft 75 21 = some (.iload_n 3, 1) := by decide +kernel
theorem r75_21 {E : Nat → Value} {d : Nat} {st : List Value} {h : gm_H} {r : gm_R × gm_H} {a0 a1 a2 a4 a5 a6 a7 : Value} {x : Int32} : gm_Go E d 75 21 [a0, a1, a2, .int x, a4, a5, a6, a7] st h r ↔ gm_Go E d 75 22 [a0, a1, a2, .int x, a4, a5, a6, a7] (.int x :: st) h r := gr_loc m75 f75_21 rfl rfl
theorem f75_22 : gm_ft 75 22 = some (.ifCond .ne 27, 3) := by decide +kernel
theorem r75_22 {E : Nat → Value} {d : Nat} {st : List Value} {h : gm_H} {r : gm_R × gm_H} {lv : List Value} {x : Int32} : gm_Go E d 75 22 lv (.int x :: st) h r ↔ (if x = 0 then gm_Go E d 75 25 lv st h r else gm_Go E d 75 49 lv st h r) := (gr_br m75 f75_22 rfl rfl rfl rfl).trans gr_ifn
theorem f75_25 : gm_ft 75 25 = some (.aload_n 0, 1) := by decide +kernel
theorem r75_25 {E : Nat → Value} {d : Nat} {st : List Value} {h : gm_H} {r : gm_R × gm_H} {a1 a2 a3 a4 a5 a6 a7 : Value} {x : Nat} : gm_Go E d 75 25 [.ref x, a1, a2, a3, a4, a5, a6, a7] st h r ↔ gm_Go E d 75 26 [.ref x, a1, a2, a3, a4, a5, a6, a7] (.ref x :: st) h r := gr_loc m75 f75_25 rfl rfl
theorem r75_25n {E : Nat → Value} {d : Nat} {st : List Value} {h : gm_H} {r : gm_R × gm_H} {a1 a2 a3 a4 a5 a6 a7 : Value}  : gm_Go E d 75 25 [.null, a1, a2, a3, a4, a5, a6, a7] st h r ↔ gm_Go E d 75 26 [.null, a1, a2, a3, a4, a5, a6, a7] (.null :: st) h r := gr_loc m75 f75_25 rfl rfl
theorem f75_26 : gm_ft 75 26 = some (.aload_n 2, 1) := by decide +kernel
theorem r75_26 {E : Nat → Value} {d : Nat} {st : List Value} {h : gm_H} {r : gm_R × gm_H} {a0 a1 a3 a4 a5 a6 a7 : Value} {x : Nat} : gm_Go E d 75 26 [a0, a1, .ref x, a3, a4, a5, a6, a7] st h r ↔ gm_Go E d 75 27 [a0, a1, .ref x, a3, a4, a5, a6, a7] (.ref x :: st) h r := gr_loc m75 f75_26 rfl rfl
theorem r75_26n {E : Nat → Value} {d : Nat} {st : List Value} {h : gm_H} {r : gm_R × gm_H} {a0 a1 a3 a4 a5 a6 a7 : Value}  : gm_Go E d 75 26 [a0, a1, .null, a3, a4, a5, a6, a7] st h r ↔ gm_Go E d 75 27 [a0, a1, .null, a3, a4, a5, a6, a7] (.null :: st) h r := gr_loc m75 f75_26 rfl rfl
theorem f75_27 : gm_ft 75 27 = some (.getfield 239, 3) := by decide +kernel
theorem r75_27 {E : Nat → Value} {d : Nat} {st : List Value} {h : gm_H} {r : gm_R × gm_H} {lv : List Value} {a : Nat} {vs : List Value} {v : Value} (hr : gm_rd h a = some (1, vs)) (hv : vs[0]? = some v) : gm_Go E d 75 27 lv (.ref a :: st) h r ↔ gm_Go E d 75 30 lv (v :: st) h r := gr_rd m75 f75_27 rfl rfl rfl rfl (gf_get k0_239 hr hv)
theorem f75_30 : gm_ft 75 30 = some (.aload_n 2, 1) := by decide +kernel
theorem r75_30 {E : Nat → Value} {d : Nat} {st : List Value} {h : gm_H} {r : gm_R × gm_H} {a0 a1 a3 a4 a5 a6 a7 : Value} {x : Nat} : gm_Go E d 75 30 [a0, a1, .ref x, a3, a4, a5, a6, a7] st h r ↔ gm_Go E d 75 31 [a0, a1, .ref x, a3, a4, a5, a6, a7] (.ref x :: st) h r := gr_loc m75 f75_30 rfl rfl
theorem r75_30n {E : Nat → Value} {d : Nat} {st : List Value} {h : gm_H} {r : gm_R × gm_H} {a0 a1 a3 a4 a5 a6 a7 : Value}  : gm_Go E d 75 30 [a0, a1, .null, a3, a4, a5, a6, a7] st h r ↔ gm_Go E d 75 31 [a0, a1, .null, a3, a4, a5, a6, a7] (.null :: st) h r := gr_loc m75 f75_30 rfl rfl
theorem f75_31 : gm_ft 75 31 = some (.getfield 242, 3) := by decide +kernel
theorem r75_31 {E : Nat → Value} {d : Nat} {st : List Value} {h : gm_H} {r : gm_R × gm_H} {lv : List Value} {a : Nat} {vs : List Value} {v : Value} (hr : gm_rd h a = some (1, vs)) (hv : vs[1]? = some v) : gm_Go E d 75 31 lv (.ref a :: st) h r ↔ gm_Go E d 75 34 lv (v :: st) h r := gr_rd m75 f75_31 rfl rfl rfl rfl (gf_get k0_242 hr hv)
theorem f75_34 : gm_ft 75 34 = some (.ldc 250, 2) := by decide +kernel
theorem r75_34 {E : Nat → Value} {d : Nat} {st : List Value} {h : gm_H} {r : gm_R × gm_H} {lv : List Value} : gm_Go E d 75 34 lv st h r ↔ gm_Go E d 75 36 lv (E 3 :: st) h r := gr_rd m75 f75_34 rfl rfl rfl rfl rfl
theorem f75_36 : gm_ft 75 36 = some (.invokevirtual 246, 3) := by decide +kernel
theorem n75_36 {st : List Value} {h : gm_H} {E : Nat → Value} {lv : List Value} {b0 b1 b2 : Value} {a : Nat} (hs : (st.map fun v => v.category).sum ≤ 8) (he : (gm_en1 [.ref a, b0, b1, b2]).length ≤ 5) {vs : List Value} (hr : gm_rd h a = some (0, vs)) : gm_next E 75 36 lv (b2 :: b1 :: b0 :: .ref a :: st) h = some (.inr (.inl (0, 76, [.ref a, b0, b1, b2], st))) := gn_call m75 f75_36 rfl rfl rfl rfl rfl rfl rfl (gc_virt (bs := [b2, b1, b0]) (w := 602) rfl rfl rfl rfl hs he hr) (by decide)
theorem f75_39 : gm_ft 75 39 = some (.ifCond .ne 10, 3) := by decide +kernel
theorem r75_39 {E : Nat → Value} {d : Nat} {st : List Value} {h : gm_H} {r : gm_R × gm_H} {lv : List Value} {x : Int32} : gm_Go E d 75 39 lv (.int x :: st) h r ↔ (if x = 0 then gm_Go E d 75 42 lv st h r else gm_Go E d 75 49 lv st h r) := (gr_br m75 f75_39 rfl rfl rfl rfl).trans gr_ifn
theorem f75_42 : gm_ft 75 42 = some (.aload_n 0, 1) := by decide +kernel
theorem r75_42 {E : Nat → Value} {d : Nat} {st : List Value} {h : gm_H} {r : gm_R × gm_H} {a1 a2 a3 a4 a5 a6 a7 : Value} {x : Nat} : gm_Go E d 75 42 [.ref x, a1, a2, a3, a4, a5, a6, a7] st h r ↔ gm_Go E d 75 43 [.ref x, a1, a2, a3, a4, a5, a6, a7] (.ref x :: st) h r := gr_loc m75 f75_42 rfl rfl
theorem r75_42n {E : Nat → Value} {d : Nat} {st : List Value} {h : gm_H} {r : gm_R × gm_H} {a1 a2 a3 a4 a5 a6 a7 : Value}  : gm_Go E d 75 42 [.null, a1, a2, a3, a4, a5, a6, a7] st h r ↔ gm_Go E d 75 43 [.null, a1, a2, a3, a4, a5, a6, a7] (.null :: st) h r := gr_loc m75 f75_42 rfl rfl
theorem f75_43 : gm_ft 75 43 = some (.bipush (-5), 2) := by decide +kernel
theorem r75_43 {E : Nat → Value} {d : Nat} {st : List Value} {h : gm_H} {r : gm_R × gm_H} {lv : List Value} : gm_Go E d 75 43 lv st h r ↔ gm_Go E d 75 45 lv (.int (-5 : Int32) :: st) h r := gr_pure m75 f75_43 rfl
theorem f75_45 : gm_ft 75 45 = some (.invokevirtual 160, 3) := by decide +kernel
theorem n75_45 {st : List Value} {h : gm_H} {E : Nat → Value} {lv : List Value} {b0 : Value} {a : Nat} (hs : (st.map fun v => v.category).sum ≤ 8) (he : (gm_en1 [.ref a, b0]).length ≤ 2) {vs : List Value} (hr : gm_rd h a = some (0, vs)) : gm_next E 75 45 lv (b0 :: .ref a :: st) h = some (.inr (.inl (0, 22, [.ref a, b0], st))) := gn_call m75 f75_45 rfl rfl rfl rfl rfl rfl rfl (gc_virt (bs := [b0]) (w := 206) rfl rfl rfl rfl hs he hr) (by decide)
theorem f75_48 : gm_ft 75 48 = some (.ireturn, 1) := by decide +kernel
theorem r75_48 {E : Nat → Value} {d : Nat} {h : gm_H} {r : gm_R × gm_H} {lv : List Value} {x : Int32} : gm_Go E d 75 48 lv [.int x] h r ↔ r = (.inl (some (.int x)), h) := gr_ret m75 f75_48 rfl rfl rfl rfl rfl rfl rfl rfl (by unfold gm_rt; dsimp only; rw [if_pos ⟨rfl, rfl⟩])
theorem f75_49 : gm_ft 75 49 = some (.aload_n 0, 1) := by decide +kernel
theorem r75_49 {E : Nat → Value} {d : Nat} {st : List Value} {h : gm_H} {r : gm_R × gm_H} {a1 a2 a3 a4 a5 a6 a7 : Value} {x : Nat} : gm_Go E d 75 49 [.ref x, a1, a2, a3, a4, a5, a6, a7] st h r ↔ gm_Go E d 75 50 [.ref x, a1, a2, a3, a4, a5, a6, a7] (.ref x :: st) h r := gr_loc m75 f75_49 rfl rfl
theorem r75_49n {E : Nat → Value} {d : Nat} {st : List Value} {h : gm_H} {r : gm_R × gm_H} {a1 a2 a3 a4 a5 a6 a7 : Value}  : gm_Go E d 75 49 [.null, a1, a2, a3, a4, a5, a6, a7] st h r ↔ gm_Go E d 75 50 [.null, a1, a2, a3, a4, a5, a6, a7] (.null :: st) h r := gr_loc m75 f75_49 rfl rfl
theorem f75_50 : gm_ft 75 50 = some (.invokevirtual 179, 3) := by decide +kernel
theorem n75_50 {st : List Value} {h : gm_H} {E : Nat → Value} {lv : List Value} {a : Nat} (hs : (st.map fun v => v.category).sum ≤ 8) (he : (gm_en1 [.ref a]).length ≤ 1) {vs : List Value} (hr : gm_rd h a = some (0, vs)) : gm_next E 75 50 lv (.ref a :: st) h = some (.inr (.inl (0, 28, [.ref a], st))) := gn_call m75 f75_50 rfl rfl rfl rfl rfl rfl rfl (gc_virt (bs := []) (w := 290) rfl rfl rfl rfl hs he hr) (by decide)
theorem f75_53 : gm_ft 75 53 = some (.istore 4, 2) := by decide +kernel
theorem r75_53 {E : Nat → Value} {d : Nat} {st : List Value} {h : gm_H} {r : gm_R × gm_H} {a0 a1 a2 a3 a4 a5 a6 a7 : Value} {x : Int32} : gm_Go E d 75 53 [a0, a1, a2, a3, a4, a5, a6, a7] (.int x :: st) h r ↔ gm_Go E d 75 55 [a0, a1, a2, gm_k a3, .int x, a5, a6, a7] st h r := gr_loc m75 f75_53 rfl rfl
theorem f75_55 : gm_ft 75 55 = some (.iload 4, 2) := by decide +kernel
theorem r75_55 {E : Nat → Value} {d : Nat} {st : List Value} {h : gm_H} {r : gm_R × gm_H} {a0 a1 a2 a3 a5 a6 a7 : Value} {x : Int32} : gm_Go E d 75 55 [a0, a1, a2, a3, .int x, a5, a6, a7] st h r ↔ gm_Go E d 75 57 [a0, a1, a2, a3, .int x, a5, a6, a7] (.int x :: st) h r := gr_loc m75 f75_55 rfl rfl
theorem f75_57 : gm_ft 75 57 = some (.ifCond .ge 10, 3) := by decide +kernel
theorem r75_57 {E : Nat → Value} {d : Nat} {st : List Value} {h : gm_H} {r : gm_R × gm_H} {lv : List Value} {x : Int32} : gm_Go E d 75 57 lv (.int x :: st) h r ↔ (if 0 ≤ x then gm_Go E d 75 67 lv st h r else gm_Go E d 75 60 lv st h r) := (gr_br m75 f75_57 rfl rfl rfl rfl).trans gr_if
theorem f75_60 : gm_ft 75 60 = some (.aload_n 0, 1) := by decide +kernel
theorem r75_60 {E : Nat → Value} {d : Nat} {st : List Value} {h : gm_H} {r : gm_R × gm_H} {a1 a2 a3 a4 a5 a6 a7 : Value} {x : Nat} : gm_Go E d 75 60 [.ref x, a1, a2, a3, a4, a5, a6, a7] st h r ↔ gm_Go E d 75 61 [.ref x, a1, a2, a3, a4, a5, a6, a7] (.ref x :: st) h r := gr_loc m75 f75_60 rfl rfl
theorem r75_60n {E : Nat → Value} {d : Nat} {st : List Value} {h : gm_H} {r : gm_R × gm_H} {a1 a2 a3 a4 a5 a6 a7 : Value}  : gm_Go E d 75 60 [.null, a1, a2, a3, a4, a5, a6, a7] st h r ↔ gm_Go E d 75 61 [.null, a1, a2, a3, a4, a5, a6, a7] (.null :: st) h r := gr_loc m75 f75_60 rfl rfl
theorem f75_61 : gm_ft 75 61 = some (.bipush (-6), 2) := by decide +kernel
theorem r75_61 {E : Nat → Value} {d : Nat} {st : List Value} {h : gm_H} {r : gm_R × gm_H} {lv : List Value} : gm_Go E d 75 61 lv st h r ↔ gm_Go E d 75 63 lv (.int (-6 : Int32) :: st) h r := gr_pure m75 f75_61 rfl
theorem f75_63 : gm_ft 75 63 = some (.invokevirtual 160, 3) := by decide +kernel
theorem n75_63 {st : List Value} {h : gm_H} {E : Nat → Value} {lv : List Value} {b0 : Value} {a : Nat} (hs : (st.map fun v => v.category).sum ≤ 8) (he : (gm_en1 [.ref a, b0]).length ≤ 2) {vs : List Value} (hr : gm_rd h a = some (0, vs)) : gm_next E 75 63 lv (b0 :: .ref a :: st) h = some (.inr (.inl (0, 22, [.ref a, b0], st))) := gn_call m75 f75_63 rfl rfl rfl rfl rfl rfl rfl (gc_virt (bs := [b0]) (w := 206) rfl rfl rfl rfl hs he hr) (by decide)
theorem f75_66 : gm_ft 75 66 = some (.ireturn, 1) := by decide +kernel
theorem r75_66 {E : Nat → Value} {d : Nat} {h : gm_H} {r : gm_R × gm_H} {lv : List Value} {x : Int32} : gm_Go E d 75 66 lv [.int x] h r ↔ r = (.inl (some (.int x)), h) := gr_ret m75 f75_66 rfl rfl rfl rfl rfl rfl rfl rfl (by unfold gm_rt; dsimp only; rw [if_pos ⟨rfl, rfl⟩])
theorem f75_67 : gm_ft 75 67 = some (.aload_n 0, 1) := by decide +kernel
theorem r75_67 {E : Nat → Value} {d : Nat} {st : List Value} {h : gm_H} {r : gm_R × gm_H} {a1 a2 a3 a4 a5 a6 a7 : Value} {x : Nat} : gm_Go E d 75 67 [.ref x, a1, a2, a3, a4, a5, a6, a7] st h r ↔ gm_Go E d 75 68 [.ref x, a1, a2, a3, a4, a5, a6, a7] (.ref x :: st) h r := gr_loc m75 f75_67 rfl rfl
theorem r75_67n {E : Nat → Value} {d : Nat} {st : List Value} {h : gm_H} {r : gm_R × gm_H} {a1 a2 a3 a4 a5 a6 a7 : Value}  : gm_Go E d 75 67 [.null, a1, a2, a3, a4, a5, a6, a7] st h r ↔ gm_Go E d 75 68 [.null, a1, a2, a3, a4, a5, a6, a7] (.null :: st) h r := gr_loc m75 f75_67 rfl rfl
theorem f75_68 : gm_ft 75 68 = some (.aload_n 2, 1) := by decide +kernel
theorem r75_68 {E : Nat → Value} {d : Nat} {st : List Value} {h : gm_H} {r : gm_R × gm_H} {a0 a1 a3 a4 a5 a6 a7 : Value} {x : Nat} : gm_Go E d 75 68 [a0, a1, .ref x, a3, a4, a5, a6, a7] st h r ↔ gm_Go E d 75 69 [a0, a1, .ref x, a3, a4, a5, a6, a7] (.ref x :: st) h r := gr_loc m75 f75_68 rfl rfl
theorem r75_68n {E : Nat → Value} {d : Nat} {st : List Value} {h : gm_H} {r : gm_R × gm_H} {a0 a1 a3 a4 a5 a6 a7 : Value}  : gm_Go E d 75 68 [a0, a1, .null, a3, a4, a5, a6, a7] st h r ↔ gm_Go E d 75 69 [a0, a1, .null, a3, a4, a5, a6, a7] (.null :: st) h r := gr_loc m75 f75_68 rfl rfl
theorem f75_69 : gm_ft 75 69 = some (.iload_n 1, 1) := by decide +kernel
theorem r75_69 {E : Nat → Value} {d : Nat} {st : List Value} {h : gm_H} {r : gm_R × gm_H} {a0 a2 a3 a4 a5 a6 a7 : Value} {x : Int32} : gm_Go E d 75 69 [a0, .int x, a2, a3, a4, a5, a6, a7] st h r ↔ gm_Go E d 75 70 [a0, .int x, a2, a3, a4, a5, a6, a7] (.int x :: st) h r := gr_loc m75 f75_69 rfl rfl
theorem f75_70 : gm_ft 75 70 = some (.iload 4, 2) := by decide +kernel
theorem r75_70 {E : Nat → Value} {d : Nat} {st : List Value} {h : gm_H} {r : gm_R × gm_H} {a0 a1 a2 a3 a5 a6 a7 : Value} {x : Int32} : gm_Go E d 75 70 [a0, a1, a2, a3, .int x, a5, a6, a7] st h r ↔ gm_Go E d 75 72 [a0, a1, a2, a3, .int x, a5, a6, a7] (.int x :: st) h r := gr_loc m75 f75_70 rfl rfl
theorem f75_72 : gm_ft 75 72 = some (.invokevirtual 252, 3) := by decide +kernel
theorem n75_72 {st : List Value} {h : gm_H} {E : Nat → Value} {lv : List Value} {b0 b1 b2 : Value} {a : Nat} (hs : (st.map fun v => v.category).sum ≤ 8) (he : (gm_en1 [.ref a, b0, b1, b2]).length ≤ 5) {vs : List Value} (hr : gm_rd h a = some (0, vs)) : gm_next E 75 72 lv (b2 :: b1 :: b0 :: .ref a :: st) h = some (.inr (.inl (0, 59, [.ref a, b0, b1, b2], st))) := gn_call m75 f75_72 rfl rfl rfl rfl rfl rfl rfl (gc_virt (bs := [b2, b1, b0]) (w := 509) rfl rfl rfl rfl hs he hr) (by decide)
theorem f75_75 : gm_ft 75 75 = some (.new 19, 3) := by decide +kernel
theorem r75_75 {E : Nat → Value} {d : Nat} {st : List Value} {h : gm_H} {r : gm_R × gm_H} {lv : List Value} : gm_Go E d 75 75 lv st h r ↔ gm_Go E d 75 78 lv (.ref h.1 :: st) (gm_nw h (4, (List.range (gm_N 4)).map (fun k => defaultValue (gm_ty 4 k))) (gm_N 4)) r := gr_nw m75 f75_75 rfl rfl rfl rfl rfl rfl rfl
theorem f75_78 : gm_ft 75 78 = some (.dup, 1) := by decide +kernel
theorem r75_78 {E : Nat → Value} {d : Nat} {st : List Value} {h : gm_H} {r : gm_R × gm_H} {lv : List Value} {a : Nat} : gm_Go E d 75 78 lv (.ref a :: st) h r ↔ gm_Go E d 75 79 lv (.ref a :: .ref a :: st) h r := gr_pure m75 f75_78 rfl
theorem r75_78i {E : Nat → Value} {d : Nat} {st : List Value} {h : gm_H} {r : gm_R × gm_H} {lv : List Value} {x : Int32} : gm_Go E d 75 78 lv (.int x :: st) h r ↔ gm_Go E d 75 79 lv (.int x :: .int x :: st) h r := gr_pure m75 f75_78 rfl
theorem f75_79 : gm_ft 75 79 = some (.iload_n 3, 1) := by decide +kernel
theorem r75_79 {E : Nat → Value} {d : Nat} {st : List Value} {h : gm_H} {r : gm_R × gm_H} {a0 a1 a2 a4 a5 a6 a7 : Value} {x : Int32} : gm_Go E d 75 79 [a0, a1, a2, .int x, a4, a5, a6, a7] st h r ↔ gm_Go E d 75 80 [a0, a1, a2, .int x, a4, a5, a6, a7] (.int x :: st) h r := gr_loc m75 f75_79 rfl rfl
theorem f75_80 : gm_ft 75 80 = some (.ifCond .eq 7, 3) := by decide +kernel
theorem r75_80 {E : Nat → Value} {d : Nat} {st : List Value} {h : gm_H} {r : gm_R × gm_H} {lv : List Value} {x : Int32} : gm_Go E d 75 80 lv (.int x :: st) h r ↔ (if x = 0 then gm_Go E d 75 87 lv st h r else gm_Go E d 75 83 lv st h r) := (gr_br m75 f75_80 rfl rfl rfl rfl).trans gr_if
theorem f75_83 : gm_ft 75 83 = some (.iconst 2, 1) := by decide +kernel
theorem r75_83 {E : Nat → Value} {d : Nat} {st : List Value} {h : gm_H} {r : gm_R × gm_H} {lv : List Value} : gm_Go E d 75 83 lv st h r ↔ gm_Go E d 75 84 lv (.int (2 : Int32) :: st) h r := gr_pure m75 f75_83 rfl
theorem f75_84 : gm_ft 75 84 = some (.goto 4, 3) := by decide +kernel
theorem r75_84 {E : Nat → Value} {d : Nat} {st : List Value} {h : gm_H} {r : gm_R × gm_H} {lv : List Value} : gm_Go E d 75 84 lv st h r ↔ gm_Go E d 75 88 lv st h r := gr_brT m75 f75_84 rfl rfl rfl rfl
theorem f75_87 : gm_ft 75 87 = some (.iconst 3, 1) := by decide +kernel
theorem r75_87 {E : Nat → Value} {d : Nat} {st : List Value} {h : gm_H} {r : gm_R × gm_H} {lv : List Value} : gm_Go E d 75 87 lv st h r ↔ gm_Go E d 75 88 lv (.int (3 : Int32) :: st) h r := gr_pure m75 f75_87 rfl
theorem f75_88 : gm_ft 75 88 = some (.aconst_null, 1) := by decide +kernel
theorem r75_88 {E : Nat → Value} {d : Nat} {st : List Value} {h : gm_H} {r : gm_R × gm_H} {lv : List Value} : gm_Go E d 75 88 lv st h r ↔ gm_Go E d 75 89 lv (.null :: st) h r := gr_pure m75 f75_88 rfl
theorem f75_89 : gm_ft 75 89 = some (.iload 4, 2) := by decide +kernel
theorem r75_89 {E : Nat → Value} {d : Nat} {st : List Value} {h : gm_H} {r : gm_R × gm_H} {a0 a1 a2 a3 a5 a6 a7 : Value} {x : Int32} : gm_Go E d 75 89 [a0, a1, a2, a3, .int x, a5, a6, a7] st h r ↔ gm_Go E d 75 91 [a0, a1, a2, a3, .int x, a5, a6, a7] (.int x :: st) h r := gr_loc m75 f75_89 rfl rfl
theorem f75_91 : gm_ft 75 91 = some (.invokespecial 228, 3) := by decide +kernel
theorem n75_91 {st : List Value} {h : gm_H} {E : Nat → Value} {lv : List Value} {b0 b1 b2 : Value} {a : Nat} (hs : (st.map fun v => v.category).sum ≤ 8) (he : (gm_en1 [.ref a, b0, b1, b2]).length ≤ 4) : gm_next E 75 91 lv (b2 :: b1 :: b0 :: .ref a :: st) h = some (.inr (.inl (2, 61, [.ref a, b0, b1, b2], st))) := gn_call m75 f75_91 rfl rfl rfl rfl rfl rfl rfl (gc_init (bs := [b2, b1, b0]) (w := 518) rfl rfl rfl hs he (by decide)) (by decide)
theorem f75_94 : gm_ft 75 94 = some (.astore 5, 2) := by decide +kernel
theorem r75_94 {E : Nat → Value} {d : Nat} {st : List Value} {h : gm_H} {r : gm_R × gm_H} {a0 a1 a2 a3 a4 a5 a6 a7 : Value} {x : Nat} : gm_Go E d 75 94 [a0, a1, a2, a3, a4, a5, a6, a7] (.ref x :: st) h r ↔ gm_Go E d 75 96 [a0, a1, a2, a3, gm_k a4, .ref x, a6, a7] st h r := gr_loc m75 f75_94 rfl rfl
theorem r75_94n {E : Nat → Value} {d : Nat} {st : List Value} {h : gm_H} {r : gm_R × gm_H} {a0 a1 a2 a3 a4 a5 a6 a7 : Value}  : gm_Go E d 75 94 [a0, a1, a2, a3, a4, a5, a6, a7] (.null :: st) h r ↔ gm_Go E d 75 96 [a0, a1, a2, a3, gm_k a4, .null, a6, a7] st h r := gr_loc m75 f75_94 rfl rfl
theorem f75_96 : gm_ft 75 96 = some (.aload_n 0, 1) := by decide +kernel
theorem r75_96 {E : Nat → Value} {d : Nat} {st : List Value} {h : gm_H} {r : gm_R × gm_H} {a1 a2 a3 a4 a5 a6 a7 : Value} {x : Nat} : gm_Go E d 75 96 [.ref x, a1, a2, a3, a4, a5, a6, a7] st h r ↔ gm_Go E d 75 97 [.ref x, a1, a2, a3, a4, a5, a6, a7] (.ref x :: st) h r := gr_loc m75 f75_96 rfl rfl
theorem r75_96n {E : Nat → Value} {d : Nat} {st : List Value} {h : gm_H} {r : gm_R × gm_H} {a1 a2 a3 a4 a5 a6 a7 : Value}  : gm_Go E d 75 96 [.null, a1, a2, a3, a4, a5, a6, a7] st h r ↔ gm_Go E d 75 97 [.null, a1, a2, a3, a4, a5, a6, a7] (.null :: st) h r := gr_loc m75 f75_96 rfl rfl
theorem f75_97 : gm_ft 75 97 = some (.aload 5, 2) := by decide +kernel
theorem r75_97 {E : Nat → Value} {d : Nat} {st : List Value} {h : gm_H} {r : gm_R × gm_H} {a0 a1 a2 a3 a4 a6 a7 : Value} {x : Nat} : gm_Go E d 75 97 [a0, a1, a2, a3, a4, .ref x, a6, a7] st h r ↔ gm_Go E d 75 99 [a0, a1, a2, a3, a4, .ref x, a6, a7] (.ref x :: st) h r := gr_loc m75 f75_97 rfl rfl
theorem r75_97n {E : Nat → Value} {d : Nat} {st : List Value} {h : gm_H} {r : gm_R × gm_H} {a0 a1 a2 a3 a4 a6 a7 : Value}  : gm_Go E d 75 97 [a0, a1, a2, a3, a4, .null, a6, a7] st h r ↔ gm_Go E d 75 99 [a0, a1, a2, a3, a4, .null, a6, a7] (.null :: st) h r := gr_loc m75 f75_97 rfl rfl
theorem f75_99 : gm_ft 75 99 = some (.invokevirtual 231, 3) := by decide +kernel
theorem n75_99 {st : List Value} {h : gm_H} {E : Nat → Value} {lv : List Value} {b0 : Value} {a : Nat} (hs : (st.map fun v => v.category).sum ≤ 8) (he : (gm_en1 [.ref a, b0]).length ≤ 2) {vs : List Value} (hr : gm_rd h a = some (0, vs)) : gm_next E 75 99 lv (b0 :: .ref a :: st) h = some (.inr (.inl (0, 65, [.ref a, b0], st))) := gn_call m75 f75_99 rfl rfl rfl rfl rfl rfl rfl (gc_virt (bs := [b0]) (w := 555) rfl rfl rfl rfl hs he hr) (by decide)
theorem f75_102 : gm_ft 75 102 = some (.istore 6, 2) := by decide +kernel
theorem r75_102 {E : Nat → Value} {d : Nat} {st : List Value} {h : gm_H} {r : gm_R × gm_H} {a0 a1 a2 a3 a4 a5 a6 a7 : Value} {x : Int32} : gm_Go E d 75 102 [a0, a1, a2, a3, a4, a5, a6, a7] (.int x :: st) h r ↔ gm_Go E d 75 104 [a0, a1, a2, a3, a4, gm_k a5, .int x, a7] st h r := gr_loc m75 f75_102 rfl rfl
theorem f75_104 : gm_ft 75 104 = some (.aload_n 0, 1) := by decide +kernel
theorem r75_104 {E : Nat → Value} {d : Nat} {st : List Value} {h : gm_H} {r : gm_R × gm_H} {a1 a2 a3 a4 a5 a6 a7 : Value} {x : Nat} : gm_Go E d 75 104 [.ref x, a1, a2, a3, a4, a5, a6, a7] st h r ↔ gm_Go E d 75 105 [.ref x, a1, a2, a3, a4, a5, a6, a7] (.ref x :: st) h r := gr_loc m75 f75_104 rfl rfl
theorem r75_104n {E : Nat → Value} {d : Nat} {st : List Value} {h : gm_H} {r : gm_R × gm_H} {a1 a2 a3 a4 a5 a6 a7 : Value}  : gm_Go E d 75 104 [.null, a1, a2, a3, a4, a5, a6, a7] st h r ↔ gm_Go E d 75 105 [.null, a1, a2, a3, a4, a5, a6, a7] (.null :: st) h r := gr_loc m75 f75_104 rfl rfl
theorem f75_105 : gm_ft 75 105 = some (.iload 6, 2) := by decide +kernel
theorem r75_105 {E : Nat → Value} {d : Nat} {st : List Value} {h : gm_H} {r : gm_R × gm_H} {a0 a1 a2 a3 a4 a5 a7 : Value} {x : Int32} : gm_Go E d 75 105 [a0, a1, a2, a3, a4, a5, .int x, a7] st h r ↔ gm_Go E d 75 107 [a0, a1, a2, a3, a4, a5, .int x, a7] (.int x :: st) h r := gr_loc m75 f75_105 rfl rfl
theorem f75_107 : gm_ft 75 107 = some (.invokevirtual 222, 3) := by decide +kernel
theorem n75_107 {st : List Value} {h : gm_H} {E : Nat → Value} {lv : List Value} {b0 : Value} {a : Nat} (hs : (st.map fun v => v.category).sum ≤ 8) (he : (gm_en1 [.ref a, b0]).length ≤ 2) {vs : List Value} (hr : gm_rd h a = some (0, vs)) : gm_next E 75 107 lv (b0 :: .ref a :: st) h = some (.inr (.inl (0, 32, [.ref a, b0], st))) := gn_call m75 f75_107 rfl rfl rfl rfl rfl rfl rfl (gc_virt (bs := [b0]) (w := 348) rfl rfl rfl rfl hs he hr) (by decide)
theorem f75_110 : gm_ft 75 110 = some (.pop, 1) := by decide +kernel
theorem r75_110 {E : Nat → Value} {d : Nat} {st : List Value} {h : gm_H} {r : gm_R × gm_H} {lv : List Value} {x : Int32} : gm_Go E d 75 110 lv (.int x :: st) h r ↔ gm_Go E d 75 111 lv st h r := gr_pure m75 f75_110 rfl
theorem r75_110a {E : Nat → Value} {d : Nat} {st : List Value} {h : gm_H} {r : gm_R × gm_H} {lv : List Value} {a : Nat} : gm_Go E d 75 110 lv (.ref a :: st) h r ↔ gm_Go E d 75 111 lv st h r := gr_pure m75 f75_110 rfl
theorem r75_110n {E : Nat → Value} {d : Nat} {st : List Value} {h : gm_H} {r : gm_R × gm_H} {lv : List Value} : gm_Go E d 75 110 lv (.null :: st) h r ↔ gm_Go E d 75 111 lv st h r := gr_pure m75 f75_110 rfl
theorem f75_111 : gm_ft 75 111 = some (.iconst 0, 1) := by decide +kernel
theorem r75_111 {E : Nat → Value} {d : Nat} {st : List Value} {h : gm_H} {r : gm_R × gm_H} {lv : List Value} : gm_Go E d 75 111 lv st h r ↔ gm_Go E d 75 112 lv (.int (0 : Int32) :: st) h r := gr_pure m75 f75_111 rfl
theorem f75_112 : gm_ft 75 112 = some (.istore 7, 2) := by decide +kernel
theorem r75_112 {E : Nat → Value} {d : Nat} {st : List Value} {h : gm_H} {r : gm_R × gm_H} {a0 a1 a2 a3 a4 a5 a6 a7 : Value} {x : Int32} : gm_Go E d 75 112 [a0, a1, a2, a3, a4, a5, a6, a7] (.int x :: st) h r ↔ gm_Go E d 75 114 [a0, a1, a2, a3, a4, a5, gm_k a6, .int x] st h r := gr_loc m75 f75_112 rfl rfl
theorem f75_114 : gm_ft 75 114 = some (.iload 7, 2) := by decide +kernel
theorem r75_114 {E : Nat → Value} {d : Nat} {st : List Value} {h : gm_H} {r : gm_R × gm_H} {a0 a1 a2 a3 a4 a5 a6 : Value} {x : Int32} : gm_Go E d 75 114 [a0, a1, a2, a3, a4, a5, a6, .int x] st h r ↔ gm_Go E d 75 116 [a0, a1, a2, a3, a4, a5, a6, .int x] (.int x :: st) h r := gr_loc m75 f75_114 rfl rfl
theorem f75_116 : gm_ft 75 116 = some (.iload 4, 2) := by decide +kernel
theorem r75_116 {E : Nat → Value} {d : Nat} {st : List Value} {h : gm_H} {r : gm_R × gm_H} {a0 a1 a2 a3 a5 a6 a7 : Value} {x : Int32} : gm_Go E d 75 116 [a0, a1, a2, a3, .int x, a5, a6, a7] st h r ↔ gm_Go E d 75 118 [a0, a1, a2, a3, .int x, a5, a6, a7] (.int x :: st) h r := gr_loc m75 f75_116 rfl rfl
theorem f75_118 : gm_ft 75 118 = some (.if_icmp .ge 37, 3) := by decide +kernel
theorem r75_118 {E : Nat → Value} {d : Nat} {st : List Value} {h : gm_H} {r : gm_R × gm_H} {lv : List Value} {x y : Int32} : gm_Go E d 75 118 lv (.int y :: .int x :: st) h r ↔ (if y ≤ x then gm_Go E d 75 155 lv st h r else gm_Go E d 75 121 lv st h r) := (gr_br m75 f75_118 rfl rfl rfl rfl).trans gr_if
theorem f75_121 : gm_ft 75 121 = some (.aload 5, 2) := by decide +kernel
theorem r75_121 {E : Nat → Value} {d : Nat} {st : List Value} {h : gm_H} {r : gm_R × gm_H} {a0 a1 a2 a3 a4 a6 a7 : Value} {x : Nat} : gm_Go E d 75 121 [a0, a1, a2, a3, a4, .ref x, a6, a7] st h r ↔ gm_Go E d 75 123 [a0, a1, a2, a3, a4, .ref x, a6, a7] (.ref x :: st) h r := gr_loc m75 f75_121 rfl rfl
theorem r75_121n {E : Nat → Value} {d : Nat} {st : List Value} {h : gm_H} {r : gm_R × gm_H} {a0 a1 a2 a3 a4 a6 a7 : Value}  : gm_Go E d 75 121 [a0, a1, a2, a3, a4, .null, a6, a7] st h r ↔ gm_Go E d 75 123 [a0, a1, a2, a3, a4, .null, a6, a7] (.null :: st) h r := gr_loc m75 f75_121 rfl rfl
theorem f75_123 : gm_ft 75 123 = some (.getfield 147, 3) := by decide +kernel
theorem r75_123 {E : Nat → Value} {d : Nat} {st : List Value} {h : gm_H} {r : gm_R × gm_H} {lv : List Value} {a : Nat} {vs : List Value} {v : Value} (hr : gm_rd h a = some (4, vs)) (hv : vs[2]? = some v) : gm_Go E d 75 123 lv (.ref a :: st) h r ↔ gm_Go E d 75 126 lv (v :: st) h r := gr_rd m75 f75_123 rfl rfl rfl rfl (gf_get k0_147 hr hv)
theorem f75_126 : gm_ft 75 126 = some (.iload 7, 2) := by decide +kernel
theorem r75_126 {E : Nat → Value} {d : Nat} {st : List Value} {h : gm_H} {r : gm_R × gm_H} {a0 a1 a2 a3 a4 a5 a6 : Value} {x : Int32} : gm_Go E d 75 126 [a0, a1, a2, a3, a4, a5, a6, .int x] st h r ↔ gm_Go E d 75 128 [a0, a1, a2, a3, a4, a5, a6, .int x] (.int x :: st) h r := gr_loc m75 f75_126 rfl rfl
theorem f75_128 : gm_ft 75 128 = some (.iload_n 3, 1) := by decide +kernel
theorem r75_128 {E : Nat → Value} {d : Nat} {st : List Value} {h : gm_H} {r : gm_R × gm_H} {a0 a1 a2 a4 a5 a6 a7 : Value} {x : Int32} : gm_Go E d 75 128 [a0, a1, a2, .int x, a4, a5, a6, a7] st h r ↔ gm_Go E d 75 129 [a0, a1, a2, .int x, a4, a5, a6, a7] (.int x :: st) h r := gr_loc m75 f75_128 rfl rfl
theorem f75_129 : gm_ft 75 129 = some (.ifCond .eq 11, 3) := by decide +kernel
theorem r75_129 {E : Nat → Value} {d : Nat} {st : List Value} {h : gm_H} {r : gm_R × gm_H} {lv : List Value} {x : Int32} : gm_Go E d 75 129 lv (.int x :: st) h r ↔ (if x = 0 then gm_Go E d 75 140 lv st h r else gm_Go E d 75 132 lv st h r) := (gr_br m75 f75_129 rfl rfl rfl rfl).trans gr_if
theorem f75_132 : gm_ft 75 132 = some (.aload_n 0, 1) := by decide +kernel
theorem r75_132 {E : Nat → Value} {d : Nat} {st : List Value} {h : gm_H} {r : gm_R × gm_H} {a1 a2 a3 a4 a5 a6 a7 : Value} {x : Nat} : gm_Go E d 75 132 [.ref x, a1, a2, a3, a4, a5, a6, a7] st h r ↔ gm_Go E d 75 133 [.ref x, a1, a2, a3, a4, a5, a6, a7] (.ref x :: st) h r := gr_loc m75 f75_132 rfl rfl
theorem r75_132n {E : Nat → Value} {d : Nat} {st : List Value} {h : gm_H} {r : gm_R × gm_H} {a1 a2 a3 a4 a5 a6 a7 : Value}  : gm_Go E d 75 132 [.null, a1, a2, a3, a4, a5, a6, a7] st h r ↔ gm_Go E d 75 133 [.null, a1, a2, a3, a4, a5, a6, a7] (.null :: st) h r := gr_loc m75 f75_132 rfl rfl
theorem f75_133 : gm_ft 75 133 = some (.invokevirtual 179, 3) := by decide +kernel
theorem n75_133 {st : List Value} {h : gm_H} {E : Nat → Value} {lv : List Value} {a : Nat} (hs : (st.map fun v => v.category).sum ≤ 8) (he : (gm_en1 [.ref a]).length ≤ 1) {vs : List Value} (hr : gm_rd h a = some (0, vs)) : gm_next E 75 133 lv (.ref a :: st) h = some (.inr (.inl (0, 28, [.ref a], st))) := gn_call m75 f75_133 rfl rfl rfl rfl rfl rfl rfl (gc_virt (bs := []) (w := 290) rfl rfl rfl rfl hs he hr) (by decide)
theorem f75_136 : gm_ft 75 136 = some (.i2l, 1) := by decide +kernel
theorem r75_136 {E : Nat → Value} {d : Nat} {st : List Value} {h : gm_H} {r : gm_R × gm_H} {lv : List Value} {x : Int32} : gm_Go E d 75 136 lv (.int x :: st) h r ↔ gm_Go E d 75 137 lv (.long (x.toInt64) :: st) h r := gr_pure m75 f75_136 rfl
theorem f75_137 : gm_ft 75 137 = some (.goto 11, 3) := by decide +kernel
theorem r75_137 {E : Nat → Value} {d : Nat} {st : List Value} {h : gm_H} {r : gm_R × gm_H} {lv : List Value} : gm_Go E d 75 137 lv st h r ↔ gm_Go E d 75 148 lv st h r := gr_brT m75 f75_137 rfl rfl rfl rfl
theorem f75_140 : gm_ft 75 140 = some (.aload_n 0, 1) := by decide +kernel
theorem r75_140 {E : Nat → Value} {d : Nat} {st : List Value} {h : gm_H} {r : gm_R × gm_H} {a1 a2 a3 a4 a5 a6 a7 : Value} {x : Nat} : gm_Go E d 75 140 [.ref x, a1, a2, a3, a4, a5, a6, a7] st h r ↔ gm_Go E d 75 141 [.ref x, a1, a2, a3, a4, a5, a6, a7] (.ref x :: st) h r := gr_loc m75 f75_140 rfl rfl
theorem r75_140n {E : Nat → Value} {d : Nat} {st : List Value} {h : gm_H} {r : gm_R × gm_H} {a1 a2 a3 a4 a5 a6 a7 : Value}  : gm_Go E d 75 140 [.null, a1, a2, a3, a4, a5, a6, a7] st h r ↔ gm_Go E d 75 141 [.null, a1, a2, a3, a4, a5, a6, a7] (.null :: st) h r := gr_loc m75 f75_140 rfl rfl
theorem f75_141 : gm_ft 75 141 = some (.iload_n 1, 1) := by decide +kernel
theorem r75_141 {E : Nat → Value} {d : Nat} {st : List Value} {h : gm_H} {r : gm_R × gm_H} {a0 a2 a3 a4 a5 a6 a7 : Value} {x : Int32} : gm_Go E d 75 141 [a0, .int x, a2, a3, a4, a5, a6, a7] st h r ↔ gm_Go E d 75 142 [a0, .int x, a2, a3, a4, a5, a6, a7] (.int x :: st) h r := gr_loc m75 f75_141 rfl rfl
theorem f75_142 : gm_ft 75 142 = some (.iconst 1, 1) := by decide +kernel
theorem r75_142 {E : Nat → Value} {d : Nat} {st : List Value} {h : gm_H} {r : gm_R × gm_H} {lv : List Value} : gm_Go E d 75 142 lv st h r ↔ gm_Go E d 75 143 lv (.int (1 : Int32) :: st) h r := gr_pure m75 f75_142 rfl
theorem f75_143 : gm_ft 75 143 = some (.iadd, 1) := by decide +kernel
theorem r75_143 {E : Nat → Value} {d : Nat} {st : List Value} {h : gm_H} {r : gm_R × gm_H} {lv : List Value} {x y : Int32} : gm_Go E d 75 143 lv (.int y :: .int x :: st) h r ↔ gm_Go E d 75 144 lv (.int (x + y) :: st) h r := gr_pure m75 f75_143 rfl
theorem f75_144 : gm_ft 75 144 = some (.invokevirtual 182, 3) := by decide +kernel
theorem n75_144 {st : List Value} {h : gm_H} {E : Nat → Value} {lv : List Value} {b0 : Value} {a : Nat} (hs : (st.map fun v => v.category).sum ≤ 8) (he : (gm_en1 [.ref a, b0]).length ≤ 2) {vs : List Value} (hr : gm_rd h a = some (0, vs)) : gm_next E 75 144 lv (b0 :: .ref a :: st) h = some (.inr (.inl (0, 23, [.ref a, b0], st))) := gn_call m75 f75_144 rfl rfl rfl rfl rfl rfl rfl (gc_virt (bs := [b0]) (w := 270) rfl rfl rfl rfl hs he hr) (by decide)
theorem f75_147 : gm_ft 75 147 = some (.i2l, 1) := by decide +kernel
theorem r75_147 {E : Nat → Value} {d : Nat} {st : List Value} {h : gm_H} {r : gm_R × gm_H} {lv : List Value} {x : Int32} : gm_Go E d 75 147 lv (.int x :: st) h r ↔ gm_Go E d 75 148 lv (.long (x.toInt64) :: st) h r := gr_pure m75 f75_147 rfl
theorem f75_148 : gm_ft 75 148 = some (.lastore, 1) := by decide +kernel
theorem r75_148 {E : Nat → Value} {d : Nat} {st : List Value} {h : gm_H} {r : gm_R × gm_H} {lv : List Value} {a k j : Nat} {vs : List Value} {x : Int64} (hr : gm_rd h a = some (k, vs)) (hk : 100 ≤ k ∧ k % 100 = 1 ∧ gm_ko k = 1 ∧ 1 < 3) (hj : j < 2 ^ 31) (hl : j < vs.length) : gm_Go E d 75 148 lv (.long x :: .int (nI j) :: .ref a :: st) h r ↔ gm_Go E d 75 149 lv st (gm_wr h a (k, vs.set j (.long x))) r := gr_wr m75 f75_148 rfl rfl rfl rfl rfl (ga_st hr hk hj hl)
theorem f75_149 : gm_ft 75 149 = some (.iinc 7 1, 3) := by decide +kernel
theorem r75_149 {E : Nat → Value} {d : Nat} {st : List Value} {h : gm_H} {r : gm_R × gm_H} {a0 a1 a2 a3 a4 a5 a6 : Value} {x : Int32} : gm_Go E d 75 149 [a0, a1, a2, a3, a4, a5, a6, .int x] st h r ↔ gm_Go E d 75 152 [a0, a1, a2, a3, a4, a5, gm_k a6, .int (x + (1 : Int32))] st h r := gr_loc m75 f75_149 rfl rfl
theorem f75_152 : gm_ft 75 152 = some (.goto (-38), 3) := by decide +kernel
theorem r75_152 {E : Nat → Value} {d : Nat} {st : List Value} {h : gm_H} {r : gm_R × gm_H} {lv : List Value} : gm_Go E d 75 152 lv st h r ↔ gm_Go E d 75 114 lv st h r := gr_brT m75 f75_152 rfl rfl rfl rfl
theorem f75_155 : gm_ft 75 155 = some (.iload 6, 2) := by decide +kernel
theorem r75_155 {E : Nat → Value} {d : Nat} {st : List Value} {h : gm_H} {r : gm_R × gm_H} {a0 a1 a2 a3 a4 a5 a7 : Value} {x : Int32} : gm_Go E d 75 155 [a0, a1, a2, a3, a4, a5, .int x, a7] st h r ↔ gm_Go E d 75 157 [a0, a1, a2, a3, a4, a5, .int x, a7] (.int x :: st) h r := gr_loc m75 f75_155 rfl rfl
theorem f75_157 : gm_ft 75 157 = some (.ireturn, 1) := by decide +kernel
theorem r75_157 {E : Nat → Value} {d : Nat} {h : gm_H} {r : gm_R × gm_H} {lv : List Value} {x : Int32} : gm_Go E d 75 157 lv [.int x] h r ↔ r = (.inl (some (.int x)), h) := gr_ret m75 f75_157 rfl rfl rfl rfl rfl rfl rfl rfl (by unfold gm_rt; dsimp only; rw [if_pos ⟨rfl, rfl⟩])
/-! GraphReader.isSpelt(IILjava/lang/String;)Z -/
theorem m76 : gm_mt[76]? = some (⟨"GraphReader", "isSpelt", "(IILjava/lang/String;)Z"⟩, prog_1_method_22_code, 5, (some .boolean), [], 0, 1) := rfl
theorem f76_0 : gm_ft 76 0 = some (.iload_n 2, 1) := by decide +kernel
theorem r76_0 {E : Nat → Value} {d : Nat} {st : List Value} {h : gm_H} {r : gm_R × gm_H} {a0 a1 a3 a4 : Value} {x : Int32} : gm_Go E d 76 0 [a0, a1, .int x, a3, a4] st h r ↔ gm_Go E d 76 1 [a0, a1, .int x, a3, a4] (.int x :: st) h r := gr_loc m76 f76_0 rfl rfl
theorem f76_1 : gm_ft 76 1 = some (.aload_n 3, 1) := by decide +kernel
theorem r76_1 {E : Nat → Value} {d : Nat} {st : List Value} {h : gm_H} {r : gm_R × gm_H} {a0 a1 a2 a4 : Value} {x : Nat} : gm_Go E d 76 1 [a0, a1, a2, .ref x, a4] st h r ↔ gm_Go E d 76 2 [a0, a1, a2, .ref x, a4] (.ref x :: st) h r := gr_loc m76 f76_1 rfl rfl
theorem r76_1n {E : Nat → Value} {d : Nat} {st : List Value} {h : gm_H} {r : gm_R × gm_H} {a0 a1 a2 a4 : Value}  : gm_Go E d 76 1 [a0, a1, a2, .null, a4] st h r ↔ gm_Go E d 76 2 [a0, a1, a2, .null, a4] (.null :: st) h r := gr_loc m76 f76_1 rfl rfl
theorem f76_2 : gm_ft 76 2 = some (.invokevirtual 167, 3) := by decide +kernel
theorem n76_2 {st : List Value} {h : gm_H} {E : Nat → Value} {lv : List Value} {a : Nat} (hs : (st.map fun v => v.category).sum ≤ 8) (he : (gm_en1 [.ref a]).length ≤ 1) {vs : List Value} (hr : gm_rd h a = some (6, vs)) : gm_next E 76 2 lv (.ref a :: st) h = some (.inr (.inl (0, 42, [.ref a], st))) := gn_call m76 f76_2 rfl rfl rfl rfl rfl rfl rfl (gc_virt (bs := []) (w := 606) rfl rfl rfl rfl hs he hr) (by decide)
theorem f76_5 : gm_ft 76 5 = some (.if_icmp .eq 5, 3) := by decide +kernel
theorem r76_5 {E : Nat → Value} {d : Nat} {st : List Value} {h : gm_H} {r : gm_R × gm_H} {lv : List Value} {x y : Int32} : gm_Go E d 76 5 lv (.int y :: .int x :: st) h r ↔ (if x = y then gm_Go E d 76 10 lv st h r else gm_Go E d 76 8 lv st h r) := (gr_br m76 f76_5 rfl rfl rfl rfl).trans gr_if
theorem f76_8 : gm_ft 76 8 = some (.iconst 0, 1) := by decide +kernel
theorem r76_8 {E : Nat → Value} {d : Nat} {st : List Value} {h : gm_H} {r : gm_R × gm_H} {lv : List Value} : gm_Go E d 76 8 lv st h r ↔ gm_Go E d 76 9 lv (.int (0 : Int32) :: st) h r := gr_pure m76 f76_8 rfl
theorem f76_9 : gm_ft 76 9 = some (.ireturn, 1) := by decide +kernel
theorem r76_9_0 {E : Nat → Value} {d : Nat} {h : gm_H} {r : gm_R × gm_H} {lv : List Value} : gm_Go E d 76 9 lv [.int (0 : Int32)] h r ↔ r = (.inl (some (.int (0 : Int32))), h) := gr_ret m76 f76_9 rfl rfl rfl rfl rfl rfl rfl rfl (by unfold gm_rt; dsimp only; rw [if_pos ⟨rfl, rfl⟩])
theorem r76_9_1 {E : Nat → Value} {d : Nat} {h : gm_H} {r : gm_R × gm_H} {lv : List Value} : gm_Go E d 76 9 lv [.int (1 : Int32)] h r ↔ r = (.inl (some (.int (1 : Int32))), h) := gr_ret m76 f76_9 rfl rfl rfl rfl rfl rfl rfl rfl (by unfold gm_rt; dsimp only; rw [if_pos ⟨rfl, rfl⟩])
theorem f76_10 : gm_ft 76 10 = some (.iconst 0, 1) := by decide +kernel
theorem r76_10 {E : Nat → Value} {d : Nat} {st : List Value} {h : gm_H} {r : gm_R × gm_H} {lv : List Value} : gm_Go E d 76 10 lv st h r ↔ gm_Go E d 76 11 lv (.int (0 : Int32) :: st) h r := gr_pure m76 f76_10 rfl
theorem f76_11 : gm_ft 76 11 = some (.istore 4, 2) := by decide +kernel
theorem r76_11 {E : Nat → Value} {d : Nat} {st : List Value} {h : gm_H} {r : gm_R × gm_H} {a0 a1 a2 a3 a4 : Value} {x : Int32} : gm_Go E d 76 11 [a0, a1, a2, a3, a4] (.int x :: st) h r ↔ gm_Go E d 76 13 [a0, a1, a2, gm_k a3, .int x] st h r := gr_loc m76 f76_11 rfl rfl
theorem f76_13 : gm_ft 76 13 = some (.iload 4, 2) := by decide +kernel
theorem r76_13 {E : Nat → Value} {d : Nat} {st : List Value} {h : gm_H} {r : gm_R × gm_H} {a0 a1 a2 a3 : Value} {x : Int32} : gm_Go E d 76 13 [a0, a1, a2, a3, .int x] st h r ↔ gm_Go E d 76 15 [a0, a1, a2, a3, .int x] (.int x :: st) h r := gr_loc m76 f76_13 rfl rfl
theorem f76_15 : gm_ft 76 15 = some (.iload_n 2, 1) := by decide +kernel
theorem r76_15 {E : Nat → Value} {d : Nat} {st : List Value} {h : gm_H} {r : gm_R × gm_H} {a0 a1 a3 a4 : Value} {x : Int32} : gm_Go E d 76 15 [a0, a1, .int x, a3, a4] st h r ↔ gm_Go E d 76 16 [a0, a1, .int x, a3, a4] (.int x :: st) h r := gr_loc m76 f76_15 rfl rfl
theorem f76_16 : gm_ft 76 16 = some (.if_icmp .ge 29, 3) := by decide +kernel
theorem r76_16 {E : Nat → Value} {d : Nat} {st : List Value} {h : gm_H} {r : gm_R × gm_H} {lv : List Value} {x y : Int32} : gm_Go E d 76 16 lv (.int y :: .int x :: st) h r ↔ (if y ≤ x then gm_Go E d 76 45 lv st h r else gm_Go E d 76 19 lv st h r) := (gr_br m76 f76_16 rfl rfl rfl rfl).trans gr_if
theorem f76_19 : gm_ft 76 19 = some (.aload_n 0, 1) := by decide +kernel
theorem r76_19 {E : Nat → Value} {d : Nat} {st : List Value} {h : gm_H} {r : gm_R × gm_H} {a1 a2 a3 a4 : Value} {x : Nat} : gm_Go E d 76 19 [.ref x, a1, a2, a3, a4] st h r ↔ gm_Go E d 76 20 [.ref x, a1, a2, a3, a4] (.ref x :: st) h r := gr_loc m76 f76_19 rfl rfl
theorem r76_19n {E : Nat → Value} {d : Nat} {st : List Value} {h : gm_H} {r : gm_R × gm_H} {a1 a2 a3 a4 : Value}  : gm_Go E d 76 19 [.null, a1, a2, a3, a4] st h r ↔ gm_Go E d 76 20 [.null, a1, a2, a3, a4] (.null :: st) h r := gr_loc m76 f76_19 rfl rfl
theorem f76_20 : gm_ft 76 20 = some (.getfield 15, 3) := by decide +kernel
theorem r76_20 {E : Nat → Value} {d : Nat} {st : List Value} {h : gm_H} {r : gm_R × gm_H} {lv : List Value} {a : Nat} {vs : List Value} {v : Value} (hr : gm_rd h a = some (0, vs)) (hv : vs[5]? = some v) : gm_Go E d 76 20 lv (.ref a :: st) h r ↔ gm_Go E d 76 23 lv (v :: st) h r := gr_rd m76 f76_20 rfl rfl rfl rfl (gf_get k0_15 hr hv)
theorem f76_23 : gm_ft 76 23 = some (.iload_n 1, 1) := by decide +kernel
theorem r76_23 {E : Nat → Value} {d : Nat} {st : List Value} {h : gm_H} {r : gm_R × gm_H} {a0 a2 a3 a4 : Value} {x : Int32} : gm_Go E d 76 23 [a0, .int x, a2, a3, a4] st h r ↔ gm_Go E d 76 24 [a0, .int x, a2, a3, a4] (.int x :: st) h r := gr_loc m76 f76_23 rfl rfl
theorem f76_24 : gm_ft 76 24 = some (.iload 4, 2) := by decide +kernel
theorem r76_24 {E : Nat → Value} {d : Nat} {st : List Value} {h : gm_H} {r : gm_R × gm_H} {a0 a1 a2 a3 : Value} {x : Int32} : gm_Go E d 76 24 [a0, a1, a2, a3, .int x] st h r ↔ gm_Go E d 76 26 [a0, a1, a2, a3, .int x] (.int x :: st) h r := gr_loc m76 f76_24 rfl rfl
theorem f76_26 : gm_ft 76 26 = some (.iadd, 1) := by decide +kernel
theorem r76_26 {E : Nat → Value} {d : Nat} {st : List Value} {h : gm_H} {r : gm_R × gm_H} {lv : List Value} {x y : Int32} : gm_Go E d 76 26 lv (.int y :: .int x :: st) h r ↔ gm_Go E d 76 27 lv (.int (x + y) :: st) h r := gr_pure m76 f76_26 rfl
theorem f76_27 : gm_ft 76 27 = some (.baload, 1) := by decide +kernel
theorem r76_27 {E : Nat → Value} {d : Nat} {st : List Value} {h : gm_H} {r : gm_R × gm_H} {lv : List Value} {a k j : Nat} {vs : List Value} {v : Value} (hr : gm_rd h a = some (k, vs)) (hk : 100 ≤ k ∧ (fun t => t == 2 || t == 3) (k % 100) = true) (hj : j < 2 ^ 31) (hv : vs[j]? = some v) : gm_Go E d 76 27 lv (.int (nI j) :: .ref a :: st) h r ↔ gm_Go E d 76 28 lv (v :: st) h r := gr_rd m76 f76_27 rfl rfl rfl rfl (ga_ld (P := fun t => t == 2 || t == 3) hr hk hj hv)
theorem f76_28 : gm_ft 76 28 = some (.aload_n 3, 1) := by decide +kernel
theorem r76_28 {E : Nat → Value} {d : Nat} {st : List Value} {h : gm_H} {r : gm_R × gm_H} {a0 a1 a2 a4 : Value} {x : Nat} : gm_Go E d 76 28 [a0, a1, a2, .ref x, a4] st h r ↔ gm_Go E d 76 29 [a0, a1, a2, .ref x, a4] (.ref x :: st) h r := gr_loc m76 f76_28 rfl rfl
theorem r76_28n {E : Nat → Value} {d : Nat} {st : List Value} {h : gm_H} {r : gm_R × gm_H} {a0 a1 a2 a4 : Value}  : gm_Go E d 76 28 [a0, a1, a2, .null, a4] st h r ↔ gm_Go E d 76 29 [a0, a1, a2, .null, a4] (.null :: st) h r := gr_loc m76 f76_28 rfl rfl
theorem f76_29 : gm_ft 76 29 = some (.iload 4, 2) := by decide +kernel
theorem r76_29 {E : Nat → Value} {d : Nat} {st : List Value} {h : gm_H} {r : gm_R × gm_H} {a0 a1 a2 a3 : Value} {x : Int32} : gm_Go E d 76 29 [a0, a1, a2, a3, .int x] st h r ↔ gm_Go E d 76 31 [a0, a1, a2, a3, .int x] (.int x :: st) h r := gr_loc m76 f76_29 rfl rfl
theorem f76_31 : gm_ft 76 31 = some (.invokevirtual 172, 3) := by decide +kernel
theorem n76_31 {st : List Value} {h : gm_H} {E : Nat → Value} {lv : List Value} {b0 : Value} {a : Nat} (hs : (st.map fun v => v.category).sum ≤ 8) (he : (gm_en1 [.ref a, b0]).length ≤ 2) {vs : List Value} (hr : gm_rd h a = some (6, vs)) : gm_next E 76 31 lv (b0 :: .ref a :: st) h = some (.inr (.inl (0, 77, [.ref a, b0], st))) := gn_call m76 f76_31 rfl rfl rfl rfl rfl rfl rfl (gc_virt (bs := [b0]) (w := 607) rfl rfl rfl rfl hs he hr) (by decide)
theorem f76_34 : gm_ft 76 34 = some (.if_icmp .eq 5, 3) := by decide +kernel
theorem r76_34 {E : Nat → Value} {d : Nat} {st : List Value} {h : gm_H} {r : gm_R × gm_H} {lv : List Value} {x y : Int32} : gm_Go E d 76 34 lv (.int y :: .int x :: st) h r ↔ (if x = y then gm_Go E d 76 39 lv st h r else gm_Go E d 76 37 lv st h r) := (gr_br m76 f76_34 rfl rfl rfl rfl).trans gr_if
theorem f76_37 : gm_ft 76 37 = some (.iconst 0, 1) := by decide +kernel
theorem r76_37 {E : Nat → Value} {d : Nat} {st : List Value} {h : gm_H} {r : gm_R × gm_H} {lv : List Value} : gm_Go E d 76 37 lv st h r ↔ gm_Go E d 76 38 lv (.int (0 : Int32) :: st) h r := gr_pure m76 f76_37 rfl
theorem f76_38 : gm_ft 76 38 = some (.ireturn, 1) := by decide +kernel
theorem r76_38_0 {E : Nat → Value} {d : Nat} {h : gm_H} {r : gm_R × gm_H} {lv : List Value} : gm_Go E d 76 38 lv [.int (0 : Int32)] h r ↔ r = (.inl (some (.int (0 : Int32))), h) := gr_ret m76 f76_38 rfl rfl rfl rfl rfl rfl rfl rfl (by unfold gm_rt; dsimp only; rw [if_pos ⟨rfl, rfl⟩])
theorem r76_38_1 {E : Nat → Value} {d : Nat} {h : gm_H} {r : gm_R × gm_H} {lv : List Value} : gm_Go E d 76 38 lv [.int (1 : Int32)] h r ↔ r = (.inl (some (.int (1 : Int32))), h) := gr_ret m76 f76_38 rfl rfl rfl rfl rfl rfl rfl rfl (by unfold gm_rt; dsimp only; rw [if_pos ⟨rfl, rfl⟩])
theorem f76_39 : gm_ft 76 39 = some (.iinc 4 1, 3) := by decide +kernel
theorem r76_39 {E : Nat → Value} {d : Nat} {st : List Value} {h : gm_H} {r : gm_R × gm_H} {a0 a1 a2 a3 : Value} {x : Int32} : gm_Go E d 76 39 [a0, a1, a2, a3, .int x] st h r ↔ gm_Go E d 76 42 [a0, a1, a2, gm_k a3, .int (x + (1 : Int32))] st h r := gr_loc m76 f76_39 rfl rfl
theorem f76_42 : gm_ft 76 42 = some (.goto (-29), 3) := by decide +kernel
theorem r76_42 {E : Nat → Value} {d : Nat} {st : List Value} {h : gm_H} {r : gm_R × gm_H} {lv : List Value} : gm_Go E d 76 42 lv st h r ↔ gm_Go E d 76 13 lv st h r := gr_brT m76 f76_42 rfl rfl rfl rfl
theorem f76_45 : gm_ft 76 45 = some (.iconst 1, 1) := by decide +kernel
theorem r76_45 {E : Nat → Value} {d : Nat} {st : List Value} {h : gm_H} {r : gm_R × gm_H} {lv : List Value} : gm_Go E d 76 45 lv st h r ↔ gm_Go E d 76 46 lv (.int (1 : Int32) :: st) h r := gr_pure m76 f76_45 rfl
theorem f76_46 : gm_ft 76 46 = some (.ireturn, 1) := by decide +kernel
theorem r76_46_0 {E : Nat → Value} {d : Nat} {h : gm_H} {r : gm_R × gm_H} {lv : List Value} : gm_Go E d 76 46 lv [.int (0 : Int32)] h r ↔ r = (.inl (some (.int (0 : Int32))), h) := gr_ret m76 f76_46 rfl rfl rfl rfl rfl rfl rfl rfl (by unfold gm_rt; dsimp only; rw [if_pos ⟨rfl, rfl⟩])
theorem r76_46_1 {E : Nat → Value} {d : Nat} {h : gm_H} {r : gm_R × gm_H} {lv : List Value} : gm_Go E d 76 46 lv [.int (1 : Int32)] h r ↔ r = (.inl (some (.int (1 : Int32))), h) := gr_ret m76 f76_46 rfl rfl rfl rfl rfl rfl rfl rfl (by unfold gm_rt; dsimp only; rw [if_pos ⟨rfl, rfl⟩])
/-! java/lang/String.charAt(I)C -/
theorem m77 : gm_mt[77]? = some (⟨"java/lang/String", "charAt", "(I)C"⟩, prog_13_method_56_code, 2, (some .char), [], 6, 3) := rfl
theorem f77_0 : gm_ft 77 0 = some (.aload_n 0, 1) := by decide +kernel
theorem r77_0 {E : Nat → Value} {d : Nat} {st : List Value} {h : gm_H} {r : gm_R × gm_H} {a1 : Value} {x : Nat} : gm_Go E d 77 0 [.ref x, a1] st h r ↔ gm_Go E d 77 1 [.ref x, a1] (.ref x :: st) h r := gr_loc m77 f77_0 rfl rfl
theorem r77_0n {E : Nat → Value} {d : Nat} {st : List Value} {h : gm_H} {r : gm_R × gm_H} {a1 : Value}  : gm_Go E d 77 0 [.null, a1] st h r ↔ gm_Go E d 77 1 [.null, a1] (.null :: st) h r := gr_loc m77 f77_0 rfl rfl
theorem f77_1 : gm_ft 77 1 = some (.invokevirtual 492, 3) := by decide +kernel
theorem n77_1 {st : List Value} {h : gm_H} {E : Nat → Value} {lv : List Value} {a : Nat} (hs : (st.map fun v => v.category).sum ≤ 8) (he : (gm_en1 [.ref a]).length ≤ 1) {vs : List Value} (hr : gm_rd h a = some (6, vs)) : gm_next E 77 1 lv (.ref a :: st) h = some (.inr (.inl (0, 41, [.ref a], st))) := gn_call m77 f77_1 rfl rfl rfl rfl rfl rfl rfl (gc_virt (bs := []) (w := 386) rfl rfl rfl rfl hs he hr) (by decide)
theorem f77_4 : gm_ft 77 4 = some (.ifCond .eq 12, 3) := by decide +kernel
theorem r77_4 {E : Nat → Value} {d : Nat} {st : List Value} {h : gm_H} {r : gm_R × gm_H} {lv : List Value} {x : Int32} : gm_Go E d 77 4 lv (.int x :: st) h r ↔ (if x = 0 then gm_Go E d 77 16 lv st h r else gm_Go E d 77 7 lv st h r) := (gr_br m77 f77_4 rfl rfl rfl rfl).trans gr_if
theorem f77_7 : gm_ft 77 7 = some (.aload_n 0, 1) := by decide +kernel
theorem r77_7 {E : Nat → Value} {d : Nat} {st : List Value} {h : gm_H} {r : gm_R × gm_H} {a1 : Value} {x : Nat} : gm_Go E d 77 7 [.ref x, a1] st h r ↔ gm_Go E d 77 8 [.ref x, a1] (.ref x :: st) h r := gr_loc m77 f77_7 rfl rfl
theorem r77_7n {E : Nat → Value} {d : Nat} {st : List Value} {h : gm_H} {r : gm_R × gm_H} {a1 : Value}  : gm_Go E d 77 7 [.null, a1] st h r ↔ gm_Go E d 77 8 [.null, a1] (.null :: st) h r := gr_loc m77 f77_7 rfl rfl
theorem f77_8 : gm_ft 77 8 = some (.getfield 9, 3) := by decide +kernel
theorem r77_8 {E : Nat → Value} {d : Nat} {st : List Value} {h : gm_H} {r : gm_R × gm_H} {lv : List Value} {a : Nat} {vs : List Value} {v : Value} (hr : gm_rd h a = some (6, vs)) (hv : vs[0]? = some v) : gm_Go E d 77 8 lv (.ref a :: st) h r ↔ gm_Go E d 77 11 lv (v :: st) h r := gr_rd m77 f77_8 rfl rfl rfl rfl (gf_get k6_9 hr hv)
theorem f77_11 : gm_ft 77 11 = some (.iload_n 1, 1) := by decide +kernel
theorem r77_11 {E : Nat → Value} {d : Nat} {st : List Value} {h : gm_H} {r : gm_R × gm_H} {a0 : Value} {x : Int32} : gm_Go E d 77 11 [a0, .int x] st h r ↔ gm_Go E d 77 12 [a0, .int x] (.int x :: st) h r := gr_loc m77 f77_11 rfl rfl
theorem f77_12 : gm_ft 77 12 = some (.invokestatic 495, 3) := by decide +kernel
theorem n77_12 {st : List Value} {h : gm_H} {E : Nat → Value} {lv : List Value} {b0 b1 : Value} (hs : (st.map fun v => v.category).sum ≤ 8) (he : (gm_en1 [b0, b1]).length ≤ 2) : gm_next E 77 12 lv (b1 :: b0 :: st) h = some (.inr (.inl (1, 78, [b0, b1], st))) := gn_call m77 f77_12 rfl rfl rfl rfl rfl rfl rfl (gc_stat (bs := [b1, b0]) (w := 611) rfl rfl rfl hs he) (by decide)
theorem f77_15 : gm_ft 77 15 = some (.ireturn, 1) := by decide +kernel
theorem r77_15 {E : Nat → Value} {d : Nat} {h : gm_H} {r : gm_R × gm_H} {lv : List Value} {x : Int32} (hx : narrow .char (.int x) = .int x) : gm_Go E d 77 15 lv [.int x] h r ↔ r = (.inl (some (.int x)), h) := gr_ret m77 f77_15 rfl rfl rfl rfl rfl rfl rfl rfl (by unfold gm_rt; dsimp only; rw [if_pos ⟨rfl, hx⟩])
theorem f77_16 : gm_ft 77 16 = some (.aload_n 0, 1) := by decide +kernel
theorem r77_16 {E : Nat → Value} {d : Nat} {st : List Value} {h : gm_H} {r : gm_R × gm_H} {a1 : Value} {x : Nat} : gm_Go E d 77 16 [.ref x, a1] st h r ↔ gm_Go E d 77 17 [.ref x, a1] (.ref x :: st) h r := gr_loc m77 f77_16 rfl rfl
theorem r77_16n {E : Nat → Value} {d : Nat} {st : List Value} {h : gm_H} {r : gm_R × gm_H} {a1 : Value}  : gm_Go E d 77 16 [.null, a1] st h r ↔ gm_Go E d 77 17 [.null, a1] (.null :: st) h r := gr_loc m77 f77_16 rfl rfl
theorem f77_17 : gm_ft 77 17 = some (.getfield 9, 3) := by decide +kernel
theorem r77_17 {E : Nat → Value} {d : Nat} {st : List Value} {h : gm_H} {r : gm_R × gm_H} {lv : List Value} {a : Nat} {vs : List Value} {v : Value} (hr : gm_rd h a = some (6, vs)) (hv : vs[0]? = some v) : gm_Go E d 77 17 lv (.ref a :: st) h r ↔ gm_Go E d 77 20 lv (v :: st) h r := gr_rd m77 f77_17 rfl rfl rfl rfl (gf_get k6_9 hr hv)
theorem f77_20 : gm_ft 77 20 = some (.iload_n 1, 1) := by decide +kernel
theorem r77_20 {E : Nat → Value} {d : Nat} {st : List Value} {h : gm_H} {r : gm_R × gm_H} {a0 : Value} {x : Int32} : gm_Go E d 77 20 [a0, .int x] st h r ↔ gm_Go E d 77 21 [a0, .int x] (.int x :: st) h r := gr_loc m77 f77_20 rfl rfl
theorem f77_21 : gm_ft 77 21 = some (.invokestatic 498, 3) := by decide +kernel
theorem f77_24 : gm_ft 77 24 = some (.ireturn, 1) := by decide +kernel
theorem r77_24 {E : Nat → Value} {d : Nat} {h : gm_H} {r : gm_R × gm_H} {lv : List Value} {x : Int32} (hx : narrow .char (.int x) = .int x) : gm_Go E d 77 24 lv [.int x] h r ↔ r = (.inl (some (.int x)), h) := gr_ret m77 f77_24 rfl rfl rfl rfl rfl rfl rfl rfl (by unfold gm_rt; dsimp only; rw [if_pos ⟨rfl, hx⟩])
/-! java/lang/StringLatin1.charAt([BI)C -/
theorem m78 : gm_mt[78]? = some (⟨"java/lang/StringLatin1", "charAt", "([BI)C"⟩, prog_14_method_2_code, 2, (some .char), [], 9, 3) := rfl
theorem f78_0 : gm_ft 78 0 = some (.iload_n 1, 1) := by decide +kernel
theorem r78_0 {E : Nat → Value} {d : Nat} {st : List Value} {h : gm_H} {r : gm_R × gm_H} {a0 : Value} {x : Int32} : gm_Go E d 78 0 [a0, .int x] st h r ↔ gm_Go E d 78 1 [a0, .int x] (.int x :: st) h r := gr_loc m78 f78_0 rfl rfl
theorem f78_1 : gm_ft 78 1 = some (.aload_n 0, 1) := by decide +kernel
theorem r78_1 {E : Nat → Value} {d : Nat} {st : List Value} {h : gm_H} {r : gm_R × gm_H} {a1 : Value} {x : Nat} : gm_Go E d 78 1 [.ref x, a1] st h r ↔ gm_Go E d 78 2 [.ref x, a1] (.ref x :: st) h r := gr_loc m78 f78_1 rfl rfl
theorem r78_1n {E : Nat → Value} {d : Nat} {st : List Value} {h : gm_H} {r : gm_R × gm_H} {a1 : Value}  : gm_Go E d 78 1 [.null, a1] st h r ↔ gm_Go E d 78 2 [.null, a1] (.null :: st) h r := gr_loc m78 f78_1 rfl rfl
theorem f78_2 : gm_ft 78 2 = some (.arraylength, 1) := by decide +kernel
theorem r78_2 {E : Nat → Value} {d : Nat} {st : List Value} {h : gm_H} {r : gm_R × gm_H} {lv : List Value} {a k : Nat} {vs : List Value} (hr : gm_rd h a = some (k, vs)) (hk : 100 ≤ k) : gm_Go E d 78 2 lv (.ref a :: st) h r ↔ gm_Go E d 78 3 lv (.int (nI vs.length) :: st) h r := gr_rd m78 f78_2 rfl rfl rfl rfl (ga_len hr hk)
theorem f78_3 : gm_ft 78 3 = some (.invokestatic 9, 3) := by decide +kernel
theorem n78_3 {st : List Value} {h : gm_H} {E : Nat → Value} {lv : List Value} {b0 b1 : Value} (hs : (st.map fun v => v.category).sum ≤ 8) (he : (gm_en1 [b0, b1]).length ≤ 2) : gm_next E 78 3 lv (b1 :: b0 :: st) h = some (.inr (.inl (1, 79, [b0, b1], st))) := gn_call m78 f78_3 rfl rfl rfl rfl rfl rfl rfl (gc_stat (bs := [b1, b0]) (w := 614) rfl rfl rfl hs he) (by decide)
theorem f78_6 : gm_ft 78 6 = some (.aload_n 0, 1) := by decide +kernel
theorem r78_6 {E : Nat → Value} {d : Nat} {st : List Value} {h : gm_H} {r : gm_R × gm_H} {a1 : Value} {x : Nat} : gm_Go E d 78 6 [.ref x, a1] st h r ↔ gm_Go E d 78 7 [.ref x, a1] (.ref x :: st) h r := gr_loc m78 f78_6 rfl rfl
theorem r78_6n {E : Nat → Value} {d : Nat} {st : List Value} {h : gm_H} {r : gm_R × gm_H} {a1 : Value}  : gm_Go E d 78 6 [.null, a1] st h r ↔ gm_Go E d 78 7 [.null, a1] (.null :: st) h r := gr_loc m78 f78_6 rfl rfl
theorem f78_7 : gm_ft 78 7 = some (.iload_n 1, 1) := by decide +kernel
theorem r78_7 {E : Nat → Value} {d : Nat} {st : List Value} {h : gm_H} {r : gm_R × gm_H} {a0 : Value} {x : Int32} : gm_Go E d 78 7 [a0, .int x] st h r ↔ gm_Go E d 78 8 [a0, .int x] (.int x :: st) h r := gr_loc m78 f78_7 rfl rfl
theorem f78_8 : gm_ft 78 8 = some (.baload, 1) := by decide +kernel
theorem r78_8 {E : Nat → Value} {d : Nat} {st : List Value} {h : gm_H} {r : gm_R × gm_H} {lv : List Value} {a k j : Nat} {vs : List Value} {v : Value} (hr : gm_rd h a = some (k, vs)) (hk : 100 ≤ k ∧ (fun t => t == 2 || t == 3) (k % 100) = true) (hj : j < 2 ^ 31) (hv : vs[j]? = some v) : gm_Go E d 78 8 lv (.int (nI j) :: .ref a :: st) h r ↔ gm_Go E d 78 9 lv (v :: st) h r := gr_rd m78 f78_8 rfl rfl rfl rfl (ga_ld (P := fun t => t == 2 || t == 3) hr hk hj hv)
theorem f78_9 : gm_ft 78 9 = some (.sipush 255, 3) := by decide +kernel
theorem r78_9 {E : Nat → Value} {d : Nat} {st : List Value} {h : gm_H} {r : gm_R × gm_H} {lv : List Value} : gm_Go E d 78 9 lv st h r ↔ gm_Go E d 78 12 lv (.int (255 : Int32) :: st) h r := gr_pure m78 f78_9 rfl
theorem f78_12 : gm_ft 78 12 = some (.iand, 1) := by decide +kernel
theorem r78_12 {E : Nat → Value} {d : Nat} {st : List Value} {h : gm_H} {r : gm_R × gm_H} {lv : List Value} {x y : Int32} : gm_Go E d 78 12 lv (.int y :: .int x :: st) h r ↔ gm_Go E d 78 13 lv (.int (x &&& y) :: st) h r := gr_pure m78 f78_12 rfl
theorem f78_13 : gm_ft 78 13 = some (.i2c, 1) := by decide +kernel
theorem r78_13 {E : Nat → Value} {d : Nat} {st : List Value} {h : gm_H} {r : gm_R × gm_H} {lv : List Value} {x : Int32} : gm_Go E d 78 13 lv (.int x :: st) h r ↔ gm_Go E d 78 14 lv (.int ((x.toUInt32 % 65536).toInt32) :: st) h r := gr_pure m78 f78_13 rfl
theorem f78_14 : gm_ft 78 14 = some (.ireturn, 1) := by decide +kernel
theorem r78_14 {E : Nat → Value} {d : Nat} {h : gm_H} {r : gm_R × gm_H} {lv : List Value} {x : Int32} (hx : narrow .char (.int x) = .int x) : gm_Go E d 78 14 lv [.int x] h r ↔ r = (.inl (some (.int x)), h) := gr_ret m78 f78_14 rfl rfl rfl rfl rfl rfl rfl rfl (by unfold gm_rt; dsimp only; rw [if_pos ⟨rfl, hx⟩])
/-! java/lang/String.checkIndex(II)V -/
theorem m79 : gm_mt[79]? = some (⟨"java/lang/String", "checkIndex", "(II)V"⟩, prog_13_method_155_code, 2, none, [], 6, 3) := rfl
theorem f79_0 : gm_ft 79 0 = some (.iload_n 0, 1) := by decide +kernel
theorem r79_0 {E : Nat → Value} {d : Nat} {st : List Value} {h : gm_H} {r : gm_R × gm_H} {a1 : Value} {x : Int32} : gm_Go E d 79 0 [.int x, a1] st h r ↔ gm_Go E d 79 1 [.int x, a1] (.int x :: st) h r := gr_loc m79 f79_0 rfl rfl
theorem f79_1 : gm_ft 79 1 = some (.iload_n 1, 1) := by decide +kernel
theorem r79_1 {E : Nat → Value} {d : Nat} {st : List Value} {h : gm_H} {r : gm_R × gm_H} {a0 : Value} {x : Int32} : gm_Go E d 79 1 [a0, .int x] st h r ↔ gm_Go E d 79 2 [a0, .int x] (.int x :: st) h r := gr_loc m79 f79_1 rfl rfl
theorem f79_2 : gm_ft 79 2 = some (.getstatic 1053, 3) := by decide +kernel
theorem r79_2 {E : Nat → Value} {d : Nat} {st : List Value} {h : gm_H} {r : gm_R × gm_H} {lv : List Value} : gm_Go E d 79 2 lv st h r ↔ gm_Go E d 79 5 lv (E 1 :: st) h r := gr_rd m79 f79_2 rfl rfl rfl rfl rfl
theorem f79_5 : gm_ft 79 5 = some (.invokestatic 1059, 3) := by decide +kernel
theorem n79_5 {st : List Value} {h : gm_H} {E : Nat → Value} {lv : List Value} {b0 b1 b2 : Value} (hs : (st.map fun v => v.category).sum ≤ 8) (he : (gm_en1 [b0, b1, b2]).length ≤ 3) : gm_next E 79 5 lv (b2 :: b1 :: b0 :: st) h = some (.inr (.inl (1, 80, [b0, b1, b2], st))) := gn_call m79 f79_5 rfl rfl rfl rfl rfl rfl rfl (gc_stat (bs := [b2, b1, b0]) (w := 617) rfl rfl rfl hs he) (by decide)
theorem f79_8 : gm_ft 79 8 = some (.pop, 1) := by decide +kernel
theorem r79_8 {E : Nat → Value} {d : Nat} {st : List Value} {h : gm_H} {r : gm_R × gm_H} {lv : List Value} {x : Int32} : gm_Go E d 79 8 lv (.int x :: st) h r ↔ gm_Go E d 79 9 lv st h r := gr_pure m79 f79_8 rfl
theorem r79_8a {E : Nat → Value} {d : Nat} {st : List Value} {h : gm_H} {r : gm_R × gm_H} {lv : List Value} {a : Nat} : gm_Go E d 79 8 lv (.ref a :: st) h r ↔ gm_Go E d 79 9 lv st h r := gr_pure m79 f79_8 rfl
theorem r79_8n {E : Nat → Value} {d : Nat} {st : List Value} {h : gm_H} {r : gm_R × gm_H} {lv : List Value} : gm_Go E d 79 8 lv (.null :: st) h r ↔ gm_Go E d 79 9 lv st h r := gr_pure m79 f79_8 rfl
theorem f79_9 : gm_ft 79 9 = some (.return_, 1) := by decide +kernel
theorem r79_9 {E : Nat → Value} {d : Nat} {h : gm_H} {r : gm_R × gm_H} {lv : List Value} : gm_Go E d 79 9 lv [] h r ↔ r = (.inl none, h) := gr_ret m79 f79_9 rfl rfl rfl rfl rfl rfl rfl rfl rfl
/-! jdk/internal/util/Preconditions.checkIndex(IILjava/util/function/BiFunction;)I -/
theorem m80 : gm_mt[80]? = some (⟨"jdk/internal/util/Preconditions", "checkIndex", "(IILjava/util/function/BiFunction;)I"⟩, prog_17_method_11_code, 3, (some .int), [], 10, 3) := rfl
theorem f80_0 : gm_ft 80 0 = some (.iload_n 0, 1) := by decide +kernel
theorem r80_0 {E : Nat → Value} {d : Nat} {st : List Value} {h : gm_H} {r : gm_R × gm_H} {a1 a2 : Value} {x : Int32} : gm_Go E d 80 0 [.int x, a1, a2] st h r ↔ gm_Go E d 80 1 [.int x, a1, a2] (.int x :: st) h r := gr_loc m80 f80_0 rfl rfl
theorem f80_1 : gm_ft 80 1 = some (.ifCond .lt 8, 3) := by decide +kernel
theorem r80_1 {E : Nat → Value} {d : Nat} {st : List Value} {h : gm_H} {r : gm_R × gm_H} {lv : List Value} {x : Int32} : gm_Go E d 80 1 lv (.int x :: st) h r ↔ (if x < 0 then gm_Go E d 80 9 lv st h r else gm_Go E d 80 4 lv st h r) := (gr_br m80 f80_1 rfl rfl rfl rfl).trans gr_if
theorem f80_4 : gm_ft 80 4 = some (.iload_n 0, 1) := by decide +kernel
theorem r80_4 {E : Nat → Value} {d : Nat} {st : List Value} {h : gm_H} {r : gm_R × gm_H} {a1 a2 : Value} {x : Int32} : gm_Go E d 80 4 [.int x, a1, a2] st h r ↔ gm_Go E d 80 5 [.int x, a1, a2] (.int x :: st) h r := gr_loc m80 f80_4 rfl rfl
theorem f80_5 : gm_ft 80 5 = some (.iload_n 1, 1) := by decide +kernel
theorem r80_5 {E : Nat → Value} {d : Nat} {st : List Value} {h : gm_H} {r : gm_R × gm_H} {a0 a2 : Value} {x : Int32} : gm_Go E d 80 5 [a0, .int x, a2] st h r ↔ gm_Go E d 80 6 [a0, .int x, a2] (.int x :: st) h r := gr_loc m80 f80_5 rfl rfl
theorem f80_6 : gm_ft 80 6 = some (.if_icmp .lt 10, 3) := by decide +kernel
theorem r80_6 {E : Nat → Value} {d : Nat} {st : List Value} {h : gm_H} {r : gm_R × gm_H} {lv : List Value} {x y : Int32} : gm_Go E d 80 6 lv (.int y :: .int x :: st) h r ↔ (if x < y then gm_Go E d 80 16 lv st h r else gm_Go E d 80 9 lv st h r) := (gr_br m80 f80_6 rfl rfl rfl rfl).trans gr_if
theorem f80_9 : gm_ft 80 9 = some (.aload_n 2, 1) := by decide +kernel
theorem r80_9 {E : Nat → Value} {d : Nat} {st : List Value} {h : gm_H} {r : gm_R × gm_H} {a0 a1 : Value} {x : Nat} : gm_Go E d 80 9 [a0, a1, .ref x] st h r ↔ gm_Go E d 80 10 [a0, a1, .ref x] (.ref x :: st) h r := gr_loc m80 f80_9 rfl rfl
theorem r80_9n {E : Nat → Value} {d : Nat} {st : List Value} {h : gm_H} {r : gm_R × gm_H} {a0 a1 : Value}  : gm_Go E d 80 9 [a0, a1, .null] st h r ↔ gm_Go E d 80 10 [a0, a1, .null] (.null :: st) h r := gr_loc m80 f80_9 rfl rfl
theorem f80_10 : gm_ft 80 10 = some (.iload_n 0, 1) := by decide +kernel
theorem r80_10 {E : Nat → Value} {d : Nat} {st : List Value} {h : gm_H} {r : gm_R × gm_H} {a1 a2 : Value} {x : Int32} : gm_Go E d 80 10 [.int x, a1, a2] st h r ↔ gm_Go E d 80 11 [.int x, a1, a2] (.int x :: st) h r := gr_loc m80 f80_10 rfl rfl
theorem f80_11 : gm_ft 80 11 = some (.iload_n 1, 1) := by decide +kernel
theorem r80_11 {E : Nat → Value} {d : Nat} {st : List Value} {h : gm_H} {r : gm_R × gm_H} {a0 a2 : Value} {x : Int32} : gm_Go E d 80 11 [a0, .int x, a2] st h r ↔ gm_Go E d 80 12 [a0, .int x, a2] (.int x :: st) h r := gr_loc m80 f80_11 rfl rfl
theorem f80_12 : gm_ft 80 12 = some (.invokestatic 95, 3) := by decide +kernel
theorem f80_15 : gm_ft 80 15 = some (.athrow, 1) := by decide +kernel
theorem f80_16 : gm_ft 80 16 = some (.iload_n 0, 1) := by decide +kernel
theorem r80_16 {E : Nat → Value} {d : Nat} {st : List Value} {h : gm_H} {r : gm_R × gm_H} {a1 a2 : Value} {x : Int32} : gm_Go E d 80 16 [.int x, a1, a2] st h r ↔ gm_Go E d 80 17 [.int x, a1, a2] (.int x :: st) h r := gr_loc m80 f80_16 rfl rfl
theorem f80_17 : gm_ft 80 17 = some (.ireturn, 1) := by decide +kernel
theorem r80_17 {E : Nat → Value} {d : Nat} {h : gm_H} {r : gm_R × gm_H} {lv : List Value} {x : Int32} : gm_Go E d 80 17 lv [.int x] h r ↔ r = (.inl (some (.int x)), h) := gr_ret m80 f80_17 rfl rfl rfl rfl rfl rfl rfl rfl (by unfold gm_rt; dsimp only; rw [if_pos ⟨rfl, rfl⟩])
/-! GraphReader.readConstant(I)I -/
theorem m81 : gm_mt[81]? = some (⟨"GraphReader", "readConstant", "(I)I"⟩, prog_1_method_37_code, 5, (some .int), [], 0, 1) := rfl
theorem f81_0 : gm_ft 81 0 = some (.aload_n 0, 1) := by decide +kernel
theorem r81_0 {E : Nat → Value} {d : Nat} {st : List Value} {h : gm_H} {r : gm_R × gm_H} {a1 a2 a3 a4 : Value} {x : Nat} : gm_Go E d 81 0 [.ref x, a1, a2, a3, a4] st h r ↔ gm_Go E d 81 1 [.ref x, a1, a2, a3, a4] (.ref x :: st) h r := gr_loc m81 f81_0 rfl rfl
theorem r81_0n {E : Nat → Value} {d : Nat} {st : List Value} {h : gm_H} {r : gm_R × gm_H} {a1 a2 a3 a4 : Value}  : gm_Go E d 81 0 [.null, a1, a2, a3, a4] st h r ↔ gm_Go E d 81 1 [.null, a1, a2, a3, a4] (.null :: st) h r := gr_loc m81 f81_0 rfl rfl
theorem f81_1 : gm_ft 81 1 = some (.iload_n 1, 1) := by decide +kernel
theorem r81_1 {E : Nat → Value} {d : Nat} {st : List Value} {h : gm_H} {r : gm_R × gm_H} {a0 a2 a3 a4 : Value} {x : Int32} : gm_Go E d 81 1 [a0, .int x, a2, a3, a4] st h r ↔ gm_Go E d 81 2 [a0, .int x, a2, a3, a4] (.int x :: st) h r := gr_loc m81 f81_1 rfl rfl
theorem f81_2 : gm_ft 81 2 = some (.invokevirtual 235, 3) := by decide +kernel
theorem n81_2 {st : List Value} {h : gm_H} {E : Nat → Value} {lv : List Value} {b0 : Value} {a : Nat} (hs : (st.map fun v => v.category).sum ≤ 8) (he : (gm_en1 [.ref a, b0]).length ≤ 3) {vs : List Value} (hr : gm_rd h a = some (0, vs)) : gm_next E 81 2 lv (b0 :: .ref a :: st) h = some (.inr (.inl (0, 58, [.ref a, b0], st))) := gn_call m81 f81_2 rfl rfl rfl rfl rfl rfl rfl (gc_virt (bs := [b0]) (w := 505) rfl rfl rfl rfl hs he hr) (by decide)
theorem f81_5 : gm_ft 81 5 = some (.astore_n 2, 1) := by decide +kernel
theorem r81_5 {E : Nat → Value} {d : Nat} {st : List Value} {h : gm_H} {r : gm_R × gm_H} {a0 a1 a2 a3 a4 : Value} {x : Nat} : gm_Go E d 81 5 [a0, a1, a2, a3, a4] (.ref x :: st) h r ↔ gm_Go E d 81 6 [a0, gm_k a1, .ref x, a3, a4] st h r := gr_loc m81 f81_5 rfl rfl
theorem r81_5n {E : Nat → Value} {d : Nat} {st : List Value} {h : gm_H} {r : gm_R × gm_H} {a0 a1 a2 a3 a4 : Value}  : gm_Go E d 81 5 [a0, a1, a2, a3, a4] (.null :: st) h r ↔ gm_Go E d 81 6 [a0, gm_k a1, .null, a3, a4] st h r := gr_loc m81 f81_5 rfl rfl
theorem f81_6 : gm_ft 81 6 = some (.aload_n 0, 1) := by decide +kernel
theorem r81_6 {E : Nat → Value} {d : Nat} {st : List Value} {h : gm_H} {r : gm_R × gm_H} {a1 a2 a3 a4 : Value} {x : Nat} : gm_Go E d 81 6 [.ref x, a1, a2, a3, a4] st h r ↔ gm_Go E d 81 7 [.ref x, a1, a2, a3, a4] (.ref x :: st) h r := gr_loc m81 f81_6 rfl rfl
theorem r81_6n {E : Nat → Value} {d : Nat} {st : List Value} {h : gm_H} {r : gm_R × gm_H} {a1 a2 a3 a4 : Value}  : gm_Go E d 81 6 [.null, a1, a2, a3, a4] st h r ↔ gm_Go E d 81 7 [.null, a1, a2, a3, a4] (.null :: st) h r := gr_loc m81 f81_6 rfl rfl
theorem f81_7 : gm_ft 81 7 = some (.aload_n 2, 1) := by decide +kernel
theorem r81_7 {E : Nat → Value} {d : Nat} {st : List Value} {h : gm_H} {r : gm_R × gm_H} {a0 a1 a3 a4 : Value} {x : Nat} : gm_Go E d 81 7 [a0, a1, .ref x, a3, a4] st h r ↔ gm_Go E d 81 8 [a0, a1, .ref x, a3, a4] (.ref x :: st) h r := gr_loc m81 f81_7 rfl rfl
theorem r81_7n {E : Nat → Value} {d : Nat} {st : List Value} {h : gm_H} {r : gm_R × gm_H} {a0 a1 a3 a4 : Value}  : gm_Go E d 81 7 [a0, a1, .null, a3, a4] st h r ↔ gm_Go E d 81 8 [a0, a1, .null, a3, a4] (.null :: st) h r := gr_loc m81 f81_7 rfl rfl
theorem f81_8 : gm_ft 81 8 = some (.iload_n 1, 1) := by decide +kernel
theorem r81_8 {E : Nat → Value} {d : Nat} {st : List Value} {h : gm_H} {r : gm_R × gm_H} {a0 a2 a3 a4 : Value} {x : Int32} : gm_Go E d 81 8 [a0, .int x, a2, a3, a4] st h r ↔ gm_Go E d 81 9 [a0, .int x, a2, a3, a4] (.int x :: st) h r := gr_loc m81 f81_8 rfl rfl
theorem f81_9 : gm_ft 81 9 = some (.iconst 0, 1) := by decide +kernel
theorem r81_9 {E : Nat → Value} {d : Nat} {st : List Value} {h : gm_H} {r : gm_R × gm_H} {lv : List Value} : gm_Go E d 81 9 lv st h r ↔ gm_Go E d 81 10 lv (.int (0 : Int32) :: st) h r := gr_pure m81 f81_9 rfl
theorem f81_10 : gm_ft 81 10 = some (.invokevirtual 252, 3) := by decide +kernel
theorem n81_10 {st : List Value} {h : gm_H} {E : Nat → Value} {lv : List Value} {b0 b1 b2 : Value} {a : Nat} (hs : (st.map fun v => v.category).sum ≤ 8) (he : (gm_en1 [.ref a, b0, b1, b2]).length ≤ 5) {vs : List Value} (hr : gm_rd h a = some (0, vs)) : gm_next E 81 10 lv (b2 :: b1 :: b0 :: .ref a :: st) h = some (.inr (.inl (0, 59, [.ref a, b0, b1, b2], st))) := gn_call m81 f81_10 rfl rfl rfl rfl rfl rfl rfl (gc_virt (bs := [b2, b1, b0]) (w := 509) rfl rfl rfl rfl hs he hr) (by decide)
theorem f81_13 : gm_ft 81 13 = some (.aload_n 2, 1) := by decide +kernel
theorem r81_13 {E : Nat → Value} {d : Nat} {st : List Value} {h : gm_H} {r : gm_R × gm_H} {a0 a1 a3 a4 : Value} {x : Nat} : gm_Go E d 81 13 [a0, a1, .ref x, a3, a4] st h r ↔ gm_Go E d 81 14 [a0, a1, .ref x, a3, a4] (.ref x :: st) h r := gr_loc m81 f81_13 rfl rfl
theorem r81_13n {E : Nat → Value} {d : Nat} {st : List Value} {h : gm_H} {r : gm_R × gm_H} {a0 a1 a3 a4 : Value}  : gm_Go E d 81 13 [a0, a1, .null, a3, a4] st h r ↔ gm_Go E d 81 14 [a0, a1, .null, a3, a4] (.null :: st) h r := gr_loc m81 f81_13 rfl rfl
theorem f81_14 : gm_ft 81 14 = some (.invokevirtual 256, 3) := by decide +kernel
theorem n81_14 {st : List Value} {h : gm_H} {E : Nat → Value} {lv : List Value} {a : Nat} (hs : (st.map fun v => v.category).sum ≤ 8) (he : (gm_en1 [.ref a]).length ≤ 1) {vs : List Value} (hr : gm_rd h a = some (1, vs)) : gm_next E 81 14 lv (.ref a :: st) h = some (.inr (.inl (0, 36, [.ref a], st))) := gn_call m81 f81_14 rfl rfl rfl rfl rfl rfl rfl (gc_virt (bs := []) (w := 364) rfl rfl rfl rfl hs he hr) (by decide)
theorem f81_17 : gm_ft 81 17 = some (.ifCond .ne 10, 3) := by decide +kernel
theorem r81_17 {E : Nat → Value} {d : Nat} {st : List Value} {h : gm_H} {r : gm_R × gm_H} {lv : List Value} {x : Int32} : gm_Go E d 81 17 lv (.int x :: st) h r ↔ (if x = 0 then gm_Go E d 81 20 lv st h r else gm_Go E d 81 27 lv st h r) := (gr_br m81 f81_17 rfl rfl rfl rfl).trans gr_ifn
theorem f81_20 : gm_ft 81 20 = some (.aload_n 0, 1) := by decide +kernel
theorem r81_20 {E : Nat → Value} {d : Nat} {st : List Value} {h : gm_H} {r : gm_R × gm_H} {a1 a2 a3 a4 : Value} {x : Nat} : gm_Go E d 81 20 [.ref x, a1, a2, a3, a4] st h r ↔ gm_Go E d 81 21 [.ref x, a1, a2, a3, a4] (.ref x :: st) h r := gr_loc m81 f81_20 rfl rfl
theorem r81_20n {E : Nat → Value} {d : Nat} {st : List Value} {h : gm_H} {r : gm_R × gm_H} {a1 a2 a3 a4 : Value}  : gm_Go E d 81 20 [.null, a1, a2, a3, a4] st h r ↔ gm_Go E d 81 21 [.null, a1, a2, a3, a4] (.null :: st) h r := gr_loc m81 f81_20 rfl rfl
theorem f81_21 : gm_ft 81 21 = some (.bipush (-5), 2) := by decide +kernel
theorem r81_21 {E : Nat → Value} {d : Nat} {st : List Value} {h : gm_H} {r : gm_R × gm_H} {lv : List Value} : gm_Go E d 81 21 lv st h r ↔ gm_Go E d 81 23 lv (.int (-5 : Int32) :: st) h r := gr_pure m81 f81_21 rfl
theorem f81_23 : gm_ft 81 23 = some (.invokevirtual 160, 3) := by decide +kernel
theorem n81_23 {st : List Value} {h : gm_H} {E : Nat → Value} {lv : List Value} {b0 : Value} {a : Nat} (hs : (st.map fun v => v.category).sum ≤ 8) (he : (gm_en1 [.ref a, b0]).length ≤ 2) {vs : List Value} (hr : gm_rd h a = some (0, vs)) : gm_next E 81 23 lv (b0 :: .ref a :: st) h = some (.inr (.inl (0, 22, [.ref a, b0], st))) := gn_call m81 f81_23 rfl rfl rfl rfl rfl rfl rfl (gc_virt (bs := [b0]) (w := 206) rfl rfl rfl rfl hs he hr) (by decide)
theorem f81_26 : gm_ft 81 26 = some (.ireturn, 1) := by decide +kernel
theorem r81_26 {E : Nat → Value} {d : Nat} {h : gm_H} {r : gm_R × gm_H} {lv : List Value} {x : Int32} : gm_Go E d 81 26 lv [.int x] h r ↔ r = (.inl (some (.int x)), h) := gr_ret m81 f81_26 rfl rfl rfl rfl rfl rfl rfl rfl (by unfold gm_rt; dsimp only; rw [if_pos ⟨rfl, rfl⟩])
theorem f81_27 : gm_ft 81 27 = some (.aload_n 2, 1) := by decide +kernel
theorem r81_27 {E : Nat → Value} {d : Nat} {st : List Value} {h : gm_H} {r : gm_R × gm_H} {a0 a1 a3 a4 : Value} {x : Nat} : gm_Go E d 81 27 [a0, a1, .ref x, a3, a4] st h r ↔ gm_Go E d 81 28 [a0, a1, .ref x, a3, a4] (.ref x :: st) h r := gr_loc m81 f81_27 rfl rfl
theorem r81_27n {E : Nat → Value} {d : Nat} {st : List Value} {h : gm_H} {r : gm_R × gm_H} {a0 a1 a3 a4 : Value}  : gm_Go E d 81 27 [a0, a1, .null, a3, a4] st h r ↔ gm_Go E d 81 28 [a0, a1, .null, a3, a4] (.null :: st) h r := gr_loc m81 f81_27 rfl rfl
theorem f81_28 : gm_ft 81 28 = some (.getfield 188, 3) := by decide +kernel
theorem r81_28 {E : Nat → Value} {d : Nat} {st : List Value} {h : gm_H} {r : gm_R × gm_H} {lv : List Value} {a : Nat} {vs : List Value} {v : Value} (hr : gm_rd h a = some (1, vs)) (hv : vs[9]? = some v) : gm_Go E d 81 28 lv (.ref a :: st) h r ↔ gm_Go E d 81 31 lv (v :: st) h r := gr_rd m81 f81_28 rfl rfl rfl rfl (gf_get k0_188 hr hv)
theorem f81_31 : gm_ft 81 31 = some (.ifnonnull 10, 3) := by decide +kernel
theorem r81_31n {E : Nat → Value} {d : Nat} {st : List Value} {h : gm_H} {r : gm_R × gm_H} {lv : List Value} : gm_Go E d 81 31 lv (.null :: st) h r ↔ gm_Go E d 81 34 lv st h r := gr_brF m81 f81_31 rfl rfl rfl rfl
theorem r81_31 {E : Nat → Value} {d : Nat} {st : List Value} {h : gm_H} {r : gm_R × gm_H} {lv : List Value} {a : Nat} : gm_Go E d 81 31 lv (.ref a :: st) h r ↔ gm_Go E d 81 41 lv st h r := gr_brT m81 f81_31 rfl rfl rfl rfl
theorem f81_34 : gm_ft 81 34 = some (.aload_n 0, 1) := by decide +kernel
theorem r81_34 {E : Nat → Value} {d : Nat} {st : List Value} {h : gm_H} {r : gm_R × gm_H} {a1 a2 a3 a4 : Value} {x : Nat} : gm_Go E d 81 34 [.ref x, a1, a2, a3, a4] st h r ↔ gm_Go E d 81 35 [.ref x, a1, a2, a3, a4] (.ref x :: st) h r := gr_loc m81 f81_34 rfl rfl
theorem r81_34n {E : Nat → Value} {d : Nat} {st : List Value} {h : gm_H} {r : gm_R × gm_H} {a1 a2 a3 a4 : Value}  : gm_Go E d 81 34 [.null, a1, a2, a3, a4] st h r ↔ gm_Go E d 81 35 [.null, a1, a2, a3, a4] (.null :: st) h r := gr_loc m81 f81_34 rfl rfl
theorem f81_35 : gm_ft 81 35 = some (.bipush (-9), 2) := by decide +kernel
theorem r81_35 {E : Nat → Value} {d : Nat} {st : List Value} {h : gm_H} {r : gm_R × gm_H} {lv : List Value} : gm_Go E d 81 35 lv st h r ↔ gm_Go E d 81 37 lv (.int (-9 : Int32) :: st) h r := gr_pure m81 f81_35 rfl
theorem f81_37 : gm_ft 81 37 = some (.invokevirtual 160, 3) := by decide +kernel
theorem n81_37 {st : List Value} {h : gm_H} {E : Nat → Value} {lv : List Value} {b0 : Value} {a : Nat} (hs : (st.map fun v => v.category).sum ≤ 8) (he : (gm_en1 [.ref a, b0]).length ≤ 2) {vs : List Value} (hr : gm_rd h a = some (0, vs)) : gm_next E 81 37 lv (b0 :: .ref a :: st) h = some (.inr (.inl (0, 22, [.ref a, b0], st))) := gn_call m81 f81_37 rfl rfl rfl rfl rfl rfl rfl (gc_virt (bs := [b0]) (w := 206) rfl rfl rfl rfl hs he hr) (by decide)
theorem f81_40 : gm_ft 81 40 = some (.ireturn, 1) := by decide +kernel
theorem r81_40 {E : Nat → Value} {d : Nat} {h : gm_H} {r : gm_R × gm_H} {lv : List Value} {x : Int32} : gm_Go E d 81 40 lv [.int x] h r ↔ r = (.inl (some (.int x)), h) := gr_ret m81 f81_40 rfl rfl rfl rfl rfl rfl rfl rfl (by unfold gm_rt; dsimp only; rw [if_pos ⟨rfl, rfl⟩])
theorem f81_41 : gm_ft 81 41 = some (.aload_n 0, 1) := by decide +kernel
theorem r81_41 {E : Nat → Value} {d : Nat} {st : List Value} {h : gm_H} {r : gm_R × gm_H} {a1 a2 a3 a4 : Value} {x : Nat} : gm_Go E d 81 41 [.ref x, a1, a2, a3, a4] st h r ↔ gm_Go E d 81 42 [.ref x, a1, a2, a3, a4] (.ref x :: st) h r := gr_loc m81 f81_41 rfl rfl
theorem r81_41n {E : Nat → Value} {d : Nat} {st : List Value} {h : gm_H} {r : gm_R × gm_H} {a1 a2 a3 a4 : Value}  : gm_Go E d 81 41 [.null, a1, a2, a3, a4] st h r ↔ gm_Go E d 81 42 [.null, a1, a2, a3, a4] (.null :: st) h r := gr_loc m81 f81_41 rfl rfl
theorem f81_42 : gm_ft 81 42 = some (.bipush (-2), 2) := by decide +kernel
theorem r81_42 {E : Nat → Value} {d : Nat} {st : List Value} {h : gm_H} {r : gm_R × gm_H} {lv : List Value} : gm_Go E d 81 42 lv st h r ↔ gm_Go E d 81 44 lv (.int (-2 : Int32) :: st) h r := gr_pure m81 f81_42 rfl
theorem f81_44 : gm_ft 81 44 = some (.invokevirtual 222, 3) := by decide +kernel
theorem n81_44 {st : List Value} {h : gm_H} {E : Nat → Value} {lv : List Value} {b0 : Value} {a : Nat} (hs : (st.map fun v => v.category).sum ≤ 8) (he : (gm_en1 [.ref a, b0]).length ≤ 2) {vs : List Value} (hr : gm_rd h a = some (0, vs)) : gm_next E 81 44 lv (b0 :: .ref a :: st) h = some (.inr (.inl (0, 32, [.ref a, b0], st))) := gn_call m81 f81_44 rfl rfl rfl rfl rfl rfl rfl (gc_virt (bs := [b0]) (w := 348) rfl rfl rfl rfl hs he hr) (by decide)
theorem f81_47 : gm_ft 81 47 = some (.istore_n 3, 1) := by decide +kernel
theorem r81_47 {E : Nat → Value} {d : Nat} {st : List Value} {h : gm_H} {r : gm_R × gm_H} {a0 a1 a2 a3 a4 : Value} {x : Int32} : gm_Go E d 81 47 [a0, a1, a2, a3, a4] (.int x :: st) h r ↔ gm_Go E d 81 48 [a0, a1, gm_k a2, .int x, a4] st h r := gr_loc m81 f81_47 rfl rfl
theorem f81_48 : gm_ft 81 48 = some (.aload_n 0, 1) := by decide +kernel
theorem r81_48 {E : Nat → Value} {d : Nat} {st : List Value} {h : gm_H} {r : gm_R × gm_H} {a1 a2 a3 a4 : Value} {x : Nat} : gm_Go E d 81 48 [.ref x, a1, a2, a3, a4] st h r ↔ gm_Go E d 81 49 [.ref x, a1, a2, a3, a4] (.ref x :: st) h r := gr_loc m81 f81_48 rfl rfl
theorem r81_48n {E : Nat → Value} {d : Nat} {st : List Value} {h : gm_H} {r : gm_R × gm_H} {a1 a2 a3 a4 : Value}  : gm_Go E d 81 48 [.null, a1, a2, a3, a4] st h r ↔ gm_Go E d 81 49 [.null, a1, a2, a3, a4] (.null :: st) h r := gr_loc m81 f81_48 rfl rfl
theorem f81_49 : gm_ft 81 49 = some (.aload_n 0, 1) := by decide +kernel
theorem r81_49 {E : Nat → Value} {d : Nat} {st : List Value} {h : gm_H} {r : gm_R × gm_H} {a1 a2 a3 a4 : Value} {x : Nat} : gm_Go E d 81 49 [.ref x, a1, a2, a3, a4] st h r ↔ gm_Go E d 81 50 [.ref x, a1, a2, a3, a4] (.ref x :: st) h r := gr_loc m81 f81_49 rfl rfl
theorem r81_49n {E : Nat → Value} {d : Nat} {st : List Value} {h : gm_H} {r : gm_R × gm_H} {a1 a2 a3 a4 : Value}  : gm_Go E d 81 49 [.null, a1, a2, a3, a4] st h r ↔ gm_Go E d 81 50 [.null, a1, a2, a3, a4] (.null :: st) h r := gr_loc m81 f81_49 rfl rfl
theorem f81_50 : gm_ft 81 50 = some (.iload_n 1, 1) := by decide +kernel
theorem r81_50 {E : Nat → Value} {d : Nat} {st : List Value} {h : gm_H} {r : gm_R × gm_H} {a0 a2 a3 a4 : Value} {x : Int32} : gm_Go E d 81 50 [a0, .int x, a2, a3, a4] st h r ↔ gm_Go E d 81 51 [a0, .int x, a2, a3, a4] (.int x :: st) h r := gr_loc m81 f81_50 rfl rfl
theorem f81_51 : gm_ft 81 51 = some (.iconst 1, 1) := by decide +kernel
theorem r81_51 {E : Nat → Value} {d : Nat} {st : List Value} {h : gm_H} {r : gm_R × gm_H} {lv : List Value} : gm_Go E d 81 51 lv st h r ↔ gm_Go E d 81 52 lv (.int (1 : Int32) :: st) h r := gr_pure m81 f81_51 rfl
theorem f81_52 : gm_ft 81 52 = some (.iadd, 1) := by decide +kernel
theorem r81_52 {E : Nat → Value} {d : Nat} {st : List Value} {h : gm_H} {r : gm_R × gm_H} {lv : List Value} {x y : Int32} : gm_Go E d 81 52 lv (.int y :: .int x :: st) h r ↔ gm_Go E d 81 53 lv (.int (x + y) :: st) h r := gr_pure m81 f81_52 rfl
theorem f81_53 : gm_ft 81 53 = some (.invokevirtual 182, 3) := by decide +kernel
theorem n81_53 {st : List Value} {h : gm_H} {E : Nat → Value} {lv : List Value} {b0 : Value} {a : Nat} (hs : (st.map fun v => v.category).sum ≤ 8) (he : (gm_en1 [.ref a, b0]).length ≤ 2) {vs : List Value} (hr : gm_rd h a = some (0, vs)) : gm_next E 81 53 lv (b0 :: .ref a :: st) h = some (.inr (.inl (0, 23, [.ref a, b0], st))) := gn_call m81 f81_53 rfl rfl rfl rfl rfl rfl rfl (gc_virt (bs := [b0]) (w := 270) rfl rfl rfl rfl hs he hr) (by decide)
theorem f81_56 : gm_ft 81 56 = some (.invokevirtual 260, 3) := by decide +kernel
theorem n81_56 {st : List Value} {h : gm_H} {E : Nat → Value} {lv : List Value} {b0 : Value} {a : Nat} (hs : (st.map fun v => v.category).sum ≤ 8) (he : (gm_en1 [.ref a, b0]).length ≤ 3) {vs : List Value} (hr : gm_rd h a = some (0, vs)) : gm_next E 81 56 lv (b0 :: .ref a :: st) h = some (.inr (.inl (0, 82, [.ref a, b0], st))) := gn_call m81 f81_56 rfl rfl rfl rfl rfl rfl rfl (gc_virt (bs := [b0]) (w := 632) rfl rfl rfl rfl hs he hr) (by decide)
theorem f81_59 : gm_ft 81 59 = some (.istore 4, 2) := by decide +kernel
theorem r81_59 {E : Nat → Value} {d : Nat} {st : List Value} {h : gm_H} {r : gm_R × gm_H} {a0 a1 a2 a3 a4 : Value} {x : Int32} : gm_Go E d 81 59 [a0, a1, a2, a3, a4] (.int x :: st) h r ↔ gm_Go E d 81 61 [a0, a1, a2, gm_k a3, .int x] st h r := gr_loc m81 f81_59 rfl rfl
theorem f81_61 : gm_ft 81 61 = some (.iload 4, 2) := by decide +kernel
theorem r81_61 {E : Nat → Value} {d : Nat} {st : List Value} {h : gm_H} {r : gm_R × gm_H} {a0 a1 a2 a3 : Value} {x : Int32} : gm_Go E d 81 61 [a0, a1, a2, a3, .int x] st h r ↔ gm_Go E d 81 63 [a0, a1, a2, a3, .int x] (.int x :: st) h r := gr_loc m81 f81_61 rfl rfl
theorem f81_63 : gm_ft 81 63 = some (.invokestatic 68, 3) := by decide +kernel
theorem n81_63 {st : List Value} {h : gm_H} {E : Nat → Value} {lv : List Value} {b0 : Value} (hs : (st.map fun v => v.category).sum ≤ 8) (he : (gm_en1 [b0]).length ≤ 1) : gm_next E 81 63 lv (b0 :: st) h = some (.inr (.inl (1, 10, [b0], st))) := gn_call m81 f81_63 rfl rfl rfl rfl rfl rfl rfl (gc_stat (bs := [b0]) (w := 157) rfl rfl rfl hs he) (by decide)
theorem f81_66 : gm_ft 81 66 = some (.ifCond .eq 18, 3) := by decide +kernel
theorem r81_66 {E : Nat → Value} {d : Nat} {st : List Value} {h : gm_H} {r : gm_R × gm_H} {lv : List Value} {x : Int32} : gm_Go E d 81 66 lv (.int x :: st) h r ↔ (if x = 0 then gm_Go E d 81 84 lv st h r else gm_Go E d 81 69 lv st h r) := (gr_br m81 f81_66 rfl rfl rfl rfl).trans gr_if
theorem f81_69 : gm_ft 81 69 = some (.aload_n 2, 1) := by decide +kernel
theorem r81_69 {E : Nat → Value} {d : Nat} {st : List Value} {h : gm_H} {r : gm_R × gm_H} {a0 a1 a3 a4 : Value} {x : Nat} : gm_Go E d 81 69 [a0, a1, .ref x, a3, a4] st h r ↔ gm_Go E d 81 70 [a0, a1, .ref x, a3, a4] (.ref x :: st) h r := gr_loc m81 f81_69 rfl rfl
theorem r81_69n {E : Nat → Value} {d : Nat} {st : List Value} {h : gm_H} {r : gm_R × gm_H} {a0 a1 a3 a4 : Value}  : gm_Go E d 81 69 [a0, a1, .null, a3, a4] st h r ↔ gm_Go E d 81 70 [a0, a1, .null, a3, a4] (.null :: st) h r := gr_loc m81 f81_69 rfl rfl
theorem f81_70 : gm_ft 81 70 = some (.getfield 188, 3) := by decide +kernel
theorem r81_70 {E : Nat → Value} {d : Nat} {st : List Value} {h : gm_H} {r : gm_R × gm_H} {lv : List Value} {a : Nat} {vs : List Value} {v : Value} (hr : gm_rd h a = some (1, vs)) (hv : vs[9]? = some v) : gm_Go E d 81 70 lv (.ref a :: st) h r ↔ gm_Go E d 81 73 lv (v :: st) h r := gr_rd m81 f81_70 rfl rfl rfl rfl (gf_get k0_188 hr hv)
theorem f81_73 : gm_ft 81 73 = some (.getfield 90, 3) := by decide +kernel
theorem r81_73 {E : Nat → Value} {d : Nat} {st : List Value} {h : gm_H} {r : gm_R × gm_H} {lv : List Value} {a : Nat} {vs : List Value} {v : Value} (hr : gm_rd h a = some (3, vs)) (hv : vs[8]? = some v) : gm_Go E d 81 73 lv (.ref a :: st) h r ↔ gm_Go E d 81 76 lv (v :: st) h r := gr_rd m81 f81_73 rfl rfl rfl rfl (gf_get k0_90 hr hv)
theorem f81_76 : gm_ft 81 76 = some (.iload 4, 2) := by decide +kernel
theorem r81_76 {E : Nat → Value} {d : Nat} {st : List Value} {h : gm_H} {r : gm_R × gm_H} {a0 a1 a2 a3 : Value} {x : Int32} : gm_Go E d 81 76 [a0, a1, a2, a3, .int x] st h r ↔ gm_Go E d 81 78 [a0, a1, a2, a3, .int x] (.int x :: st) h r := gr_loc m81 f81_76 rfl rfl
theorem f81_78 : gm_ft 81 78 = some (.ishr, 1) := by decide +kernel
theorem r81_78 {E : Nat → Value} {d : Nat} {st : List Value} {h : gm_H} {r : gm_R × gm_H} {lv : List Value} {x y : Int32} : gm_Go E d 81 78 lv (.int y :: .int x :: st) h r ↔ gm_Go E d 81 79 lv (.int (x >>> (y &&& 31)) :: st) h r := gr_pure m81 f81_78 rfl
theorem f81_79 : gm_ft 81 79 = some (.iconst 1, 1) := by decide +kernel
theorem r81_79 {E : Nat → Value} {d : Nat} {st : List Value} {h : gm_H} {r : gm_R × gm_H} {lv : List Value} : gm_Go E d 81 79 lv st h r ↔ gm_Go E d 81 80 lv (.int (1 : Int32) :: st) h r := gr_pure m81 f81_79 rfl
theorem f81_80 : gm_ft 81 80 = some (.iand, 1) := by decide +kernel
theorem r81_80 {E : Nat → Value} {d : Nat} {st : List Value} {h : gm_H} {r : gm_R × gm_H} {lv : List Value} {x y : Int32} : gm_Go E d 81 80 lv (.int y :: .int x :: st) h r ↔ gm_Go E d 81 81 lv (.int (x &&& y) :: st) h r := gr_pure m81 f81_80 rfl
theorem f81_81 : gm_ft 81 81 = some (.ifCond .ne 10, 3) := by decide +kernel
theorem r81_81 {E : Nat → Value} {d : Nat} {st : List Value} {h : gm_H} {r : gm_R × gm_H} {lv : List Value} {x : Int32} : gm_Go E d 81 81 lv (.int x :: st) h r ↔ (if x = 0 then gm_Go E d 81 84 lv st h r else gm_Go E d 81 91 lv st h r) := (gr_br m81 f81_81 rfl rfl rfl rfl).trans gr_ifn
theorem f81_84 : gm_ft 81 84 = some (.aload_n 0, 1) := by decide +kernel
theorem r81_84 {E : Nat → Value} {d : Nat} {st : List Value} {h : gm_H} {r : gm_R × gm_H} {a1 a2 a3 a4 : Value} {x : Nat} : gm_Go E d 81 84 [.ref x, a1, a2, a3, a4] st h r ↔ gm_Go E d 81 85 [.ref x, a1, a2, a3, a4] (.ref x :: st) h r := gr_loc m81 f81_84 rfl rfl
theorem r81_84n {E : Nat → Value} {d : Nat} {st : List Value} {h : gm_H} {r : gm_R × gm_H} {a1 a2 a3 a4 : Value}  : gm_Go E d 81 84 [.null, a1, a2, a3, a4] st h r ↔ gm_Go E d 81 85 [.null, a1, a2, a3, a4] (.null :: st) h r := gr_loc m81 f81_84 rfl rfl
theorem f81_85 : gm_ft 81 85 = some (.bipush (-6), 2) := by decide +kernel
theorem r81_85 {E : Nat → Value} {d : Nat} {st : List Value} {h : gm_H} {r : gm_R × gm_H} {lv : List Value} : gm_Go E d 81 85 lv st h r ↔ gm_Go E d 81 87 lv (.int (-6 : Int32) :: st) h r := gr_pure m81 f81_85 rfl
theorem f81_87 : gm_ft 81 87 = some (.invokevirtual 160, 3) := by decide +kernel
theorem n81_87 {st : List Value} {h : gm_H} {E : Nat → Value} {lv : List Value} {b0 : Value} {a : Nat} (hs : (st.map fun v => v.category).sum ≤ 8) (he : (gm_en1 [.ref a, b0]).length ≤ 2) {vs : List Value} (hr : gm_rd h a = some (0, vs)) : gm_next E 81 87 lv (b0 :: .ref a :: st) h = some (.inr (.inl (0, 22, [.ref a, b0], st))) := gn_call m81 f81_87 rfl rfl rfl rfl rfl rfl rfl (gc_virt (bs := [b0]) (w := 206) rfl rfl rfl rfl hs he hr) (by decide)
theorem f81_90 : gm_ft 81 90 = some (.ireturn, 1) := by decide +kernel
theorem r81_90 {E : Nat → Value} {d : Nat} {h : gm_H} {r : gm_R × gm_H} {lv : List Value} {x : Int32} : gm_Go E d 81 90 lv [.int x] h r ↔ r = (.inl (some (.int x)), h) := gr_ret m81 f81_90 rfl rfl rfl rfl rfl rfl rfl rfl (by unfold gm_rt; dsimp only; rw [if_pos ⟨rfl, rfl⟩])
theorem f81_91 : gm_ft 81 91 = some (.aload_n 0, 1) := by decide +kernel
theorem r81_91 {E : Nat → Value} {d : Nat} {st : List Value} {h : gm_H} {r : gm_R × gm_H} {a1 a2 a3 a4 : Value} {x : Nat} : gm_Go E d 81 91 [.ref x, a1, a2, a3, a4] st h r ↔ gm_Go E d 81 92 [.ref x, a1, a2, a3, a4] (.ref x :: st) h r := gr_loc m81 f81_91 rfl rfl
theorem r81_91n {E : Nat → Value} {d : Nat} {st : List Value} {h : gm_H} {r : gm_R × gm_H} {a1 a2 a3 a4 : Value}  : gm_Go E d 81 91 [.null, a1, a2, a3, a4] st h r ↔ gm_Go E d 81 92 [.null, a1, a2, a3, a4] (.null :: st) h r := gr_loc m81 f81_91 rfl rfl
theorem f81_92 : gm_ft 81 92 = some (.getfield 28, 3) := by decide +kernel
theorem r81_92 {E : Nat → Value} {d : Nat} {st : List Value} {h : gm_H} {r : gm_R × gm_H} {lv : List Value} {a : Nat} {vs : List Value} {v : Value} (hr : gm_rd h a = some (0, vs)) (hv : vs[10]? = some v) : gm_Go E d 81 92 lv (.ref a :: st) h r ↔ gm_Go E d 81 95 lv (v :: st) h r := gr_rd m81 f81_92 rfl rfl rfl rfl (gf_get k0_28 hr hv)
theorem f81_95 : gm_ft 81 95 = some (.getfield 215, 3) := by decide +kernel
theorem r81_95 {E : Nat → Value} {d : Nat} {st : List Value} {h : gm_H} {r : gm_R × gm_H} {lv : List Value} {a : Nat} {vs : List Value} {v : Value} (hr : gm_rd h a = some (2, vs)) (hv : vs[0]? = some v) : gm_Go E d 81 95 lv (.ref a :: st) h r ↔ gm_Go E d 81 98 lv (v :: st) h r := gr_rd m81 f81_95 rfl rfl rfl rfl (gf_get k0_215 hr hv)
theorem f81_98 : gm_ft 81 98 = some (.iload_n 3, 1) := by decide +kernel
theorem r81_98 {E : Nat → Value} {d : Nat} {st : List Value} {h : gm_H} {r : gm_R × gm_H} {a0 a1 a2 a4 : Value} {x : Int32} : gm_Go E d 81 98 [a0, a1, a2, .int x, a4] st h r ↔ gm_Go E d 81 99 [a0, a1, a2, .int x, a4] (.int x :: st) h r := gr_loc m81 f81_98 rfl rfl
theorem f81_99 : gm_ft 81 99 = some (.aload_n 0, 1) := by decide +kernel
theorem r81_99 {E : Nat → Value} {d : Nat} {st : List Value} {h : gm_H} {r : gm_R × gm_H} {a1 a2 a3 a4 : Value} {x : Nat} : gm_Go E d 81 99 [.ref x, a1, a2, a3, a4] st h r ↔ gm_Go E d 81 100 [.ref x, a1, a2, a3, a4] (.ref x :: st) h r := gr_loc m81 f81_99 rfl rfl
theorem r81_99n {E : Nat → Value} {d : Nat} {st : List Value} {h : gm_H} {r : gm_R × gm_H} {a1 a2 a3 a4 : Value}  : gm_Go E d 81 99 [.null, a1, a2, a3, a4] st h r ↔ gm_Go E d 81 100 [.null, a1, a2, a3, a4] (.null :: st) h r := gr_loc m81 f81_99 rfl rfl
theorem f81_100 : gm_ft 81 100 = some (.aload_n 2, 1) := by decide +kernel
theorem r81_100 {E : Nat → Value} {d : Nat} {st : List Value} {h : gm_H} {r : gm_R × gm_H} {a0 a1 a3 a4 : Value} {x : Nat} : gm_Go E d 81 100 [a0, a1, .ref x, a3, a4] st h r ↔ gm_Go E d 81 101 [a0, a1, .ref x, a3, a4] (.ref x :: st) h r := gr_loc m81 f81_100 rfl rfl
theorem r81_100n {E : Nat → Value} {d : Nat} {st : List Value} {h : gm_H} {r : gm_R × gm_H} {a0 a1 a3 a4 : Value}  : gm_Go E d 81 100 [a0, a1, .null, a3, a4] st h r ↔ gm_Go E d 81 101 [a0, a1, .null, a3, a4] (.null :: st) h r := gr_loc m81 f81_100 rfl rfl
theorem f81_101 : gm_ft 81 101 = some (.getfield 188, 3) := by decide +kernel
theorem r81_101 {E : Nat → Value} {d : Nat} {st : List Value} {h : gm_H} {r : gm_R × gm_H} {lv : List Value} {a : Nat} {vs : List Value} {v : Value} (hr : gm_rd h a = some (1, vs)) (hv : vs[9]? = some v) : gm_Go E d 81 101 lv (.ref a :: st) h r ↔ gm_Go E d 81 104 lv (v :: st) h r := gr_rd m81 f81_101 rfl rfl rfl rfl (gf_get k0_188 hr hv)
theorem f81_104 : gm_ft 81 104 = some (.iload 4, 2) := by decide +kernel
theorem r81_104 {E : Nat → Value} {d : Nat} {st : List Value} {h : gm_H} {r : gm_R × gm_H} {a0 a1 a2 a3 : Value} {x : Int32} : gm_Go E d 81 104 [a0, a1, a2, a3, .int x] st h r ↔ gm_Go E d 81 106 [a0, a1, a2, a3, .int x] (.int x :: st) h r := gr_loc m81 f81_104 rfl rfl
theorem f81_106 : gm_ft 81 106 = some (.invokevirtual 263, 3) := by decide +kernel
theorem n81_106 {st : List Value} {h : gm_H} {E : Nat → Value} {lv : List Value} {b0 b1 : Value} {a : Nat} (hs : (st.map fun v => v.category).sum ≤ 8) (he : (gm_en1 [.ref a, b0, b1]).length ≤ 4) {vs : List Value} (hr : gm_rd h a = some (0, vs)) : gm_next E 81 106 lv (b1 :: b0 :: .ref a :: st) h = some (.inr (.inl (0, 83, [.ref a, b0, b1], st))) := gn_call m81 f81_106 rfl rfl rfl rfl rfl rfl rfl (gc_virt (bs := [b1, b0]) (w := 636) rfl rfl rfl rfl hs he hr) (by decide)
theorem f81_109 : gm_ft 81 109 = some (.iastore, 1) := by decide +kernel
theorem r81_109 {E : Nat → Value} {d : Nat} {st : List Value} {h : gm_H} {r : gm_R × gm_H} {lv : List Value} {a k j : Nat} {vs : List Value} {x : Int32} (hr : gm_rd h a = some (k, vs)) (hk : 100 ≤ k ∧ k % 100 = 0 ∧ gm_ko k = 1 ∧ 1 < 3) (hj : j < 2 ^ 31) (hl : j < vs.length) : gm_Go E d 81 109 lv (.int x :: .int (nI j) :: .ref a :: st) h r ↔ gm_Go E d 81 110 lv st (gm_wr h a (k, vs.set j (.int x))) r := gr_wr m81 f81_109 rfl rfl rfl rfl rfl (ga_st hr hk hj hl)
theorem f81_110 : gm_ft 81 110 = some (.aload_n 0, 1) := by decide +kernel
theorem r81_110 {E : Nat → Value} {d : Nat} {st : List Value} {h : gm_H} {r : gm_R × gm_H} {a1 a2 a3 a4 : Value} {x : Nat} : gm_Go E d 81 110 [.ref x, a1, a2, a3, a4] st h r ↔ gm_Go E d 81 111 [.ref x, a1, a2, a3, a4] (.ref x :: st) h r := gr_loc m81 f81_110 rfl rfl
theorem r81_110n {E : Nat → Value} {d : Nat} {st : List Value} {h : gm_H} {r : gm_R × gm_H} {a1 a2 a3 a4 : Value}  : gm_Go E d 81 110 [.null, a1, a2, a3, a4] st h r ↔ gm_Go E d 81 111 [.null, a1, a2, a3, a4] (.null :: st) h r := gr_loc m81 f81_110 rfl rfl
theorem f81_111 : gm_ft 81 111 = some (.getfield 28, 3) := by decide +kernel
theorem r81_111 {E : Nat → Value} {d : Nat} {st : List Value} {h : gm_H} {r : gm_R × gm_H} {lv : List Value} {a : Nat} {vs : List Value} {v : Value} (hr : gm_rd h a = some (0, vs)) (hv : vs[10]? = some v) : gm_Go E d 81 111 lv (.ref a :: st) h r ↔ gm_Go E d 81 114 lv (v :: st) h r := gr_rd m81 f81_111 rfl rfl rfl rfl (gf_get k0_28 hr hv)
theorem f81_114 : gm_ft 81 114 = some (.getfield 215, 3) := by decide +kernel
theorem r81_114 {E : Nat → Value} {d : Nat} {st : List Value} {h : gm_H} {r : gm_R × gm_H} {lv : List Value} {a : Nat} {vs : List Value} {v : Value} (hr : gm_rd h a = some (2, vs)) (hv : vs[0]? = some v) : gm_Go E d 81 114 lv (.ref a :: st) h r ↔ gm_Go E d 81 117 lv (v :: st) h r := gr_rd m81 f81_114 rfl rfl rfl rfl (gf_get k0_215 hr hv)
theorem f81_117 : gm_ft 81 117 = some (.iload_n 3, 1) := by decide +kernel
theorem r81_117 {E : Nat → Value} {d : Nat} {st : List Value} {h : gm_H} {r : gm_R × gm_H} {a0 a1 a2 a4 : Value} {x : Int32} : gm_Go E d 81 117 [a0, a1, a2, .int x, a4] st h r ↔ gm_Go E d 81 118 [a0, a1, a2, .int x, a4] (.int x :: st) h r := gr_loc m81 f81_117 rfl rfl
theorem f81_118 : gm_ft 81 118 = some (.iaload, 1) := by decide +kernel
theorem r81_118 {E : Nat → Value} {d : Nat} {st : List Value} {h : gm_H} {r : gm_R × gm_H} {lv : List Value} {a k j : Nat} {vs : List Value} {v : Value} (hr : gm_rd h a = some (k, vs)) (hk : 100 ≤ k ∧ (fun t => t == 0) (k % 100) = true) (hj : j < 2 ^ 31) (hv : vs[j]? = some v) : gm_Go E d 81 118 lv (.int (nI j) :: .ref a :: st) h r ↔ gm_Go E d 81 119 lv (v :: st) h r := gr_rd m81 f81_118 rfl rfl rfl rfl (ga_ld (P := fun t => t == 0) hr hk hj hv)
theorem f81_119 : gm_ft 81 119 = some (.ireturn, 1) := by decide +kernel
theorem r81_119 {E : Nat → Value} {d : Nat} {h : gm_H} {r : gm_R × gm_H} {lv : List Value} {x : Int32} : gm_Go E d 81 119 lv [.int x] h r ↔ r = (.inl (some (.int x)), h) := gr_ret m81 f81_119 rfl rfl rfl rfl rfl rfl rfl rfl (by unfold gm_rt; dsimp only; rw [if_pos ⟨rfl, rfl⟩])
/-! GraphReader.constantName(I)I -/
theorem m82 : gm_mt[82]? = some (⟨"GraphReader", "constantName", "(I)I"⟩, prog_1_method_38_code, 3, (some .int), [], 0, 1) := rfl
theorem f82_0 : gm_ft 82 0 = some (.aload_n 0, 1) := by decide +kernel
theorem r82_0 {E : Nat → Value} {d : Nat} {st : List Value} {h : gm_H} {r : gm_R × gm_H} {a1 a2 : Value} {x : Nat} : gm_Go E d 82 0 [.ref x, a1, a2] st h r ↔ gm_Go E d 82 1 [.ref x, a1, a2] (.ref x :: st) h r := gr_loc m82 f82_0 rfl rfl
theorem r82_0n {E : Nat → Value} {d : Nat} {st : List Value} {h : gm_H} {r : gm_R × gm_H} {a1 a2 : Value}  : gm_Go E d 82 0 [.null, a1, a2] st h r ↔ gm_Go E d 82 1 [.null, a1, a2] (.null :: st) h r := gr_loc m82 f82_0 rfl rfl
theorem f82_1 : gm_ft 82 1 = some (.iload_n 1, 1) := by decide +kernel
theorem r82_1 {E : Nat → Value} {d : Nat} {st : List Value} {h : gm_H} {r : gm_R × gm_H} {a0 a2 : Value} {x : Int32} : gm_Go E d 82 1 [a0, .int x, a2] st h r ↔ gm_Go E d 82 2 [a0, .int x, a2] (.int x :: st) h r := gr_loc m82 f82_1 rfl rfl
theorem f82_2 : gm_ft 82 2 = some (.invokevirtual 131, 3) := by decide +kernel
theorem n82_2 {st : List Value} {h : gm_H} {E : Nat → Value} {lv : List Value} {b0 : Value} {a : Nat} (hs : (st.map fun v => v.category).sum ≤ 8) (he : (gm_en1 [.ref a, b0]).length ≤ 2) {vs : List Value} (hr : gm_rd h a = some (0, vs)) : gm_next E 82 2 lv (b0 :: .ref a :: st) h = some (.inr (.inl (0, 49, [.ref a, b0], st))) := gn_call m82 f82_2 rfl rfl rfl rfl rfl rfl rfl (gc_virt (bs := [b0]) (w := 468) rfl rfl rfl rfl hs he hr) (by decide)
theorem f82_5 : gm_ft 82 5 = some (.ifCond .ne 5, 3) := by decide +kernel
theorem r82_5 {E : Nat → Value} {d : Nat} {st : List Value} {h : gm_H} {r : gm_R × gm_H} {lv : List Value} {x : Int32} : gm_Go E d 82 5 lv (.int x :: st) h r ↔ (if x = 0 then gm_Go E d 82 8 lv st h r else gm_Go E d 82 10 lv st h r) := (gr_br m82 f82_5 rfl rfl rfl rfl).trans gr_ifn
theorem f82_8 : gm_ft 82 8 = some (.iconst (-1), 1) := by decide +kernel
theorem r82_8 {E : Nat → Value} {d : Nat} {st : List Value} {h : gm_H} {r : gm_R × gm_H} {lv : List Value} : gm_Go E d 82 8 lv st h r ↔ gm_Go E d 82 9 lv (.int (-1 : Int32) :: st) h r := gr_pure m82 f82_8 rfl
theorem f82_9 : gm_ft 82 9 = some (.ireturn, 1) := by decide +kernel
theorem r82_9 {E : Nat → Value} {d : Nat} {h : gm_H} {r : gm_R × gm_H} {lv : List Value} {x : Int32} : gm_Go E d 82 9 lv [.int x] h r ↔ r = (.inl (some (.int x)), h) := gr_ret m82 f82_9 rfl rfl rfl rfl rfl rfl rfl rfl (by unfold gm_rt; dsimp only; rw [if_pos ⟨rfl, rfl⟩])
theorem f82_10 : gm_ft 82 10 = some (.aload_n 0, 1) := by decide +kernel
theorem r82_10 {E : Nat → Value} {d : Nat} {st : List Value} {h : gm_H} {r : gm_R × gm_H} {a1 a2 : Value} {x : Nat} : gm_Go E d 82 10 [.ref x, a1, a2] st h r ↔ gm_Go E d 82 11 [.ref x, a1, a2] (.ref x :: st) h r := gr_loc m82 f82_10 rfl rfl
theorem r82_10n {E : Nat → Value} {d : Nat} {st : List Value} {h : gm_H} {r : gm_R × gm_H} {a1 a2 : Value}  : gm_Go E d 82 10 [.null, a1, a2] st h r ↔ gm_Go E d 82 11 [.null, a1, a2] (.null :: st) h r := gr_loc m82 f82_10 rfl rfl
theorem f82_11 : gm_ft 82 11 = some (.getfield 21, 3) := by decide +kernel
theorem r82_11 {E : Nat → Value} {d : Nat} {st : List Value} {h : gm_H} {r : gm_R × gm_H} {lv : List Value} {a : Nat} {vs : List Value} {v : Value} (hr : gm_rd h a = some (0, vs)) (hv : vs[8]? = some v) : gm_Go E d 82 11 lv (.ref a :: st) h r ↔ gm_Go E d 82 14 lv (v :: st) h r := gr_rd m82 f82_11 rfl rfl rfl rfl (gf_get k0_21 hr hv)
theorem f82_14 : gm_ft 82 14 = some (.iload_n 1, 1) := by decide +kernel
theorem r82_14 {E : Nat → Value} {d : Nat} {st : List Value} {h : gm_H} {r : gm_R × gm_H} {a0 a2 : Value} {x : Int32} : gm_Go E d 82 14 [a0, .int x, a2] st h r ↔ gm_Go E d 82 15 [a0, .int x, a2] (.int x :: st) h r := gr_loc m82 f82_14 rfl rfl
theorem f82_15 : gm_ft 82 15 = some (.aaload, 1) := by decide +kernel
theorem r82_15 {E : Nat → Value} {d : Nat} {st : List Value} {h : gm_H} {r : gm_R × gm_H} {lv : List Value} {a k j : Nat} {vs : List Value} {v : Value} (hr : gm_rd h a = some (k, vs)) (hk : 100 ≤ k ∧ (fun t => t == 10 || t == 11 || t == 12) (k % 100) = true) (hj : j < 2 ^ 31) (hv : vs[j]? = some v) : gm_Go E d 82 15 lv (.int (nI j) :: .ref a :: st) h r ↔ gm_Go E d 82 16 lv (v :: st) h r := gr_rd m82 f82_15 rfl rfl rfl rfl (ga_ld (P := fun t => t == 10 || t == 11 || t == 12) hr hk hj hv)
theorem f82_16 : gm_ft 82 16 = some (.astore_n 2, 1) := by decide +kernel
theorem r82_16 {E : Nat → Value} {d : Nat} {st : List Value} {h : gm_H} {r : gm_R × gm_H} {a0 a1 a2 : Value} {x : Nat} : gm_Go E d 82 16 [a0, a1, a2] (.ref x :: st) h r ↔ gm_Go E d 82 17 [a0, gm_k a1, .ref x] st h r := gr_loc m82 f82_16 rfl rfl
theorem r82_16n {E : Nat → Value} {d : Nat} {st : List Value} {h : gm_H} {r : gm_R × gm_H} {a0 a1 a2 : Value}  : gm_Go E d 82 16 [a0, a1, a2] (.null :: st) h r ↔ gm_Go E d 82 17 [a0, gm_k a1, .null] st h r := gr_loc m82 f82_16 rfl rfl
theorem f82_17 : gm_ft 82 17 = some (.aload_n 2, 1) := by decide +kernel
theorem r82_17 {E : Nat → Value} {d : Nat} {st : List Value} {h : gm_H} {r : gm_R × gm_H} {a0 a1 : Value} {x : Nat} : gm_Go E d 82 17 [a0, a1, .ref x] st h r ↔ gm_Go E d 82 18 [a0, a1, .ref x] (.ref x :: st) h r := gr_loc m82 f82_17 rfl rfl
theorem r82_17n {E : Nat → Value} {d : Nat} {st : List Value} {h : gm_H} {r : gm_R × gm_H} {a0 a1 : Value}  : gm_Go E d 82 17 [a0, a1, .null] st h r ↔ gm_Go E d 82 18 [a0, a1, .null] (.null :: st) h r := gr_loc m82 f82_17 rfl rfl
theorem f82_18 : gm_ft 82 18 = some (.getfield 134, 3) := by decide +kernel
theorem r82_18 {E : Nat → Value} {d : Nat} {st : List Value} {h : gm_H} {r : gm_R × gm_H} {lv : List Value} {a : Nat} {vs : List Value} {v : Value} (hr : gm_rd h a = some (4, vs)) (hv : vs[0]? = some v) : gm_Go E d 82 18 lv (.ref a :: st) h r ↔ gm_Go E d 82 21 lv (v :: st) h r := gr_rd m82 f82_18 rfl rfl rfl rfl (gf_get k0_134 hr hv)
theorem f82_21 : gm_ft 82 21 = some (.iconst 1, 1) := by decide +kernel
theorem r82_21 {E : Nat → Value} {d : Nat} {st : List Value} {h : gm_H} {r : gm_R × gm_H} {lv : List Value} : gm_Go E d 82 21 lv st h r ↔ gm_Go E d 82 22 lv (.int (1 : Int32) :: st) h r := gr_pure m82 f82_21 rfl
theorem f82_22 : gm_ft 82 22 = some (.if_icmp .ne 25, 3) := by decide +kernel
theorem r82_22 {E : Nat → Value} {d : Nat} {st : List Value} {h : gm_H} {r : gm_R × gm_H} {lv : List Value} {x y : Int32} : gm_Go E d 82 22 lv (.int y :: .int x :: st) h r ↔ (if x = y then gm_Go E d 82 25 lv st h r else gm_Go E d 82 47 lv st h r) := (gr_br m82 f82_22 rfl rfl rfl rfl).trans gr_ifn
theorem f82_25 : gm_ft 82 25 = some (.aload_n 2, 1) := by decide +kernel
theorem r82_25 {E : Nat → Value} {d : Nat} {st : List Value} {h : gm_H} {r : gm_R × gm_H} {a0 a1 : Value} {x : Nat} : gm_Go E d 82 25 [a0, a1, .ref x] st h r ↔ gm_Go E d 82 26 [a0, a1, .ref x] (.ref x :: st) h r := gr_loc m82 f82_25 rfl rfl
theorem r82_25n {E : Nat → Value} {d : Nat} {st : List Value} {h : gm_H} {r : gm_R × gm_H} {a0 a1 : Value}  : gm_Go E d 82 25 [a0, a1, .null] st h r ↔ gm_Go E d 82 26 [a0, a1, .null] (.null :: st) h r := gr_loc m82 f82_25 rfl rfl
theorem f82_26 : gm_ft 82 26 = some (.getfield 147, 3) := by decide +kernel
theorem r82_26 {E : Nat → Value} {d : Nat} {st : List Value} {h : gm_H} {r : gm_R × gm_H} {lv : List Value} {a : Nat} {vs : List Value} {v : Value} (hr : gm_rd h a = some (4, vs)) (hv : vs[2]? = some v) : gm_Go E d 82 26 lv (.ref a :: st) h r ↔ gm_Go E d 82 29 lv (v :: st) h r := gr_rd m82 f82_26 rfl rfl rfl rfl (gf_get k0_147 hr hv)
theorem f82_29 : gm_ft 82 29 = some (.arraylength, 1) := by decide +kernel
theorem r82_29 {E : Nat → Value} {d : Nat} {st : List Value} {h : gm_H} {r : gm_R × gm_H} {lv : List Value} {a k : Nat} {vs : List Value} (hr : gm_rd h a = some (k, vs)) (hk : 100 ≤ k) : gm_Go E d 82 29 lv (.ref a :: st) h r ↔ gm_Go E d 82 30 lv (.int (nI vs.length) :: st) h r := gr_rd m82 f82_29 rfl rfl rfl rfl (ga_len hr hk)
theorem f82_30 : gm_ft 82 30 = some (.iconst 1, 1) := by decide +kernel
theorem r82_30 {E : Nat → Value} {d : Nat} {st : List Value} {h : gm_H} {r : gm_R × gm_H} {lv : List Value} : gm_Go E d 82 30 lv st h r ↔ gm_Go E d 82 31 lv (.int (1 : Int32) :: st) h r := gr_pure m82 f82_30 rfl
theorem f82_31 : gm_ft 82 31 = some (.if_icmp .ne 16, 3) := by decide +kernel
theorem r82_31 {E : Nat → Value} {d : Nat} {st : List Value} {h : gm_H} {r : gm_R × gm_H} {lv : List Value} {x y : Int32} : gm_Go E d 82 31 lv (.int y :: .int x :: st) h r ↔ (if x = y then gm_Go E d 82 34 lv st h r else gm_Go E d 82 47 lv st h r) := (gr_br m82 f82_31 rfl rfl rfl rfl).trans gr_ifn
theorem f82_34 : gm_ft 82 34 = some (.aload_n 2, 1) := by decide +kernel
theorem r82_34 {E : Nat → Value} {d : Nat} {st : List Value} {h : gm_H} {r : gm_R × gm_H} {a0 a1 : Value} {x : Nat} : gm_Go E d 82 34 [a0, a1, .ref x] st h r ↔ gm_Go E d 82 35 [a0, a1, .ref x] (.ref x :: st) h r := gr_loc m82 f82_34 rfl rfl
theorem r82_34n {E : Nat → Value} {d : Nat} {st : List Value} {h : gm_H} {r : gm_R × gm_H} {a0 a1 : Value}  : gm_Go E d 82 34 [a0, a1, .null] st h r ↔ gm_Go E d 82 35 [a0, a1, .null] (.null :: st) h r := gr_loc m82 f82_34 rfl rfl
theorem f82_35 : gm_ft 82 35 = some (.getfield 147, 3) := by decide +kernel
theorem r82_35 {E : Nat → Value} {d : Nat} {st : List Value} {h : gm_H} {r : gm_R × gm_H} {lv : List Value} {a : Nat} {vs : List Value} {v : Value} (hr : gm_rd h a = some (4, vs)) (hv : vs[2]? = some v) : gm_Go E d 82 35 lv (.ref a :: st) h r ↔ gm_Go E d 82 38 lv (v :: st) h r := gr_rd m82 f82_35 rfl rfl rfl rfl (gf_get k0_147 hr hv)
theorem f82_38 : gm_ft 82 38 = some (.iconst 0, 1) := by decide +kernel
theorem r82_38 {E : Nat → Value} {d : Nat} {st : List Value} {h : gm_H} {r : gm_R × gm_H} {lv : List Value} : gm_Go E d 82 38 lv st h r ↔ gm_Go E d 82 39 lv (.int (0 : Int32) :: st) h r := gr_pure m82 f82_38 rfl
theorem f82_39 : gm_ft 82 39 = some (.laload, 1) := by decide +kernel
theorem r82_39 {E : Nat → Value} {d : Nat} {st : List Value} {h : gm_H} {r : gm_R × gm_H} {lv : List Value} {a k j : Nat} {vs : List Value} {v : Value} (hr : gm_rd h a = some (k, vs)) (hk : 100 ≤ k ∧ (fun t => t == 1) (k % 100) = true) (hj : j < 2 ^ 31) (hv : vs[j]? = some v) : gm_Go E d 82 39 lv (.int (nI j) :: .ref a :: st) h r ↔ gm_Go E d 82 40 lv (v :: st) h r := gr_rd m82 f82_39 rfl rfl rfl rfl (ga_ld (P := fun t => t == 1) hr hk hj hv)
theorem f82_40 : gm_ft 82 40 = some (.l2i, 1) := by decide +kernel
theorem r82_40 {E : Nat → Value} {d : Nat} {st : List Value} {h : gm_H} {r : gm_R × gm_H} {lv : List Value} {x : Int64} : gm_Go E d 82 40 lv (.long x :: st) h r ↔ gm_Go E d 82 41 lv (.int (x.toInt32) :: st) h r := gr_pure m82 f82_40 rfl
theorem f82_41 : gm_ft 82 41 = some (.bipush 97, 2) := by decide +kernel
theorem r82_41 {E : Nat → Value} {d : Nat} {st : List Value} {h : gm_H} {r : gm_R × gm_H} {lv : List Value} : gm_Go E d 82 41 lv st h r ↔ gm_Go E d 82 43 lv (.int (97 : Int32) :: st) h r := gr_pure m82 f82_41 rfl
theorem f82_43 : gm_ft 82 43 = some (.isub, 1) := by decide +kernel
theorem r82_43 {E : Nat → Value} {d : Nat} {st : List Value} {h : gm_H} {r : gm_R × gm_H} {lv : List Value} {x y : Int32} : gm_Go E d 82 43 lv (.int y :: .int x :: st) h r ↔ gm_Go E d 82 44 lv (.int (x - y) :: st) h r := gr_pure m82 f82_43 rfl
theorem f82_44 : gm_ft 82 44 = some (.goto 4, 3) := by decide +kernel
theorem r82_44 {E : Nat → Value} {d : Nat} {st : List Value} {h : gm_H} {r : gm_R × gm_H} {lv : List Value} : gm_Go E d 82 44 lv st h r ↔ gm_Go E d 82 48 lv st h r := gr_brT m82 f82_44 rfl rfl rfl rfl
theorem f82_47 : gm_ft 82 47 = some (.iconst (-1), 1) := by decide +kernel
theorem r82_47 {E : Nat → Value} {d : Nat} {st : List Value} {h : gm_H} {r : gm_R × gm_H} {lv : List Value} : gm_Go E d 82 47 lv st h r ↔ gm_Go E d 82 48 lv (.int (-1 : Int32) :: st) h r := gr_pure m82 f82_47 rfl
theorem f82_48 : gm_ft 82 48 = some (.ireturn, 1) := by decide +kernel
theorem r82_48 {E : Nat → Value} {d : Nat} {h : gm_H} {r : gm_R × gm_H} {lv : List Value} {x : Int32} : gm_Go E d 82 48 lv [.int x] h r ↔ r = (.inl (some (.int x)), h) := gr_ret m82 f82_48 rfl rfl rfl rfl rfl rfl rfl rfl (by unfold gm_rt; dsimp only; rw [if_pos ⟨rfl, rfl⟩])
/-! GraphReader.onlyConstant(LGraphReader$LocalClass;I)I -/
theorem m83 : gm_mt[83]? = some (⟨"GraphReader", "onlyConstant", "(LGraphReader$LocalClass;I)I"⟩, prog_1_method_39_code, 4, (some .int), [], 0, 1) := rfl
theorem f83_0 : gm_ft 83 0 = some (.iconst 0, 1) := by decide +kernel
theorem r83_0 {E : Nat → Value} {d : Nat} {st : List Value} {h : gm_H} {r : gm_R × gm_H} {lv : List Value} : gm_Go E d 83 0 lv st h r ↔ gm_Go E d 83 1 lv (.int (0 : Int32) :: st) h r := gr_pure m83 f83_0 rfl
theorem f83_1 : gm_ft 83 1 = some (.istore_n 3, 1) := by decide +kernel
theorem r83_1 {E : Nat → Value} {d : Nat} {st : List Value} {h : gm_H} {r : gm_R × gm_H} {a0 a1 a2 a3 : Value} {x : Int32} : gm_Go E d 83 1 [a0, a1, a2, a3] (.int x :: st) h r ↔ gm_Go E d 83 2 [a0, a1, gm_k a2, .int x] st h r := gr_loc m83 f83_1 rfl rfl
theorem f83_2 : gm_ft 83 2 = some (.iload_n 3, 1) := by decide +kernel
theorem r83_2 {E : Nat → Value} {d : Nat} {st : List Value} {h : gm_H} {r : gm_R × gm_H} {a0 a1 a2 : Value} {x : Int32} : gm_Go E d 83 2 [a0, a1, a2, .int x] st h r ↔ gm_Go E d 83 3 [a0, a1, a2, .int x] (.int x :: st) h r := gr_loc m83 f83_2 rfl rfl
theorem f83_3 : gm_ft 83 3 = some (.aload_n 0, 1) := by decide +kernel
theorem r83_3 {E : Nat → Value} {d : Nat} {st : List Value} {h : gm_H} {r : gm_R × gm_H} {a1 a2 a3 : Value} {x : Nat} : gm_Go E d 83 3 [.ref x, a1, a2, a3] st h r ↔ gm_Go E d 83 4 [.ref x, a1, a2, a3] (.ref x :: st) h r := gr_loc m83 f83_3 rfl rfl
theorem r83_3n {E : Nat → Value} {d : Nat} {st : List Value} {h : gm_H} {r : gm_R × gm_H} {a1 a2 a3 : Value}  : gm_Go E d 83 3 [.null, a1, a2, a3] st h r ↔ gm_Go E d 83 4 [.null, a1, a2, a3] (.null :: st) h r := gr_loc m83 f83_3 rfl rfl
theorem f83_4 : gm_ft 83 4 = some (.getfield 72, 3) := by decide +kernel
theorem r83_4 {E : Nat → Value} {d : Nat} {st : List Value} {h : gm_H} {r : gm_R × gm_H} {lv : List Value} {a : Nat} {vs : List Value} {v : Value} (hr : gm_rd h a = some (0, vs)) (hv : vs[9]? = some v) : gm_Go E d 83 4 lv (.ref a :: st) h r ↔ gm_Go E d 83 7 lv (v :: st) h r := gr_rd m83 f83_4 rfl rfl rfl rfl (gf_get k0_72 hr hv)
theorem f83_7 : gm_ft 83 7 = some (.if_icmp .ge 50, 3) := by decide +kernel
theorem r83_7 {E : Nat → Value} {d : Nat} {st : List Value} {h : gm_H} {r : gm_R × gm_H} {lv : List Value} {x y : Int32} : gm_Go E d 83 7 lv (.int y :: .int x :: st) h r ↔ (if y ≤ x then gm_Go E d 83 57 lv st h r else gm_Go E d 83 10 lv st h r) := (gr_br m83 f83_7 rfl rfl rfl rfl).trans gr_if
theorem f83_10 : gm_ft 83 10 = some (.aload_n 0, 1) := by decide +kernel
theorem r83_10 {E : Nat → Value} {d : Nat} {st : List Value} {h : gm_H} {r : gm_R × gm_H} {a1 a2 a3 : Value} {x : Nat} : gm_Go E d 83 10 [.ref x, a1, a2, a3] st h r ↔ gm_Go E d 83 11 [.ref x, a1, a2, a3] (.ref x :: st) h r := gr_loc m83 f83_10 rfl rfl
theorem r83_10n {E : Nat → Value} {d : Nat} {st : List Value} {h : gm_H} {r : gm_R × gm_H} {a1 a2 a3 : Value}  : gm_Go E d 83 10 [.null, a1, a2, a3] st h r ↔ gm_Go E d 83 11 [.null, a1, a2, a3] (.null :: st) h r := gr_loc m83 f83_10 rfl rfl
theorem f83_11 : gm_ft 83 11 = some (.getfield 21, 3) := by decide +kernel
theorem r83_11 {E : Nat → Value} {d : Nat} {st : List Value} {h : gm_H} {r : gm_R × gm_H} {lv : List Value} {a : Nat} {vs : List Value} {v : Value} (hr : gm_rd h a = some (0, vs)) (hv : vs[8]? = some v) : gm_Go E d 83 11 lv (.ref a :: st) h r ↔ gm_Go E d 83 14 lv (v :: st) h r := gr_rd m83 f83_11 rfl rfl rfl rfl (gf_get k0_21 hr hv)
theorem f83_14 : gm_ft 83 14 = some (.iload_n 3, 1) := by decide +kernel
theorem r83_14 {E : Nat → Value} {d : Nat} {st : List Value} {h : gm_H} {r : gm_R × gm_H} {a0 a1 a2 : Value} {x : Int32} : gm_Go E d 83 14 [a0, a1, a2, .int x] st h r ↔ gm_Go E d 83 15 [a0, a1, a2, .int x] (.int x :: st) h r := gr_loc m83 f83_14 rfl rfl
theorem f83_15 : gm_ft 83 15 = some (.aaload, 1) := by decide +kernel
theorem r83_15 {E : Nat → Value} {d : Nat} {st : List Value} {h : gm_H} {r : gm_R × gm_H} {lv : List Value} {a k j : Nat} {vs : List Value} {v : Value} (hr : gm_rd h a = some (k, vs)) (hk : 100 ≤ k ∧ (fun t => t == 10 || t == 11 || t == 12) (k % 100) = true) (hj : j < 2 ^ 31) (hv : vs[j]? = some v) : gm_Go E d 83 15 lv (.int (nI j) :: .ref a :: st) h r ↔ gm_Go E d 83 16 lv (v :: st) h r := gr_rd m83 f83_15 rfl rfl rfl rfl (ga_ld (P := fun t => t == 10 || t == 11 || t == 12) hr hk hj hv)
theorem f83_16 : gm_ft 83 16 = some (.getfield 134, 3) := by decide +kernel
theorem r83_16 {E : Nat → Value} {d : Nat} {st : List Value} {h : gm_H} {r : gm_R × gm_H} {lv : List Value} {a : Nat} {vs : List Value} {v : Value} (hr : gm_rd h a = some (4, vs)) (hv : vs[0]? = some v) : gm_Go E d 83 16 lv (.ref a :: st) h r ↔ gm_Go E d 83 19 lv (v :: st) h r := gr_rd m83 f83_16 rfl rfl rfl rfl (gf_get k0_134 hr hv)
theorem f83_19 : gm_ft 83 19 = some (.iconst 4, 1) := by decide +kernel
theorem r83_19 {E : Nat → Value} {d : Nat} {st : List Value} {h : gm_H} {r : gm_R × gm_H} {lv : List Value} : gm_Go E d 83 19 lv st h r ↔ gm_Go E d 83 20 lv (.int (4 : Int32) :: st) h r := gr_pure m83 f83_19 rfl
theorem f83_20 : gm_ft 83 20 = some (.if_icmp .ne 31, 3) := by decide +kernel
theorem r83_20 {E : Nat → Value} {d : Nat} {st : List Value} {h : gm_H} {r : gm_R × gm_H} {lv : List Value} {x y : Int32} : gm_Go E d 83 20 lv (.int y :: .int x :: st) h r ↔ (if x = y then gm_Go E d 83 23 lv st h r else gm_Go E d 83 51 lv st h r) := (gr_br m83 f83_20 rfl rfl rfl rfl).trans gr_ifn
theorem f83_23 : gm_ft 83 23 = some (.aload_n 0, 1) := by decide +kernel
theorem r83_23 {E : Nat → Value} {d : Nat} {st : List Value} {h : gm_H} {r : gm_R × gm_H} {a1 a2 a3 : Value} {x : Nat} : gm_Go E d 83 23 [.ref x, a1, a2, a3] st h r ↔ gm_Go E d 83 24 [.ref x, a1, a2, a3] (.ref x :: st) h r := gr_loc m83 f83_23 rfl rfl
theorem r83_23n {E : Nat → Value} {d : Nat} {st : List Value} {h : gm_H} {r : gm_R × gm_H} {a1 a2 a3 : Value}  : gm_Go E d 83 23 [.null, a1, a2, a3] st h r ↔ gm_Go E d 83 24 [.null, a1, a2, a3] (.null :: st) h r := gr_loc m83 f83_23 rfl rfl
theorem f83_24 : gm_ft 83 24 = some (.getfield 21, 3) := by decide +kernel
theorem r83_24 {E : Nat → Value} {d : Nat} {st : List Value} {h : gm_H} {r : gm_R × gm_H} {lv : List Value} {a : Nat} {vs : List Value} {v : Value} (hr : gm_rd h a = some (0, vs)) (hv : vs[8]? = some v) : gm_Go E d 83 24 lv (.ref a :: st) h r ↔ gm_Go E d 83 27 lv (v :: st) h r := gr_rd m83 f83_24 rfl rfl rfl rfl (gf_get k0_21 hr hv)
theorem f83_27 : gm_ft 83 27 = some (.iload_n 3, 1) := by decide +kernel
theorem r83_27 {E : Nat → Value} {d : Nat} {st : List Value} {h : gm_H} {r : gm_R × gm_H} {a0 a1 a2 : Value} {x : Int32} : gm_Go E d 83 27 [a0, a1, a2, .int x] st h r ↔ gm_Go E d 83 28 [a0, a1, a2, .int x] (.int x :: st) h r := gr_loc m83 f83_27 rfl rfl
theorem f83_28 : gm_ft 83 28 = some (.aaload, 1) := by decide +kernel
theorem r83_28 {E : Nat → Value} {d : Nat} {st : List Value} {h : gm_H} {r : gm_R × gm_H} {lv : List Value} {a k j : Nat} {vs : List Value} {v : Value} (hr : gm_rd h a = some (k, vs)) (hk : 100 ≤ k ∧ (fun t => t == 10 || t == 11 || t == 12) (k % 100) = true) (hj : j < 2 ^ 31) (hv : vs[j]? = some v) : gm_Go E d 83 28 lv (.int (nI j) :: .ref a :: st) h r ↔ gm_Go E d 83 29 lv (v :: st) h r := gr_rd m83 f83_28 rfl rfl rfl rfl (ga_ld (P := fun t => t == 10 || t == 11 || t == 12) hr hk hj hv)
theorem f83_29 : gm_ft 83 29 = some (.getfield 137, 3) := by decide +kernel
theorem r83_29 {E : Nat → Value} {d : Nat} {st : List Value} {h : gm_H} {r : gm_R × gm_H} {lv : List Value} {a : Nat} {vs : List Value} {v : Value} (hr : gm_rd h a = some (4, vs)) (hv : vs[1]? = some v) : gm_Go E d 83 29 lv (.ref a :: st) h r ↔ gm_Go E d 83 32 lv (v :: st) h r := gr_rd m83 f83_29 rfl rfl rfl rfl (gf_get k0_137 hr hv)
theorem f83_32 : gm_ft 83 32 = some (.aload_n 1, 1) := by decide +kernel
theorem r83_32 {E : Nat → Value} {d : Nat} {st : List Value} {h : gm_H} {r : gm_R × gm_H} {a0 a2 a3 : Value} {x : Nat} : gm_Go E d 83 32 [a0, .ref x, a2, a3] st h r ↔ gm_Go E d 83 33 [a0, .ref x, a2, a3] (.ref x :: st) h r := gr_loc m83 f83_32 rfl rfl
theorem r83_32n {E : Nat → Value} {d : Nat} {st : List Value} {h : gm_H} {r : gm_R × gm_H} {a0 a2 a3 : Value}  : gm_Go E d 83 32 [a0, .null, a2, a3] st h r ↔ gm_Go E d 83 33 [a0, .null, a2, a3] (.null :: st) h r := gr_loc m83 f83_32 rfl rfl
theorem f83_33 : gm_ft 83 33 = some (.if_acmp .ne 18, 3) := by decide +kernel
theorem r83_33 {E : Nat → Value} {d : Nat} {st : List Value} {h : gm_H} {r : gm_R × gm_H} {lv : List Value} {u v : Nat} : gm_Go E d 83 33 lv (.ref v :: .ref u :: st) h r ↔ (if u = v then gm_Go E d 83 36 lv st h r else gm_Go E d 83 51 lv st h r) := (gr_br m83 f83_33 rfl rfl rfl rfl).trans gr_acn
theorem f83_36 : gm_ft 83 36 = some (.aload_n 0, 1) := by decide +kernel
theorem r83_36 {E : Nat → Value} {d : Nat} {st : List Value} {h : gm_H} {r : gm_R × gm_H} {a1 a2 a3 : Value} {x : Nat} : gm_Go E d 83 36 [.ref x, a1, a2, a3] st h r ↔ gm_Go E d 83 37 [.ref x, a1, a2, a3] (.ref x :: st) h r := gr_loc m83 f83_36 rfl rfl
theorem r83_36n {E : Nat → Value} {d : Nat} {st : List Value} {h : gm_H} {r : gm_R × gm_H} {a1 a2 a3 : Value}  : gm_Go E d 83 36 [.null, a1, a2, a3] st h r ↔ gm_Go E d 83 37 [.null, a1, a2, a3] (.null :: st) h r := gr_loc m83 f83_36 rfl rfl
theorem f83_37 : gm_ft 83 37 = some (.getfield 21, 3) := by decide +kernel
theorem r83_37 {E : Nat → Value} {d : Nat} {st : List Value} {h : gm_H} {r : gm_R × gm_H} {lv : List Value} {a : Nat} {vs : List Value} {v : Value} (hr : gm_rd h a = some (0, vs)) (hv : vs[8]? = some v) : gm_Go E d 83 37 lv (.ref a :: st) h r ↔ gm_Go E d 83 40 lv (v :: st) h r := gr_rd m83 f83_37 rfl rfl rfl rfl (gf_get k0_21 hr hv)
theorem f83_40 : gm_ft 83 40 = some (.iload_n 3, 1) := by decide +kernel
theorem r83_40 {E : Nat → Value} {d : Nat} {st : List Value} {h : gm_H} {r : gm_R × gm_H} {a0 a1 a2 : Value} {x : Int32} : gm_Go E d 83 40 [a0, a1, a2, .int x] st h r ↔ gm_Go E d 83 41 [a0, a1, a2, .int x] (.int x :: st) h r := gr_loc m83 f83_40 rfl rfl
theorem f83_41 : gm_ft 83 41 = some (.aaload, 1) := by decide +kernel
theorem r83_41 {E : Nat → Value} {d : Nat} {st : List Value} {h : gm_H} {r : gm_R × gm_H} {lv : List Value} {a k j : Nat} {vs : List Value} {v : Value} (hr : gm_rd h a = some (k, vs)) (hk : 100 ≤ k ∧ (fun t => t == 10 || t == 11 || t == 12) (k % 100) = true) (hj : j < 2 ^ 31) (hv : vs[j]? = some v) : gm_Go E d 83 41 lv (.int (nI j) :: .ref a :: st) h r ↔ gm_Go E d 83 42 lv (v :: st) h r := gr_rd m83 f83_41 rfl rfl rfl rfl (ga_ld (P := fun t => t == 10 || t == 11 || t == 12) hr hk hj hv)
theorem f83_42 : gm_ft 83 42 = some (.getfield 144, 3) := by decide +kernel
theorem r83_42 {E : Nat → Value} {d : Nat} {st : List Value} {h : gm_H} {r : gm_R × gm_H} {lv : List Value} {a : Nat} {vs : List Value} {v : Value} (hr : gm_rd h a = some (4, vs)) (hv : vs[3]? = some v) : gm_Go E d 83 42 lv (.ref a :: st) h r ↔ gm_Go E d 83 45 lv (v :: st) h r := gr_rd m83 f83_42 rfl rfl rfl rfl (gf_get k0_144 hr hv)
theorem f83_45 : gm_ft 83 45 = some (.iload_n 2, 1) := by decide +kernel
theorem r83_45 {E : Nat → Value} {d : Nat} {st : List Value} {h : gm_H} {r : gm_R × gm_H} {a0 a1 a3 : Value} {x : Int32} : gm_Go E d 83 45 [a0, a1, .int x, a3] st h r ↔ gm_Go E d 83 46 [a0, a1, .int x, a3] (.int x :: st) h r := gr_loc m83 f83_45 rfl rfl
theorem f83_46 : gm_ft 83 46 = some (.if_icmp .ne 5, 3) := by decide +kernel
theorem r83_46 {E : Nat → Value} {d : Nat} {st : List Value} {h : gm_H} {r : gm_R × gm_H} {lv : List Value} {x y : Int32} : gm_Go E d 83 46 lv (.int y :: .int x :: st) h r ↔ (if x = y then gm_Go E d 83 49 lv st h r else gm_Go E d 83 51 lv st h r) := (gr_br m83 f83_46 rfl rfl rfl rfl).trans gr_ifn
theorem f83_49 : gm_ft 83 49 = some (.iload_n 3, 1) := by decide +kernel
theorem r83_49 {E : Nat → Value} {d : Nat} {st : List Value} {h : gm_H} {r : gm_R × gm_H} {a0 a1 a2 : Value} {x : Int32} : gm_Go E d 83 49 [a0, a1, a2, .int x] st h r ↔ gm_Go E d 83 50 [a0, a1, a2, .int x] (.int x :: st) h r := gr_loc m83 f83_49 rfl rfl
theorem f83_50 : gm_ft 83 50 = some (.ireturn, 1) := by decide +kernel
theorem r83_50 {E : Nat → Value} {d : Nat} {h : gm_H} {r : gm_R × gm_H} {lv : List Value} {x : Int32} : gm_Go E d 83 50 lv [.int x] h r ↔ r = (.inl (some (.int x)), h) := gr_ret m83 f83_50 rfl rfl rfl rfl rfl rfl rfl rfl (by unfold gm_rt; dsimp only; rw [if_pos ⟨rfl, rfl⟩])
theorem f83_51 : gm_ft 83 51 = some (.iinc 3 1, 3) := by decide +kernel
theorem r83_51 {E : Nat → Value} {d : Nat} {st : List Value} {h : gm_H} {r : gm_R × gm_H} {a0 a1 a2 : Value} {x : Int32} : gm_Go E d 83 51 [a0, a1, a2, .int x] st h r ↔ gm_Go E d 83 54 [a0, a1, gm_k a2, .int (x + (1 : Int32))] st h r := gr_loc m83 f83_51 rfl rfl
theorem f83_54 : gm_ft 83 54 = some (.goto (-52), 3) := by decide +kernel
theorem r83_54 {E : Nat → Value} {d : Nat} {st : List Value} {h : gm_H} {r : gm_R × gm_H} {lv : List Value} : gm_Go E d 83 54 lv st h r ↔ gm_Go E d 83 2 lv st h r := gr_brT m83 f83_54 rfl rfl rfl rfl
theorem f83_57 : gm_ft 83 57 = some (.new 19, 3) := by decide +kernel
theorem r83_57 {E : Nat → Value} {d : Nat} {st : List Value} {h : gm_H} {r : gm_R × gm_H} {lv : List Value} : gm_Go E d 83 57 lv st h r ↔ gm_Go E d 83 60 lv (.ref h.1 :: st) (gm_nw h (4, (List.range (gm_N 4)).map (fun k => defaultValue (gm_ty 4 k))) (gm_N 4)) r := gr_nw m83 f83_57 rfl rfl rfl rfl rfl rfl rfl
theorem f83_60 : gm_ft 83 60 = some (.dup, 1) := by decide +kernel
theorem r83_60 {E : Nat → Value} {d : Nat} {st : List Value} {h : gm_H} {r : gm_R × gm_H} {lv : List Value} {a : Nat} : gm_Go E d 83 60 lv (.ref a :: st) h r ↔ gm_Go E d 83 61 lv (.ref a :: .ref a :: st) h r := gr_pure m83 f83_60 rfl
theorem r83_60i {E : Nat → Value} {d : Nat} {st : List Value} {h : gm_H} {r : gm_R × gm_H} {lv : List Value} {x : Int32} : gm_Go E d 83 60 lv (.int x :: st) h r ↔ gm_Go E d 83 61 lv (.int x :: .int x :: st) h r := gr_pure m83 f83_60 rfl
theorem f83_61 : gm_ft 83 61 = some (.iconst 4, 1) := by decide +kernel
theorem r83_61 {E : Nat → Value} {d : Nat} {st : List Value} {h : gm_H} {r : gm_R × gm_H} {lv : List Value} : gm_Go E d 83 61 lv st h r ↔ gm_Go E d 83 62 lv (.int (4 : Int32) :: st) h r := gr_pure m83 f83_61 rfl
theorem f83_62 : gm_ft 83 62 = some (.aload_n 1, 1) := by decide +kernel
theorem r83_62 {E : Nat → Value} {d : Nat} {st : List Value} {h : gm_H} {r : gm_R × gm_H} {a0 a2 a3 : Value} {x : Nat} : gm_Go E d 83 62 [a0, .ref x, a2, a3] st h r ↔ gm_Go E d 83 63 [a0, .ref x, a2, a3] (.ref x :: st) h r := gr_loc m83 f83_62 rfl rfl
theorem r83_62n {E : Nat → Value} {d : Nat} {st : List Value} {h : gm_H} {r : gm_R × gm_H} {a0 a2 a3 : Value}  : gm_Go E d 83 62 [a0, .null, a2, a3] st h r ↔ gm_Go E d 83 63 [a0, .null, a2, a3] (.null :: st) h r := gr_loc m83 f83_62 rfl rfl
theorem f83_63 : gm_ft 83 63 = some (.iconst 0, 1) := by decide +kernel
theorem r83_63 {E : Nat → Value} {d : Nat} {st : List Value} {h : gm_H} {r : gm_R × gm_H} {lv : List Value} : gm_Go E d 83 63 lv st h r ↔ gm_Go E d 83 64 lv (.int (0 : Int32) :: st) h r := gr_pure m83 f83_63 rfl
theorem f83_64 : gm_ft 83 64 = some (.invokespecial 228, 3) := by decide +kernel
theorem n83_64 {st : List Value} {h : gm_H} {E : Nat → Value} {lv : List Value} {b0 b1 b2 : Value} {a : Nat} (hs : (st.map fun v => v.category).sum ≤ 8) (he : (gm_en1 [.ref a, b0, b1, b2]).length ≤ 4) : gm_next E 83 64 lv (b2 :: b1 :: b0 :: .ref a :: st) h = some (.inr (.inl (2, 61, [.ref a, b0, b1, b2], st))) := gn_call m83 f83_64 rfl rfl rfl rfl rfl rfl rfl (gc_init (bs := [b2, b1, b0]) (w := 518) rfl rfl rfl hs he (by decide)) (by decide)
theorem f83_67 : gm_ft 83 67 = some (.astore_n 3, 1) := by decide +kernel
theorem r83_67 {E : Nat → Value} {d : Nat} {st : List Value} {h : gm_H} {r : gm_R × gm_H} {a0 a1 a2 a3 : Value} {x : Nat} : gm_Go E d 83 67 [a0, a1, a2, a3] (.ref x :: st) h r ↔ gm_Go E d 83 68 [a0, a1, gm_k a2, .ref x] st h r := gr_loc m83 f83_67 rfl rfl
theorem r83_67n {E : Nat → Value} {d : Nat} {st : List Value} {h : gm_H} {r : gm_R × gm_H} {a0 a1 a2 a3 : Value}  : gm_Go E d 83 67 [a0, a1, a2, a3] (.null :: st) h r ↔ gm_Go E d 83 68 [a0, a1, gm_k a2, .null] st h r := gr_loc m83 f83_67 rfl rfl
theorem f83_68 : gm_ft 83 68 = some (.aload_n 3, 1) := by decide +kernel
theorem r83_68 {E : Nat → Value} {d : Nat} {st : List Value} {h : gm_H} {r : gm_R × gm_H} {a0 a1 a2 : Value} {x : Nat} : gm_Go E d 83 68 [a0, a1, a2, .ref x] st h r ↔ gm_Go E d 83 69 [a0, a1, a2, .ref x] (.ref x :: st) h r := gr_loc m83 f83_68 rfl rfl
theorem r83_68n {E : Nat → Value} {d : Nat} {st : List Value} {h : gm_H} {r : gm_R × gm_H} {a0 a1 a2 : Value}  : gm_Go E d 83 68 [a0, a1, a2, .null] st h r ↔ gm_Go E d 83 69 [a0, a1, a2, .null] (.null :: st) h r := gr_loc m83 f83_68 rfl rfl
theorem f83_69 : gm_ft 83 69 = some (.iload_n 2, 1) := by decide +kernel
theorem r83_69 {E : Nat → Value} {d : Nat} {st : List Value} {h : gm_H} {r : gm_R × gm_H} {a0 a1 a3 : Value} {x : Int32} : gm_Go E d 83 69 [a0, a1, .int x, a3] st h r ↔ gm_Go E d 83 70 [a0, a1, .int x, a3] (.int x :: st) h r := gr_loc m83 f83_69 rfl rfl
theorem f83_70 : gm_ft 83 70 = some (.putfield 144, 3) := by decide +kernel
theorem r83_70 {E : Nat → Value} {d : Nat} {st : List Value} {h : gm_H} {r : gm_R × gm_H} {lv : List Value} {a : Nat} {vs : List Value} {v : Value} (hr : gm_rd h a = some (4, vs)) (hk : 3 < vs.length) (hn : narrow (gm_ty 4 3) v = v ∧ fits (gm_ty 4 3) v = true) : gm_Go E d 83 70 lv (v :: .ref a :: st) h r ↔ gm_Go E d 83 73 lv st (gm_wr h a (4, vs.set 3 v)) r := gr_wr m83 f83_70 rfl rfl rfl rfl rfl (gf_put k0_144 hr (by decide) hk hn (by decide))
theorem f83_73 : gm_ft 83 73 = some (.aload_n 0, 1) := by decide +kernel
theorem r83_73 {E : Nat → Value} {d : Nat} {st : List Value} {h : gm_H} {r : gm_R × gm_H} {a1 a2 a3 : Value} {x : Nat} : gm_Go E d 83 73 [.ref x, a1, a2, a3] st h r ↔ gm_Go E d 83 74 [.ref x, a1, a2, a3] (.ref x :: st) h r := gr_loc m83 f83_73 rfl rfl
theorem r83_73n {E : Nat → Value} {d : Nat} {st : List Value} {h : gm_H} {r : gm_R × gm_H} {a1 a2 a3 : Value}  : gm_Go E d 83 73 [.null, a1, a2, a3] st h r ↔ gm_Go E d 83 74 [.null, a1, a2, a3] (.null :: st) h r := gr_loc m83 f83_73 rfl rfl
theorem f83_74 : gm_ft 83 74 = some (.aload_n 3, 1) := by decide +kernel
theorem r83_74 {E : Nat → Value} {d : Nat} {st : List Value} {h : gm_H} {r : gm_R × gm_H} {a0 a1 a2 : Value} {x : Nat} : gm_Go E d 83 74 [a0, a1, a2, .ref x] st h r ↔ gm_Go E d 83 75 [a0, a1, a2, .ref x] (.ref x :: st) h r := gr_loc m83 f83_74 rfl rfl
theorem r83_74n {E : Nat → Value} {d : Nat} {st : List Value} {h : gm_H} {r : gm_R × gm_H} {a0 a1 a2 : Value}  : gm_Go E d 83 74 [a0, a1, a2, .null] st h r ↔ gm_Go E d 83 75 [a0, a1, a2, .null] (.null :: st) h r := gr_loc m83 f83_74 rfl rfl
theorem f83_75 : gm_ft 83 75 = some (.invokevirtual 231, 3) := by decide +kernel
theorem n83_75 {st : List Value} {h : gm_H} {E : Nat → Value} {lv : List Value} {b0 : Value} {a : Nat} (hs : (st.map fun v => v.category).sum ≤ 8) (he : (gm_en1 [.ref a, b0]).length ≤ 2) {vs : List Value} (hr : gm_rd h a = some (0, vs)) : gm_next E 83 75 lv (b0 :: .ref a :: st) h = some (.inr (.inl (0, 65, [.ref a, b0], st))) := gn_call m83 f83_75 rfl rfl rfl rfl rfl rfl rfl (gc_virt (bs := [b0]) (w := 555) rfl rfl rfl rfl hs he hr) (by decide)
theorem f83_78 : gm_ft 83 78 = some (.ireturn, 1) := by decide +kernel
theorem r83_78 {E : Nat → Value} {d : Nat} {h : gm_H} {r : gm_R × gm_H} {lv : List Value} {x : Int32} : gm_Go E d 83 78 lv [.int x] h r ↔ r = (.inl (some (.int x)), h) := gr_ret m83 f83_78 rfl rfl rfl rfl rfl rfl rfl rfl (by unfold gm_rt; dsimp only; rw [if_pos ⟨rfl, rfl⟩])
/-! GraphReader.passBlock()I -/
theorem m84 : gm_mt[84]? = some (⟨"GraphReader", "passBlock", "()I"⟩, prog_1_method_8_code, 3, (some .int), [(45, 49, 50, 120)], 0, 1) := rfl
theorem f84_0 : gm_ft 84 0 = some (.aload_n 0, 1) := by decide +kernel
theorem r84_0 {E : Nat → Value} {d : Nat} {st : List Value} {h : gm_H} {r : gm_R × gm_H} {a1 a2 : Value} {x : Nat} : gm_Go E d 84 0 [.ref x, a1, a2] st h r ↔ gm_Go E d 84 1 [.ref x, a1, a2] (.ref x :: st) h r := gr_loc m84 f84_0 rfl rfl
theorem r84_0n {E : Nat → Value} {d : Nat} {st : List Value} {h : gm_H} {r : gm_R × gm_H} {a1 a2 : Value}  : gm_Go E d 84 0 [.null, a1, a2] st h r ↔ gm_Go E d 84 1 [.null, a1, a2] (.null :: st) h r := gr_loc m84 f84_0 rfl rfl
theorem f84_1 : gm_ft 84 1 = some (.getfield 102, 3) := by decide +kernel
theorem r84_1 {E : Nat → Value} {d : Nat} {st : List Value} {h : gm_H} {r : gm_R × gm_H} {lv : List Value} {a : Nat} {vs : List Value} {v : Value} (hr : gm_rd h a = some (0, vs)) (hv : vs[11]? = some v) : gm_Go E d 84 1 lv (.ref a :: st) h r ↔ gm_Go E d 84 4 lv (v :: st) h r := gr_rd m84 f84_1 rfl rfl rfl rfl (gf_get k0_102 hr hv)
theorem f84_4 : gm_ft 84 4 = some (.ifCond .eq 8, 3) := by decide +kernel
theorem r84_4 {E : Nat → Value} {d : Nat} {st : List Value} {h : gm_H} {r : gm_R × gm_H} {lv : List Value} {x : Int32} : gm_Go E d 84 4 lv (.int x :: st) h r ↔ (if x = 0 then gm_Go E d 84 12 lv st h r else gm_Go E d 84 7 lv st h r) := (gr_br m84 f84_4 rfl rfl rfl rfl).trans gr_if
theorem f84_7 : gm_ft 84 7 = some (.aload_n 0, 1) := by decide +kernel
theorem r84_7 {E : Nat → Value} {d : Nat} {st : List Value} {h : gm_H} {r : gm_R × gm_H} {a1 a2 : Value} {x : Nat} : gm_Go E d 84 7 [.ref x, a1, a2] st h r ↔ gm_Go E d 84 8 [.ref x, a1, a2] (.ref x :: st) h r := gr_loc m84 f84_7 rfl rfl
theorem r84_7n {E : Nat → Value} {d : Nat} {st : List Value} {h : gm_H} {r : gm_R × gm_H} {a1 a2 : Value}  : gm_Go E d 84 7 [.null, a1, a2] st h r ↔ gm_Go E d 84 8 [.null, a1, a2] (.null :: st) h r := gr_loc m84 f84_7 rfl rfl
theorem f84_8 : gm_ft 84 8 = some (.getfield 102, 3) := by decide +kernel
theorem r84_8 {E : Nat → Value} {d : Nat} {st : List Value} {h : gm_H} {r : gm_R × gm_H} {lv : List Value} {a : Nat} {vs : List Value} {v : Value} (hr : gm_rd h a = some (0, vs)) (hv : vs[11]? = some v) : gm_Go E d 84 8 lv (.ref a :: st) h r ↔ gm_Go E d 84 11 lv (v :: st) h r := gr_rd m84 f84_8 rfl rfl rfl rfl (gf_get k0_102 hr hv)
theorem f84_11 : gm_ft 84 11 = some (.ireturn, 1) := by decide +kernel
theorem r84_11 {E : Nat → Value} {d : Nat} {h : gm_H} {r : gm_R × gm_H} {lv : List Value} {x : Int32} : gm_Go E d 84 11 lv [.int x] h r ↔ r = (.inl (some (.int x)), h) := gr_ret m84 f84_11 rfl rfl rfl rfl rfl rfl rfl rfl (by unfold gm_rt; dsimp only; rw [if_pos ⟨rfl, rfl⟩])
theorem f84_12 : gm_ft 84 12 = some (.aload_n 0, 1) := by decide +kernel
theorem r84_12 {E : Nat → Value} {d : Nat} {st : List Value} {h : gm_H} {r : gm_R × gm_H} {a1 a2 : Value} {x : Nat} : gm_Go E d 84 12 [.ref x, a1, a2] st h r ↔ gm_Go E d 84 13 [.ref x, a1, a2] (.ref x :: st) h r := gr_loc m84 f84_12 rfl rfl
theorem r84_12n {E : Nat → Value} {d : Nat} {st : List Value} {h : gm_H} {r : gm_R × gm_H} {a1 a2 : Value}  : gm_Go E d 84 12 [.null, a1, a2] st h r ↔ gm_Go E d 84 13 [.null, a1, a2] (.null :: st) h r := gr_loc m84 f84_12 rfl rfl
theorem f84_13 : gm_ft 84 13 = some (.getfield 96, 3) := by decide +kernel
theorem r84_13 {E : Nat → Value} {d : Nat} {st : List Value} {h : gm_H} {r : gm_R × gm_H} {lv : List Value} {a : Nat} {vs : List Value} {v : Value} (hr : gm_rd h a = some (0, vs)) (hv : vs[7]? = some v) : gm_Go E d 84 13 lv (.ref a :: st) h r ↔ gm_Go E d 84 16 lv (v :: st) h r := gr_rd m84 f84_13 rfl rfl rfl rfl (gf_get k0_96 hr hv)
theorem f84_16 : gm_ft 84 16 = some (.aload_n 0, 1) := by decide +kernel
theorem r84_16 {E : Nat → Value} {d : Nat} {st : List Value} {h : gm_H} {r : gm_R × gm_H} {a1 a2 : Value} {x : Nat} : gm_Go E d 84 16 [.ref x, a1, a2] st h r ↔ gm_Go E d 84 17 [.ref x, a1, a2] (.ref x :: st) h r := gr_loc m84 f84_16 rfl rfl
theorem r84_16n {E : Nat → Value} {d : Nat} {st : List Value} {h : gm_H} {r : gm_R × gm_H} {a1 a2 : Value}  : gm_Go E d 84 16 [.null, a1, a2] st h r ↔ gm_Go E d 84 17 [.null, a1, a2] (.null :: st) h r := gr_loc m84 f84_16 rfl rfl
theorem f84_17 : gm_ft 84 17 = some (.getfield 93, 3) := by decide +kernel
theorem r84_17 {E : Nat → Value} {d : Nat} {st : List Value} {h : gm_H} {r : gm_R × gm_H} {lv : List Value} {a : Nat} {vs : List Value} {v : Value} (hr : gm_rd h a = some (0, vs)) (hv : vs[6]? = some v) : gm_Go E d 84 17 lv (.ref a :: st) h r ↔ gm_Go E d 84 20 lv (v :: st) h r := gr_rd m84 f84_17 rfl rfl rfl rfl (gf_get k0_93 hr hv)
theorem f84_20 : gm_ft 84 20 = some (.if_icmp .ge 18, 3) := by decide +kernel
theorem r84_20 {E : Nat → Value} {d : Nat} {st : List Value} {h : gm_H} {r : gm_R × gm_H} {lv : List Value} {x y : Int32} : gm_Go E d 84 20 lv (.int y :: .int x :: st) h r ↔ (if y ≤ x then gm_Go E d 84 38 lv st h r else gm_Go E d 84 23 lv st h r) := (gr_br m84 f84_20 rfl rfl rfl rfl).trans gr_if
theorem f84_23 : gm_ft 84 23 = some (.aload_n 0, 1) := by decide +kernel
theorem r84_23 {E : Nat → Value} {d : Nat} {st : List Value} {h : gm_H} {r : gm_R × gm_H} {a1 a2 : Value} {x : Nat} : gm_Go E d 84 23 [.ref x, a1, a2] st h r ↔ gm_Go E d 84 24 [.ref x, a1, a2] (.ref x :: st) h r := gr_loc m84 f84_23 rfl rfl
theorem r84_23n {E : Nat → Value} {d : Nat} {st : List Value} {h : gm_H} {r : gm_R × gm_H} {a1 a2 : Value}  : gm_Go E d 84 23 [.null, a1, a2] st h r ↔ gm_Go E d 84 24 [.null, a1, a2] (.null :: st) h r := gr_loc m84 f84_23 rfl rfl
theorem f84_24 : gm_ft 84 24 = some (.getfield 15, 3) := by decide +kernel
theorem r84_24 {E : Nat → Value} {d : Nat} {st : List Value} {h : gm_H} {r : gm_R × gm_H} {lv : List Value} {a : Nat} {vs : List Value} {v : Value} (hr : gm_rd h a = some (0, vs)) (hv : vs[5]? = some v) : gm_Go E d 84 24 lv (.ref a :: st) h r ↔ gm_Go E d 84 27 lv (v :: st) h r := gr_rd m84 f84_24 rfl rfl rfl rfl (gf_get k0_15 hr hv)
theorem f84_27 : gm_ft 84 27 = some (.aload_n 0, 1) := by decide +kernel
theorem r84_27 {E : Nat → Value} {d : Nat} {st : List Value} {h : gm_H} {r : gm_R × gm_H} {a1 a2 : Value} {x : Nat} : gm_Go E d 84 27 [.ref x, a1, a2] st h r ↔ gm_Go E d 84 28 [.ref x, a1, a2] (.ref x :: st) h r := gr_loc m84 f84_27 rfl rfl
theorem r84_27n {E : Nat → Value} {d : Nat} {st : List Value} {h : gm_H} {r : gm_R × gm_H} {a1 a2 : Value}  : gm_Go E d 84 27 [.null, a1, a2] st h r ↔ gm_Go E d 84 28 [.null, a1, a2] (.null :: st) h r := gr_loc m84 f84_27 rfl rfl
theorem f84_28 : gm_ft 84 28 = some (.getfield 96, 3) := by decide +kernel
theorem r84_28 {E : Nat → Value} {d : Nat} {st : List Value} {h : gm_H} {r : gm_R × gm_H} {lv : List Value} {a : Nat} {vs : List Value} {v : Value} (hr : gm_rd h a = some (0, vs)) (hv : vs[7]? = some v) : gm_Go E d 84 28 lv (.ref a :: st) h r ↔ gm_Go E d 84 31 lv (v :: st) h r := gr_rd m84 f84_28 rfl rfl rfl rfl (gf_get k0_96 hr hv)
theorem f84_31 : gm_ft 84 31 = some (.baload, 1) := by decide +kernel
theorem r84_31 {E : Nat → Value} {d : Nat} {st : List Value} {h : gm_H} {r : gm_R × gm_H} {lv : List Value} {a k j : Nat} {vs : List Value} {v : Value} (hr : gm_rd h a = some (k, vs)) (hk : 100 ≤ k ∧ (fun t => t == 2 || t == 3) (k % 100) = true) (hj : j < 2 ^ 31) (hv : vs[j]? = some v) : gm_Go E d 84 31 lv (.int (nI j) :: .ref a :: st) h r ↔ gm_Go E d 84 32 lv (v :: st) h r := gr_rd m84 f84_31 rfl rfl rfl rfl (ga_ld (P := fun t => t == 2 || t == 3) hr hk hj hv)
theorem f84_32 : gm_ft 84 32 = some (.invokestatic 125, 3) := by decide +kernel
theorem n84_32 {st : List Value} {h : gm_H} {E : Nat → Value} {lv : List Value} {b0 : Value} (hs : (st.map fun v => v.category).sum ≤ 8) (he : (gm_en1 [b0]).length ≤ 1) : gm_next E 84 32 lv (b0 :: st) h = some (.inr (.inl (1, 51, [b0], st))) := gn_call m84 f84_32 rfl rfl rfl rfl rfl rfl rfl (gc_stat (bs := [b0]) (w := 476) rfl rfl rfl hs he) (by decide)
theorem f84_35 : gm_ft 84 35 = some (.ifCond .ne 5, 3) := by decide +kernel
theorem r84_35 {E : Nat → Value} {d : Nat} {st : List Value} {h : gm_H} {r : gm_R × gm_H} {lv : List Value} {x : Int32} : gm_Go E d 84 35 lv (.int x :: st) h r ↔ (if x = 0 then gm_Go E d 84 38 lv st h r else gm_Go E d 84 40 lv st h r) := (gr_br m84 f84_35 rfl rfl rfl rfl).trans gr_ifn
theorem f84_38 : gm_ft 84 38 = some (.iconst (-1), 1) := by decide +kernel
theorem r84_38 {E : Nat → Value} {d : Nat} {st : List Value} {h : gm_H} {r : gm_R × gm_H} {lv : List Value} : gm_Go E d 84 38 lv st h r ↔ gm_Go E d 84 39 lv (.int (-1 : Int32) :: st) h r := gr_pure m84 f84_38 rfl
theorem f84_39 : gm_ft 84 39 = some (.ireturn, 1) := by decide +kernel
theorem r84_39 {E : Nat → Value} {d : Nat} {h : gm_H} {r : gm_R × gm_H} {lv : List Value} {x : Int32} : gm_Go E d 84 39 lv [.int x] h r ↔ r = (.inl (some (.int x)), h) := gr_ret m84 f84_39 rfl rfl rfl rfl rfl rfl rfl rfl (by unfold gm_rt; dsimp only; rw [if_pos ⟨rfl, rfl⟩])
theorem f84_40 : gm_ft 84 40 = some (.aload_n 0, 1) := by decide +kernel
theorem r84_40 {E : Nat → Value} {d : Nat} {st : List Value} {h : gm_H} {r : gm_R × gm_H} {a1 a2 : Value} {x : Nat} : gm_Go E d 84 40 [.ref x, a1, a2] st h r ↔ gm_Go E d 84 41 [.ref x, a1, a2] (.ref x :: st) h r := gr_loc m84 f84_40 rfl rfl
theorem r84_40n {E : Nat → Value} {d : Nat} {st : List Value} {h : gm_H} {r : gm_R × gm_H} {a1 a2 : Value}  : gm_Go E d 84 40 [.null, a1, a2] st h r ↔ gm_Go E d 84 41 [.null, a1, a2] (.null :: st) h r := gr_loc m84 f84_40 rfl rfl
theorem f84_41 : gm_ft 84 41 = some (.getfield 96, 3) := by decide +kernel
theorem r84_41 {E : Nat → Value} {d : Nat} {st : List Value} {h : gm_H} {r : gm_R × gm_H} {lv : List Value} {a : Nat} {vs : List Value} {v : Value} (hr : gm_rd h a = some (0, vs)) (hv : vs[7]? = some v) : gm_Go E d 84 41 lv (.ref a :: st) h r ↔ gm_Go E d 84 44 lv (v :: st) h r := gr_rd m84 f84_41 rfl rfl rfl rfl (gf_get k0_96 hr hv)
theorem f84_44 : gm_ft 84 44 = some (.istore_n 1, 1) := by decide +kernel
theorem r84_44 {E : Nat → Value} {d : Nat} {st : List Value} {h : gm_H} {r : gm_R × gm_H} {a0 a1 a2 : Value} {x : Int32} : gm_Go E d 84 44 [a0, a1, a2] (.int x :: st) h r ↔ gm_Go E d 84 45 [gm_k a0, .int x, a2] st h r := gr_loc m84 f84_44 rfl rfl
theorem f84_45 : gm_ft 84 45 = some (.aload_n 0, 1) := by decide +kernel
theorem r84_45 {E : Nat → Value} {d : Nat} {st : List Value} {h : gm_H} {r : gm_R × gm_H} {a1 a2 : Value} {x : Nat} : gm_Go E d 84 45 [.ref x, a1, a2] st h r ↔ gm_Go E d 84 46 [.ref x, a1, a2] (.ref x :: st) h r := gr_loc m84 f84_45 rfl rfl
theorem r84_45n {E : Nat → Value} {d : Nat} {st : List Value} {h : gm_H} {r : gm_R × gm_H} {a1 a2 : Value}  : gm_Go E d 84 45 [.null, a1, a2] st h r ↔ gm_Go E d 84 46 [.null, a1, a2] (.null :: st) h r := gr_loc m84 f84_45 rfl rfl
theorem f84_46 : gm_ft 84 46 = some (.invokevirtual 128, 3) := by decide +kernel
theorem n84_46 {st : List Value} {h : gm_H} {E : Nat → Value} {lv : List Value} {a : Nat} (hs : (st.map fun v => v.category).sum ≤ 8) (he : (gm_en1 [.ref a]).length ≤ 2) {vs : List Value} (hr : gm_rd h a = some (0, vs)) : gm_next E 84 46 lv (.ref a :: st) h = some (.inr (.inl (0, 52, [.ref a], st))) := gn_call m84 f84_46 rfl rfl rfl rfl rfl rfl rfl (gc_virt (bs := []) (w := 479) rfl rfl rfl rfl hs he hr) (by decide)
theorem f84_49 : gm_ft 84 49 = some (.ireturn, 1) := by decide +kernel
theorem r84_49 {E : Nat → Value} {d : Nat} {h : gm_H} {r : gm_R × gm_H} {lv : List Value} {x : Int32} : gm_Go E d 84 49 lv [.int x] h r ↔ r = (.inl (some (.int x)), h) := gr_ret m84 f84_49 rfl rfl rfl rfl rfl rfl rfl rfl (by unfold gm_rt; dsimp only; rw [if_pos ⟨rfl, rfl⟩])
theorem f84_50 : gm_ft 84 50 = some (.astore_n 2, 1) := by decide +kernel
theorem r84_50 {E : Nat → Value} {d : Nat} {st : List Value} {h : gm_H} {r : gm_R × gm_H} {a0 a1 a2 : Value} {x : Nat} : gm_Go E d 84 50 [a0, a1, a2] (.ref x :: st) h r ↔ gm_Go E d 84 51 [a0, gm_k a1, .ref x] st h r := gr_loc m84 f84_50 rfl rfl
theorem r84_50n {E : Nat → Value} {d : Nat} {st : List Value} {h : gm_H} {r : gm_R × gm_H} {a0 a1 a2 : Value}  : gm_Go E d 84 50 [a0, a1, a2] (.null :: st) h r ↔ gm_Go E d 84 51 [a0, gm_k a1, .null] st h r := gr_loc m84 f84_50 rfl rfl
theorem f84_51 : gm_ft 84 51 = some (.aload_n 0, 1) := by decide +kernel
theorem r84_51 {E : Nat → Value} {d : Nat} {st : List Value} {h : gm_H} {r : gm_R × gm_H} {a1 a2 : Value} {x : Nat} : gm_Go E d 84 51 [.ref x, a1, a2] st h r ↔ gm_Go E d 84 52 [.ref x, a1, a2] (.ref x :: st) h r := gr_loc m84 f84_51 rfl rfl
theorem r84_51n {E : Nat → Value} {d : Nat} {st : List Value} {h : gm_H} {r : gm_R × gm_H} {a1 a2 : Value}  : gm_Go E d 84 51 [.null, a1, a2] st h r ↔ gm_Go E d 84 52 [.null, a1, a2] (.null :: st) h r := gr_loc m84 f84_51 rfl rfl
theorem f84_52 : gm_ft 84 52 = some (.iload_n 1, 1) := by decide +kernel
theorem r84_52 {E : Nat → Value} {d : Nat} {st : List Value} {h : gm_H} {r : gm_R × gm_H} {a0 a2 : Value} {x : Int32} : gm_Go E d 84 52 [a0, .int x, a2] st h r ↔ gm_Go E d 84 53 [a0, .int x, a2] (.int x :: st) h r := gr_loc m84 f84_52 rfl rfl
theorem f84_53 : gm_ft 84 53 = some (.putfield 96, 3) := by decide +kernel
theorem r84_53 {E : Nat → Value} {d : Nat} {st : List Value} {h : gm_H} {r : gm_R × gm_H} {lv : List Value} {a : Nat} {vs : List Value} {v : Value} (hr : gm_rd h a = some (0, vs)) (hk : 7 < vs.length) (hn : narrow (gm_ty 0 7) v = v ∧ fits (gm_ty 0 7) v = true) : gm_Go E d 84 53 lv (v :: .ref a :: st) h r ↔ gm_Go E d 84 56 lv st (gm_wr h a (0, vs.set 7 v)) r := gr_wr m84 f84_53 rfl rfl rfl rfl rfl (gf_put k0_96 hr (by decide) hk hn (by decide))
theorem f84_56 : gm_ft 84 56 = some (.aload_n 0, 1) := by decide +kernel
theorem r84_56 {E : Nat → Value} {d : Nat} {st : List Value} {h : gm_H} {r : gm_R × gm_H} {a1 a2 : Value} {x : Nat} : gm_Go E d 84 56 [.ref x, a1, a2] st h r ↔ gm_Go E d 84 57 [.ref x, a1, a2] (.ref x :: st) h r := gr_loc m84 f84_56 rfl rfl
theorem r84_56n {E : Nat → Value} {d : Nat} {st : List Value} {h : gm_H} {r : gm_R × gm_H} {a1 a2 : Value}  : gm_Go E d 84 56 [.null, a1, a2] st h r ↔ gm_Go E d 84 57 [.null, a1, a2] (.null :: st) h r := gr_loc m84 f84_56 rfl rfl
theorem f84_57 : gm_ft 84 57 = some (.aload_n 0, 1) := by decide +kernel
theorem r84_57 {E : Nat → Value} {d : Nat} {st : List Value} {h : gm_H} {r : gm_R × gm_H} {a1 a2 : Value} {x : Nat} : gm_Go E d 84 57 [.ref x, a1, a2] st h r ↔ gm_Go E d 84 58 [.ref x, a1, a2] (.ref x :: st) h r := gr_loc m84 f84_57 rfl rfl
theorem r84_57n {E : Nat → Value} {d : Nat} {st : List Value} {h : gm_H} {r : gm_R × gm_H} {a1 a2 : Value}  : gm_Go E d 84 57 [.null, a1, a2] st h r ↔ gm_Go E d 84 58 [.null, a1, a2] (.null :: st) h r := gr_loc m84 f84_57 rfl rfl
theorem f84_58 : gm_ft 84 58 = some (.getfield 122, 3) := by decide +kernel
theorem r84_58 {E : Nat → Value} {d : Nat} {st : List Value} {h : gm_H} {r : gm_R × gm_H} {lv : List Value} {a : Nat} {vs : List Value} {v : Value} (hr : gm_rd h a = some (0, vs)) (hv : vs[12]? = some v) : gm_Go E d 84 58 lv (.ref a :: st) h r ↔ gm_Go E d 84 61 lv (v :: st) h r := gr_rd m84 f84_58 rfl rfl rfl rfl (gf_get k0_122 hr hv)
theorem f84_61 : gm_ft 84 61 = some (.putfield 102, 3) := by decide +kernel
theorem r84_61 {E : Nat → Value} {d : Nat} {st : List Value} {h : gm_H} {r : gm_R × gm_H} {lv : List Value} {a : Nat} {vs : List Value} {v : Value} (hr : gm_rd h a = some (0, vs)) (hk : 11 < vs.length) (hn : narrow (gm_ty 0 11) v = v ∧ fits (gm_ty 0 11) v = true) : gm_Go E d 84 61 lv (v :: .ref a :: st) h r ↔ gm_Go E d 84 64 lv st (gm_wr h a (0, vs.set 11 v)) r := gr_wr m84 f84_61 rfl rfl rfl rfl rfl (gf_put k0_102 hr (by decide) hk hn (by decide))
theorem f84_64 : gm_ft 84 64 = some (.aload_n 0, 1) := by decide +kernel
theorem r84_64 {E : Nat → Value} {d : Nat} {st : List Value} {h : gm_H} {r : gm_R × gm_H} {a1 a2 : Value} {x : Nat} : gm_Go E d 84 64 [.ref x, a1, a2] st h r ↔ gm_Go E d 84 65 [.ref x, a1, a2] (.ref x :: st) h r := gr_loc m84 f84_64 rfl rfl
theorem r84_64n {E : Nat → Value} {d : Nat} {st : List Value} {h : gm_H} {r : gm_R × gm_H} {a1 a2 : Value}  : gm_Go E d 84 64 [.null, a1, a2] st h r ↔ gm_Go E d 84 65 [.null, a1, a2] (.null :: st) h r := gr_loc m84 f84_64 rfl rfl
theorem f84_65 : gm_ft 84 65 = some (.getfield 122, 3) := by decide +kernel
theorem r84_65 {E : Nat → Value} {d : Nat} {st : List Value} {h : gm_H} {r : gm_R × gm_H} {lv : List Value} {a : Nat} {vs : List Value} {v : Value} (hr : gm_rd h a = some (0, vs)) (hv : vs[12]? = some v) : gm_Go E d 84 65 lv (.ref a :: st) h r ↔ gm_Go E d 84 68 lv (v :: st) h r := gr_rd m84 f84_65 rfl rfl rfl rfl (gf_get k0_122 hr hv)
theorem f84_68 : gm_ft 84 68 = some (.ireturn, 1) := by decide +kernel
theorem r84_68 {E : Nat → Value} {d : Nat} {h : gm_H} {r : gm_R × gm_H} {lv : List Value} {x : Int32} : gm_Go E d 84 68 lv [.int x] h r ↔ r = (.inl (some (.int x)), h) := gr_ret m84 f84_68 rfl rfl rfl rfl rfl rfl rfl rfl (by unfold gm_rt; dsimp only; rw [if_pos ⟨rfl, rfl⟩])
/-! GraphReader.object(II)I -/
theorem m85 : gm_mt[85]? = some (⟨"GraphReader", "object", "(II)I"⟩, prog_1_method_9_code, 4, (some .int), [], 0, 1) := rfl
theorem f85_0 : gm_ft 85 0 = some (.aload_n 0, 1) := by decide +kernel
theorem r85_0 {E : Nat → Value} {d : Nat} {st : List Value} {h : gm_H} {r : gm_R × gm_H} {a1 a2 a3 : Value} {x : Nat} : gm_Go E d 85 0 [.ref x, a1, a2, a3] st h r ↔ gm_Go E d 85 1 [.ref x, a1, a2, a3] (.ref x :: st) h r := gr_loc m85 f85_0 rfl rfl
theorem r85_0n {E : Nat → Value} {d : Nat} {st : List Value} {h : gm_H} {r : gm_R × gm_H} {a1 a2 a3 : Value}  : gm_Go E d 85 0 [.null, a1, a2, a3] st h r ↔ gm_Go E d 85 1 [.null, a1, a2, a3] (.null :: st) h r := gr_loc m85 f85_0 rfl rfl
theorem f85_1 : gm_ft 85 1 = some (.iload_n 1, 1) := by decide +kernel
theorem r85_1 {E : Nat → Value} {d : Nat} {st : List Value} {h : gm_H} {r : gm_R × gm_H} {a0 a2 a3 : Value} {x : Int32} : gm_Go E d 85 1 [a0, .int x, a2, a3] st h r ↔ gm_Go E d 85 2 [a0, .int x, a2, a3] (.int x :: st) h r := gr_loc m85 f85_1 rfl rfl
theorem f85_2 : gm_ft 85 2 = some (.invokevirtual 131, 3) := by decide +kernel
theorem n85_2 {st : List Value} {h : gm_H} {E : Nat → Value} {lv : List Value} {b0 : Value} {a : Nat} (hs : (st.map fun v => v.category).sum ≤ 8) (he : (gm_en1 [.ref a, b0]).length ≤ 2) {vs : List Value} (hr : gm_rd h a = some (0, vs)) : gm_next E 85 2 lv (b0 :: .ref a :: st) h = some (.inr (.inl (0, 49, [.ref a, b0], st))) := gn_call m85 f85_2 rfl rfl rfl rfl rfl rfl rfl (gc_virt (bs := [b0]) (w := 468) rfl rfl rfl rfl hs he hr) (by decide)
theorem f85_5 : gm_ft 85 5 = some (.ifCond .ne 5, 3) := by decide +kernel
theorem r85_5 {E : Nat → Value} {d : Nat} {st : List Value} {h : gm_H} {r : gm_R × gm_H} {lv : List Value} {x : Int32} : gm_Go E d 85 5 lv (.int x :: st) h r ↔ (if x = 0 then gm_Go E d 85 8 lv st h r else gm_Go E d 85 10 lv st h r) := (gr_br m85 f85_5 rfl rfl rfl rfl).trans gr_ifn
theorem f85_8 : gm_ft 85 8 = some (.iconst (-1), 1) := by decide +kernel
theorem r85_8 {E : Nat → Value} {d : Nat} {st : List Value} {h : gm_H} {r : gm_R × gm_H} {lv : List Value} : gm_Go E d 85 8 lv st h r ↔ gm_Go E d 85 9 lv (.int (-1 : Int32) :: st) h r := gr_pure m85 f85_8 rfl
theorem f85_9 : gm_ft 85 9 = some (.ireturn, 1) := by decide +kernel
theorem r85_9 {E : Nat → Value} {d : Nat} {h : gm_H} {r : gm_R × gm_H} {lv : List Value} {x : Int32} : gm_Go E d 85 9 lv [.int x] h r ↔ r = (.inl (some (.int x)), h) := gr_ret m85 f85_9 rfl rfl rfl rfl rfl rfl rfl rfl (by unfold gm_rt; dsimp only; rw [if_pos ⟨rfl, rfl⟩])
theorem f85_10 : gm_ft 85 10 = some (.aload_n 0, 1) := by decide +kernel
theorem r85_10 {E : Nat → Value} {d : Nat} {st : List Value} {h : gm_H} {r : gm_R × gm_H} {a1 a2 a3 : Value} {x : Nat} : gm_Go E d 85 10 [.ref x, a1, a2, a3] st h r ↔ gm_Go E d 85 11 [.ref x, a1, a2, a3] (.ref x :: st) h r := gr_loc m85 f85_10 rfl rfl
theorem r85_10n {E : Nat → Value} {d : Nat} {st : List Value} {h : gm_H} {r : gm_R × gm_H} {a1 a2 a3 : Value}  : gm_Go E d 85 10 [.null, a1, a2, a3] st h r ↔ gm_Go E d 85 11 [.null, a1, a2, a3] (.null :: st) h r := gr_loc m85 f85_10 rfl rfl
theorem f85_11 : gm_ft 85 11 = some (.getfield 21, 3) := by decide +kernel
theorem r85_11 {E : Nat → Value} {d : Nat} {st : List Value} {h : gm_H} {r : gm_R × gm_H} {lv : List Value} {a : Nat} {vs : List Value} {v : Value} (hr : gm_rd h a = some (0, vs)) (hv : vs[8]? = some v) : gm_Go E d 85 11 lv (.ref a :: st) h r ↔ gm_Go E d 85 14 lv (v :: st) h r := gr_rd m85 f85_11 rfl rfl rfl rfl (gf_get k0_21 hr hv)
theorem f85_14 : gm_ft 85 14 = some (.iload_n 1, 1) := by decide +kernel
theorem r85_14 {E : Nat → Value} {d : Nat} {st : List Value} {h : gm_H} {r : gm_R × gm_H} {a0 a2 a3 : Value} {x : Int32} : gm_Go E d 85 14 [a0, .int x, a2, a3] st h r ↔ gm_Go E d 85 15 [a0, .int x, a2, a3] (.int x :: st) h r := gr_loc m85 f85_14 rfl rfl
theorem f85_15 : gm_ft 85 15 = some (.aaload, 1) := by decide +kernel
theorem r85_15 {E : Nat → Value} {d : Nat} {st : List Value} {h : gm_H} {r : gm_R × gm_H} {lv : List Value} {a k j : Nat} {vs : List Value} {v : Value} (hr : gm_rd h a = some (k, vs)) (hk : 100 ≤ k ∧ (fun t => t == 10 || t == 11 || t == 12) (k % 100) = true) (hj : j < 2 ^ 31) (hv : vs[j]? = some v) : gm_Go E d 85 15 lv (.int (nI j) :: .ref a :: st) h r ↔ gm_Go E d 85 16 lv (v :: st) h r := gr_rd m85 f85_15 rfl rfl rfl rfl (ga_ld (P := fun t => t == 10 || t == 11 || t == 12) hr hk hj hv)
theorem f85_16 : gm_ft 85 16 = some (.astore_n 3, 1) := by decide +kernel
theorem r85_16 {E : Nat → Value} {d : Nat} {st : List Value} {h : gm_H} {r : gm_R × gm_H} {a0 a1 a2 a3 : Value} {x : Nat} : gm_Go E d 85 16 [a0, a1, a2, a3] (.ref x :: st) h r ↔ gm_Go E d 85 17 [a0, a1, gm_k a2, .ref x] st h r := gr_loc m85 f85_16 rfl rfl
theorem r85_16n {E : Nat → Value} {d : Nat} {st : List Value} {h : gm_H} {r : gm_R × gm_H} {a0 a1 a2 a3 : Value}  : gm_Go E d 85 16 [a0, a1, a2, a3] (.null :: st) h r ↔ gm_Go E d 85 17 [a0, a1, gm_k a2, .null] st h r := gr_loc m85 f85_16 rfl rfl
theorem f85_17 : gm_ft 85 17 = some (.iload_n 2, 1) := by decide +kernel
theorem r85_17 {E : Nat → Value} {d : Nat} {st : List Value} {h : gm_H} {r : gm_R × gm_H} {a0 a1 a3 : Value} {x : Int32} : gm_Go E d 85 17 [a0, a1, .int x, a3] st h r ↔ gm_Go E d 85 18 [a0, a1, .int x, a3] (.int x :: st) h r := gr_loc m85 f85_17 rfl rfl
theorem f85_18 : gm_ft 85 18 = some (.tableswitch 80 0 3 #[30, 35, 54, 75], 30) := by decide +kernel
theorem r85_18d {E : Nat → Value} {d : Nat} {st : List Value} {h : gm_H} {r : gm_R × gm_H} {lv : List Value} {x : Int32} (hx : x.toInt < 0 ∨ 3 < x.toInt) : gm_Go E d 85 18 lv (.int x :: st) h r ↔ gm_Go E d 85 98 lv st h r := gr_sw m85 f85_18 rfl rfl rfl (by unfold gm_sw; dsimp only; rw [if_pos hx]) rfl
theorem r85_18_0 {E : Nat → Value} {d : Nat} {st : List Value} {h : gm_H} {r : gm_R × gm_H} {lv : List Value} : gm_Go E d 85 18 lv (.int (0 : Int32) :: st) h r ↔ gm_Go E d 85 48 lv st h r := gr_sw m85 f85_18 rfl rfl rfl rfl rfl
theorem r85_18_1 {E : Nat → Value} {d : Nat} {st : List Value} {h : gm_H} {r : gm_R × gm_H} {lv : List Value} : gm_Go E d 85 18 lv (.int (1 : Int32) :: st) h r ↔ gm_Go E d 85 53 lv st h r := gr_sw m85 f85_18 rfl rfl rfl rfl rfl
theorem r85_18_2 {E : Nat → Value} {d : Nat} {st : List Value} {h : gm_H} {r : gm_R × gm_H} {lv : List Value} : gm_Go E d 85 18 lv (.int (2 : Int32) :: st) h r ↔ gm_Go E d 85 72 lv st h r := gr_sw m85 f85_18 rfl rfl rfl rfl rfl
theorem r85_18_3 {E : Nat → Value} {d : Nat} {st : List Value} {h : gm_H} {r : gm_R × gm_H} {lv : List Value} : gm_Go E d 85 18 lv (.int (3 : Int32) :: st) h r ↔ gm_Go E d 85 93 lv st h r := gr_sw m85 f85_18 rfl rfl rfl rfl rfl
theorem f85_48 : gm_ft 85 48 = some (.aload_n 3, 1) := by decide +kernel
theorem r85_48 {E : Nat → Value} {d : Nat} {st : List Value} {h : gm_H} {r : gm_R × gm_H} {a0 a1 a2 : Value} {x : Nat} : gm_Go E d 85 48 [a0, a1, a2, .ref x] st h r ↔ gm_Go E d 85 49 [a0, a1, a2, .ref x] (.ref x :: st) h r := gr_loc m85 f85_48 rfl rfl
theorem r85_48n {E : Nat → Value} {d : Nat} {st : List Value} {h : gm_H} {r : gm_R × gm_H} {a0 a1 a2 : Value}  : gm_Go E d 85 48 [a0, a1, a2, .null] st h r ↔ gm_Go E d 85 49 [a0, a1, a2, .null] (.null :: st) h r := gr_loc m85 f85_48 rfl rfl
theorem f85_49 : gm_ft 85 49 = some (.getfield 134, 3) := by decide +kernel
theorem r85_49 {E : Nat → Value} {d : Nat} {st : List Value} {h : gm_H} {r : gm_R × gm_H} {lv : List Value} {a : Nat} {vs : List Value} {v : Value} (hr : gm_rd h a = some (4, vs)) (hv : vs[0]? = some v) : gm_Go E d 85 49 lv (.ref a :: st) h r ↔ gm_Go E d 85 52 lv (v :: st) h r := gr_rd m85 f85_49 rfl rfl rfl rfl (gf_get k0_134 hr hv)
theorem f85_52 : gm_ft 85 52 = some (.ireturn, 1) := by decide +kernel
theorem r85_52 {E : Nat → Value} {d : Nat} {h : gm_H} {r : gm_R × gm_H} {lv : List Value} {x : Int32} : gm_Go E d 85 52 lv [.int x] h r ↔ r = (.inl (some (.int x)), h) := gr_ret m85 f85_52 rfl rfl rfl rfl rfl rfl rfl rfl (by unfold gm_rt; dsimp only; rw [if_pos ⟨rfl, rfl⟩])
theorem f85_53 : gm_ft 85 53 = some (.aload_n 3, 1) := by decide +kernel
theorem r85_53 {E : Nat → Value} {d : Nat} {st : List Value} {h : gm_H} {r : gm_R × gm_H} {a0 a1 a2 : Value} {x : Nat} : gm_Go E d 85 53 [a0, a1, a2, .ref x] st h r ↔ gm_Go E d 85 54 [a0, a1, a2, .ref x] (.ref x :: st) h r := gr_loc m85 f85_53 rfl rfl
theorem r85_53n {E : Nat → Value} {d : Nat} {st : List Value} {h : gm_H} {r : gm_R × gm_H} {a0 a1 a2 : Value}  : gm_Go E d 85 53 [a0, a1, a2, .null] st h r ↔ gm_Go E d 85 54 [a0, a1, a2, .null] (.null :: st) h r := gr_loc m85 f85_53 rfl rfl
theorem f85_54 : gm_ft 85 54 = some (.getfield 137, 3) := by decide +kernel
theorem r85_54 {E : Nat → Value} {d : Nat} {st : List Value} {h : gm_H} {r : gm_R × gm_H} {lv : List Value} {a : Nat} {vs : List Value} {v : Value} (hr : gm_rd h a = some (4, vs)) (hv : vs[1]? = some v) : gm_Go E d 85 54 lv (.ref a :: st) h r ↔ gm_Go E d 85 57 lv (v :: st) h r := gr_rd m85 f85_54 rfl rfl rfl rfl (gf_get k0_137 hr hv)
theorem f85_57 : gm_ft 85 57 = some (.ifnonnull 7, 3) := by decide +kernel
theorem r85_57n {E : Nat → Value} {d : Nat} {st : List Value} {h : gm_H} {r : gm_R × gm_H} {lv : List Value} : gm_Go E d 85 57 lv (.null :: st) h r ↔ gm_Go E d 85 60 lv st h r := gr_brF m85 f85_57 rfl rfl rfl rfl
theorem r85_57 {E : Nat → Value} {d : Nat} {st : List Value} {h : gm_H} {r : gm_R × gm_H} {lv : List Value} {a : Nat} : gm_Go E d 85 57 lv (.ref a :: st) h r ↔ gm_Go E d 85 64 lv st h r := gr_brT m85 f85_57 rfl rfl rfl rfl
theorem f85_60 : gm_ft 85 60 = some (.iconst (-1), 1) := by decide +kernel
theorem r85_60 {E : Nat → Value} {d : Nat} {st : List Value} {h : gm_H} {r : gm_R × gm_H} {lv : List Value} : gm_Go E d 85 60 lv st h r ↔ gm_Go E d 85 61 lv (.int (-1 : Int32) :: st) h r := gr_pure m85 f85_60 rfl
theorem f85_61 : gm_ft 85 61 = some (.goto 10, 3) := by decide +kernel
theorem r85_61 {E : Nat → Value} {d : Nat} {st : List Value} {h : gm_H} {r : gm_R × gm_H} {lv : List Value} : gm_Go E d 85 61 lv st h r ↔ gm_Go E d 85 71 lv st h r := gr_brT m85 f85_61 rfl rfl rfl rfl
theorem f85_64 : gm_ft 85 64 = some (.aload_n 3, 1) := by decide +kernel
theorem r85_64 {E : Nat → Value} {d : Nat} {st : List Value} {h : gm_H} {r : gm_R × gm_H} {a0 a1 a2 : Value} {x : Nat} : gm_Go E d 85 64 [a0, a1, a2, .ref x] st h r ↔ gm_Go E d 85 65 [a0, a1, a2, .ref x] (.ref x :: st) h r := gr_loc m85 f85_64 rfl rfl
theorem r85_64n {E : Nat → Value} {d : Nat} {st : List Value} {h : gm_H} {r : gm_R × gm_H} {a0 a1 a2 : Value}  : gm_Go E d 85 64 [a0, a1, a2, .null] st h r ↔ gm_Go E d 85 65 [a0, a1, a2, .null] (.null :: st) h r := gr_loc m85 f85_64 rfl rfl
theorem f85_65 : gm_ft 85 65 = some (.getfield 137, 3) := by decide +kernel
theorem r85_65 {E : Nat → Value} {d : Nat} {st : List Value} {h : gm_H} {r : gm_R × gm_H} {lv : List Value} {a : Nat} {vs : List Value} {v : Value} (hr : gm_rd h a = some (4, vs)) (hv : vs[1]? = some v) : gm_Go E d 85 65 lv (.ref a :: st) h r ↔ gm_Go E d 85 68 lv (v :: st) h r := gr_rd m85 f85_65 rfl rfl rfl rfl (gf_get k0_137 hr hv)
theorem f85_68 : gm_ft 85 68 = some (.getfield 141, 3) := by decide +kernel
theorem r85_68 {E : Nat → Value} {d : Nat} {st : List Value} {h : gm_H} {r : gm_R × gm_H} {lv : List Value} {a : Nat} {vs : List Value} {v : Value} (hr : gm_rd h a = some (3, vs)) (hv : vs[0]? = some v) : gm_Go E d 85 68 lv (.ref a :: st) h r ↔ gm_Go E d 85 71 lv (v :: st) h r := gr_rd m85 f85_68 rfl rfl rfl rfl (gf_get k0_141 hr hv)
theorem f85_71 : gm_ft 85 71 = some (.ireturn, 1) := by decide +kernel
theorem r85_71 {E : Nat → Value} {d : Nat} {h : gm_H} {r : gm_R × gm_H} {lv : List Value} {x : Int32} : gm_Go E d 85 71 lv [.int x] h r ↔ r = (.inl (some (.int x)), h) := gr_ret m85 f85_71 rfl rfl rfl rfl rfl rfl rfl rfl (by unfold gm_rt; dsimp only; rw [if_pos ⟨rfl, rfl⟩])
theorem f85_72 : gm_ft 85 72 = some (.aload_n 3, 1) := by decide +kernel
theorem r85_72 {E : Nat → Value} {d : Nat} {st : List Value} {h : gm_H} {r : gm_R × gm_H} {a0 a1 a2 : Value} {x : Nat} : gm_Go E d 85 72 [a0, a1, a2, .ref x] st h r ↔ gm_Go E d 85 73 [a0, a1, a2, .ref x] (.ref x :: st) h r := gr_loc m85 f85_72 rfl rfl
theorem r85_72n {E : Nat → Value} {d : Nat} {st : List Value} {h : gm_H} {r : gm_R × gm_H} {a0 a1 a2 : Value}  : gm_Go E d 85 72 [a0, a1, a2, .null] st h r ↔ gm_Go E d 85 73 [a0, a1, a2, .null] (.null :: st) h r := gr_loc m85 f85_72 rfl rfl
theorem f85_73 : gm_ft 85 73 = some (.getfield 134, 3) := by decide +kernel
theorem r85_73 {E : Nat → Value} {d : Nat} {st : List Value} {h : gm_H} {r : gm_R × gm_H} {lv : List Value} {a : Nat} {vs : List Value} {v : Value} (hr : gm_rd h a = some (4, vs)) (hv : vs[0]? = some v) : gm_Go E d 85 73 lv (.ref a :: st) h r ↔ gm_Go E d 85 76 lv (v :: st) h r := gr_rd m85 f85_73 rfl rfl rfl rfl (gf_get k0_134 hr hv)
theorem f85_76 : gm_ft 85 76 = some (.iconst 4, 1) := by decide +kernel
theorem r85_76 {E : Nat → Value} {d : Nat} {st : List Value} {h : gm_H} {r : gm_R × gm_H} {lv : List Value} : gm_Go E d 85 76 lv st h r ↔ gm_Go E d 85 77 lv (.int (4 : Int32) :: st) h r := gr_pure m85 f85_76 rfl
theorem f85_77 : gm_ft 85 77 = some (.if_icmp .ne 10, 3) := by decide +kernel
theorem r85_77 {E : Nat → Value} {d : Nat} {st : List Value} {h : gm_H} {r : gm_R × gm_H} {lv : List Value} {x y : Int32} : gm_Go E d 85 77 lv (.int y :: .int x :: st) h r ↔ (if x = y then gm_Go E d 85 80 lv st h r else gm_Go E d 85 87 lv st h r) := (gr_br m85 f85_77 rfl rfl rfl rfl).trans gr_ifn
theorem f85_80 : gm_ft 85 80 = some (.aload_n 3, 1) := by decide +kernel
theorem r85_80 {E : Nat → Value} {d : Nat} {st : List Value} {h : gm_H} {r : gm_R × gm_H} {a0 a1 a2 : Value} {x : Nat} : gm_Go E d 85 80 [a0, a1, a2, .ref x] st h r ↔ gm_Go E d 85 81 [a0, a1, a2, .ref x] (.ref x :: st) h r := gr_loc m85 f85_80 rfl rfl
theorem r85_80n {E : Nat → Value} {d : Nat} {st : List Value} {h : gm_H} {r : gm_R × gm_H} {a0 a1 a2 : Value}  : gm_Go E d 85 80 [a0, a1, a2, .null] st h r ↔ gm_Go E d 85 81 [a0, a1, a2, .null] (.null :: st) h r := gr_loc m85 f85_80 rfl rfl
theorem f85_81 : gm_ft 85 81 = some (.getfield 144, 3) := by decide +kernel
theorem r85_81 {E : Nat → Value} {d : Nat} {st : List Value} {h : gm_H} {r : gm_R × gm_H} {lv : List Value} {a : Nat} {vs : List Value} {v : Value} (hr : gm_rd h a = some (4, vs)) (hv : vs[3]? = some v) : gm_Go E d 85 81 lv (.ref a :: st) h r ↔ gm_Go E d 85 84 lv (v :: st) h r := gr_rd m85 f85_81 rfl rfl rfl rfl (gf_get k0_144 hr hv)
theorem f85_84 : gm_ft 85 84 = some (.goto 8, 3) := by decide +kernel
theorem r85_84 {E : Nat → Value} {d : Nat} {st : List Value} {h : gm_H} {r : gm_R × gm_H} {lv : List Value} : gm_Go E d 85 84 lv st h r ↔ gm_Go E d 85 92 lv st h r := gr_brT m85 f85_84 rfl rfl rfl rfl
theorem f85_87 : gm_ft 85 87 = some (.aload_n 3, 1) := by decide +kernel
theorem r85_87 {E : Nat → Value} {d : Nat} {st : List Value} {h : gm_H} {r : gm_R × gm_H} {a0 a1 a2 : Value} {x : Nat} : gm_Go E d 85 87 [a0, a1, a2, .ref x] st h r ↔ gm_Go E d 85 88 [a0, a1, a2, .ref x] (.ref x :: st) h r := gr_loc m85 f85_87 rfl rfl
theorem r85_87n {E : Nat → Value} {d : Nat} {st : List Value} {h : gm_H} {r : gm_R × gm_H} {a0 a1 a2 : Value}  : gm_Go E d 85 87 [a0, a1, a2, .null] st h r ↔ gm_Go E d 85 88 [a0, a1, a2, .null] (.null :: st) h r := gr_loc m85 f85_87 rfl rfl
theorem f85_88 : gm_ft 85 88 = some (.getfield 147, 3) := by decide +kernel
theorem r85_88 {E : Nat → Value} {d : Nat} {st : List Value} {h : gm_H} {r : gm_R × gm_H} {lv : List Value} {a : Nat} {vs : List Value} {v : Value} (hr : gm_rd h a = some (4, vs)) (hv : vs[2]? = some v) : gm_Go E d 85 88 lv (.ref a :: st) h r ↔ gm_Go E d 85 91 lv (v :: st) h r := gr_rd m85 f85_88 rfl rfl rfl rfl (gf_get k0_147 hr hv)
theorem f85_91 : gm_ft 85 91 = some (.arraylength, 1) := by decide +kernel
theorem r85_91 {E : Nat → Value} {d : Nat} {st : List Value} {h : gm_H} {r : gm_R × gm_H} {lv : List Value} {a k : Nat} {vs : List Value} (hr : gm_rd h a = some (k, vs)) (hk : 100 ≤ k) : gm_Go E d 85 91 lv (.ref a :: st) h r ↔ gm_Go E d 85 92 lv (.int (nI vs.length) :: st) h r := gr_rd m85 f85_91 rfl rfl rfl rfl (ga_len hr hk)
theorem f85_92 : gm_ft 85 92 = some (.ireturn, 1) := by decide +kernel
theorem r85_92 {E : Nat → Value} {d : Nat} {h : gm_H} {r : gm_R × gm_H} {lv : List Value} {x : Int32} : gm_Go E d 85 92 lv [.int x] h r ↔ r = (.inl (some (.int x)), h) := gr_ret m85 f85_92 rfl rfl rfl rfl rfl rfl rfl rfl (by unfold gm_rt; dsimp only; rw [if_pos ⟨rfl, rfl⟩])
theorem f85_93 : gm_ft 85 93 = some (.aload_n 3, 1) := by decide +kernel
theorem r85_93 {E : Nat → Value} {d : Nat} {st : List Value} {h : gm_H} {r : gm_R × gm_H} {a0 a1 a2 : Value} {x : Nat} : gm_Go E d 85 93 [a0, a1, a2, .ref x] st h r ↔ gm_Go E d 85 94 [a0, a1, a2, .ref x] (.ref x :: st) h r := gr_loc m85 f85_93 rfl rfl
theorem r85_93n {E : Nat → Value} {d : Nat} {st : List Value} {h : gm_H} {r : gm_R × gm_H} {a0 a1 a2 : Value}  : gm_Go E d 85 93 [a0, a1, a2, .null] st h r ↔ gm_Go E d 85 94 [a0, a1, a2, .null] (.null :: st) h r := gr_loc m85 f85_93 rfl rfl
theorem f85_94 : gm_ft 85 94 = some (.getfield 151, 3) := by decide +kernel
theorem r85_94 {E : Nat → Value} {d : Nat} {st : List Value} {h : gm_H} {r : gm_R × gm_H} {lv : List Value} {a : Nat} {vs : List Value} {v : Value} (hr : gm_rd h a = some (4, vs)) (hv : vs[4]? = some v) : gm_Go E d 85 94 lv (.ref a :: st) h r ↔ gm_Go E d 85 97 lv (v :: st) h r := gr_rd m85 f85_94 rfl rfl rfl rfl (gf_get k0_151 hr hv)
theorem f85_97 : gm_ft 85 97 = some (.ireturn, 1) := by decide +kernel
theorem r85_97 {E : Nat → Value} {d : Nat} {h : gm_H} {r : gm_R × gm_H} {lv : List Value} {x : Int32} : gm_Go E d 85 97 lv [.int x] h r ↔ r = (.inl (some (.int x)), h) := gr_ret m85 f85_97 rfl rfl rfl rfl rfl rfl rfl rfl (by unfold gm_rt; dsimp only; rw [if_pos ⟨rfl, rfl⟩])
theorem f85_98 : gm_ft 85 98 = some (.iconst (-1), 1) := by decide +kernel
theorem r85_98 {E : Nat → Value} {d : Nat} {st : List Value} {h : gm_H} {r : gm_R × gm_H} {lv : List Value} : gm_Go E d 85 98 lv st h r ↔ gm_Go E d 85 99 lv (.int (-1 : Int32) :: st) h r := gr_pure m85 f85_98 rfl
theorem f85_99 : gm_ft 85 99 = some (.ireturn, 1) := by decide +kernel
theorem r85_99 {E : Nat → Value} {d : Nat} {h : gm_H} {r : gm_R × gm_H} {lv : List Value} {x : Int32} : gm_Go E d 85 99 lv [.int x] h r ↔ r = (.inl (some (.int x)), h) := gr_ret m85 f85_99 rfl rfl rfl rfl rfl rfl rfl rfl (by unfold gm_rt; dsimp only; rw [if_pos ⟨rfl, rfl⟩])
/-! GraphReader.value(II)J -/
theorem m86 : gm_mt[86]? = some (⟨"GraphReader", "value", "(II)J"⟩, prog_1_method_10_code, 3, (some .long), [], 0, 1) := rfl
theorem f86_0 : gm_ft 86 0 = some (.aload_n 0, 1) := by decide +kernel
theorem r86_0 {E : Nat → Value} {d : Nat} {st : List Value} {h : gm_H} {r : gm_R × gm_H} {a1 a2 : Value} {x : Nat} : gm_Go E d 86 0 [.ref x, a1, a2] st h r ↔ gm_Go E d 86 1 [.ref x, a1, a2] (.ref x :: st) h r := gr_loc m86 f86_0 rfl rfl
theorem r86_0n {E : Nat → Value} {d : Nat} {st : List Value} {h : gm_H} {r : gm_R × gm_H} {a1 a2 : Value}  : gm_Go E d 86 0 [.null, a1, a2] st h r ↔ gm_Go E d 86 1 [.null, a1, a2] (.null :: st) h r := gr_loc m86 f86_0 rfl rfl
theorem f86_1 : gm_ft 86 1 = some (.iload_n 1, 1) := by decide +kernel
theorem r86_1 {E : Nat → Value} {d : Nat} {st : List Value} {h : gm_H} {r : gm_R × gm_H} {a0 a2 : Value} {x : Int32} : gm_Go E d 86 1 [a0, .int x, a2] st h r ↔ gm_Go E d 86 2 [a0, .int x, a2] (.int x :: st) h r := gr_loc m86 f86_1 rfl rfl
theorem f86_2 : gm_ft 86 2 = some (.invokevirtual 131, 3) := by decide +kernel
theorem n86_2 {st : List Value} {h : gm_H} {E : Nat → Value} {lv : List Value} {b0 : Value} {a : Nat} (hs : (st.map fun v => v.category).sum ≤ 8) (he : (gm_en1 [.ref a, b0]).length ≤ 2) {vs : List Value} (hr : gm_rd h a = some (0, vs)) : gm_next E 86 2 lv (b0 :: .ref a :: st) h = some (.inr (.inl (0, 49, [.ref a, b0], st))) := gn_call m86 f86_2 rfl rfl rfl rfl rfl rfl rfl (gc_virt (bs := [b0]) (w := 468) rfl rfl rfl rfl hs he hr) (by decide)
theorem f86_5 : gm_ft 86 5 = some (.ifCond .eq 21, 3) := by decide +kernel
theorem r86_5 {E : Nat → Value} {d : Nat} {st : List Value} {h : gm_H} {r : gm_R × gm_H} {lv : List Value} {x : Int32} : gm_Go E d 86 5 lv (.int x :: st) h r ↔ (if x = 0 then gm_Go E d 86 26 lv st h r else gm_Go E d 86 8 lv st h r) := (gr_br m86 f86_5 rfl rfl rfl rfl).trans gr_if
theorem f86_8 : gm_ft 86 8 = some (.iload_n 2, 1) := by decide +kernel
theorem r86_8 {E : Nat → Value} {d : Nat} {st : List Value} {h : gm_H} {r : gm_R × gm_H} {a0 a1 : Value} {x : Int32} : gm_Go E d 86 8 [a0, a1, .int x] st h r ↔ gm_Go E d 86 9 [a0, a1, .int x] (.int x :: st) h r := gr_loc m86 f86_8 rfl rfl
theorem f86_9 : gm_ft 86 9 = some (.ifCond .lt 17, 3) := by decide +kernel
theorem r86_9 {E : Nat → Value} {d : Nat} {st : List Value} {h : gm_H} {r : gm_R × gm_H} {lv : List Value} {x : Int32} : gm_Go E d 86 9 lv (.int x :: st) h r ↔ (if x < 0 then gm_Go E d 86 26 lv st h r else gm_Go E d 86 12 lv st h r) := (gr_br m86 f86_9 rfl rfl rfl rfl).trans gr_if
theorem f86_12 : gm_ft 86 12 = some (.iload_n 2, 1) := by decide +kernel
theorem r86_12 {E : Nat → Value} {d : Nat} {st : List Value} {h : gm_H} {r : gm_R × gm_H} {a0 a1 : Value} {x : Int32} : gm_Go E d 86 12 [a0, a1, .int x] st h r ↔ gm_Go E d 86 13 [a0, a1, .int x] (.int x :: st) h r := gr_loc m86 f86_12 rfl rfl
theorem f86_13 : gm_ft 86 13 = some (.aload_n 0, 1) := by decide +kernel
theorem r86_13 {E : Nat → Value} {d : Nat} {st : List Value} {h : gm_H} {r : gm_R × gm_H} {a1 a2 : Value} {x : Nat} : gm_Go E d 86 13 [.ref x, a1, a2] st h r ↔ gm_Go E d 86 14 [.ref x, a1, a2] (.ref x :: st) h r := gr_loc m86 f86_13 rfl rfl
theorem r86_13n {E : Nat → Value} {d : Nat} {st : List Value} {h : gm_H} {r : gm_R × gm_H} {a1 a2 : Value}  : gm_Go E d 86 13 [.null, a1, a2] st h r ↔ gm_Go E d 86 14 [.null, a1, a2] (.null :: st) h r := gr_loc m86 f86_13 rfl rfl
theorem f86_14 : gm_ft 86 14 = some (.getfield 21, 3) := by decide +kernel
theorem r86_14 {E : Nat → Value} {d : Nat} {st : List Value} {h : gm_H} {r : gm_R × gm_H} {lv : List Value} {a : Nat} {vs : List Value} {v : Value} (hr : gm_rd h a = some (0, vs)) (hv : vs[8]? = some v) : gm_Go E d 86 14 lv (.ref a :: st) h r ↔ gm_Go E d 86 17 lv (v :: st) h r := gr_rd m86 f86_14 rfl rfl rfl rfl (gf_get k0_21 hr hv)
theorem f86_17 : gm_ft 86 17 = some (.iload_n 1, 1) := by decide +kernel
theorem r86_17 {E : Nat → Value} {d : Nat} {st : List Value} {h : gm_H} {r : gm_R × gm_H} {a0 a2 : Value} {x : Int32} : gm_Go E d 86 17 [a0, .int x, a2] st h r ↔ gm_Go E d 86 18 [a0, .int x, a2] (.int x :: st) h r := gr_loc m86 f86_17 rfl rfl
theorem f86_18 : gm_ft 86 18 = some (.aaload, 1) := by decide +kernel
theorem r86_18 {E : Nat → Value} {d : Nat} {st : List Value} {h : gm_H} {r : gm_R × gm_H} {lv : List Value} {a k j : Nat} {vs : List Value} {v : Value} (hr : gm_rd h a = some (k, vs)) (hk : 100 ≤ k ∧ (fun t => t == 10 || t == 11 || t == 12) (k % 100) = true) (hj : j < 2 ^ 31) (hv : vs[j]? = some v) : gm_Go E d 86 18 lv (.int (nI j) :: .ref a :: st) h r ↔ gm_Go E d 86 19 lv (v :: st) h r := gr_rd m86 f86_18 rfl rfl rfl rfl (ga_ld (P := fun t => t == 10 || t == 11 || t == 12) hr hk hj hv)
theorem f86_19 : gm_ft 86 19 = some (.getfield 147, 3) := by decide +kernel
theorem r86_19 {E : Nat → Value} {d : Nat} {st : List Value} {h : gm_H} {r : gm_R × gm_H} {lv : List Value} {a : Nat} {vs : List Value} {v : Value} (hr : gm_rd h a = some (4, vs)) (hv : vs[2]? = some v) : gm_Go E d 86 19 lv (.ref a :: st) h r ↔ gm_Go E d 86 22 lv (v :: st) h r := gr_rd m86 f86_19 rfl rfl rfl rfl (gf_get k0_147 hr hv)
theorem f86_22 : gm_ft 86 22 = some (.arraylength, 1) := by decide +kernel
theorem r86_22 {E : Nat → Value} {d : Nat} {st : List Value} {h : gm_H} {r : gm_R × gm_H} {lv : List Value} {a k : Nat} {vs : List Value} (hr : gm_rd h a = some (k, vs)) (hk : 100 ≤ k) : gm_Go E d 86 22 lv (.ref a :: st) h r ↔ gm_Go E d 86 23 lv (.int (nI vs.length) :: st) h r := gr_rd m86 f86_22 rfl rfl rfl rfl (ga_len hr hk)
theorem f86_23 : gm_ft 86 23 = some (.if_icmp .lt 7, 3) := by decide +kernel
theorem r86_23 {E : Nat → Value} {d : Nat} {st : List Value} {h : gm_H} {r : gm_R × gm_H} {lv : List Value} {x y : Int32} : gm_Go E d 86 23 lv (.int y :: .int x :: st) h r ↔ (if x < y then gm_Go E d 86 30 lv st h r else gm_Go E d 86 26 lv st h r) := (gr_br m86 f86_23 rfl rfl rfl rfl).trans gr_if
theorem f86_26 : gm_ft 86 26 = some (.ldc2_w 154, 3) := by decide +kernel
theorem r86_26 {E : Nat → Value} {d : Nat} {st : List Value} {h : gm_H} {r : gm_R × gm_H} {lv : List Value} : gm_Go E d 86 26 lv st h r ↔ gm_Go E d 86 29 lv (.long (-9000000000000000000 : Int64) :: st) h r := gr_rd m86 f86_26 rfl rfl rfl rfl rfl
theorem f86_29 : gm_ft 86 29 = some (.lreturn, 1) := by decide +kernel
theorem r86_29 {E : Nat → Value} {d : Nat} {h : gm_H} {r : gm_R × gm_H} {lv : List Value} {x : Int64} : gm_Go E d 86 29 lv [.long x] h r ↔ r = (.inl (some (.long x)), h) := gr_ret m86 f86_29 rfl rfl rfl rfl rfl rfl rfl rfl rfl
theorem f86_30 : gm_ft 86 30 = some (.aload_n 0, 1) := by decide +kernel
theorem r86_30 {E : Nat → Value} {d : Nat} {st : List Value} {h : gm_H} {r : gm_R × gm_H} {a1 a2 : Value} {x : Nat} : gm_Go E d 86 30 [.ref x, a1, a2] st h r ↔ gm_Go E d 86 31 [.ref x, a1, a2] (.ref x :: st) h r := gr_loc m86 f86_30 rfl rfl
theorem r86_30n {E : Nat → Value} {d : Nat} {st : List Value} {h : gm_H} {r : gm_R × gm_H} {a1 a2 : Value}  : gm_Go E d 86 30 [.null, a1, a2] st h r ↔ gm_Go E d 86 31 [.null, a1, a2] (.null :: st) h r := gr_loc m86 f86_30 rfl rfl
theorem f86_31 : gm_ft 86 31 = some (.getfield 21, 3) := by decide +kernel
theorem r86_31 {E : Nat → Value} {d : Nat} {st : List Value} {h : gm_H} {r : gm_R × gm_H} {lv : List Value} {a : Nat} {vs : List Value} {v : Value} (hr : gm_rd h a = some (0, vs)) (hv : vs[8]? = some v) : gm_Go E d 86 31 lv (.ref a :: st) h r ↔ gm_Go E d 86 34 lv (v :: st) h r := gr_rd m86 f86_31 rfl rfl rfl rfl (gf_get k0_21 hr hv)
theorem f86_34 : gm_ft 86 34 = some (.iload_n 1, 1) := by decide +kernel
theorem r86_34 {E : Nat → Value} {d : Nat} {st : List Value} {h : gm_H} {r : gm_R × gm_H} {a0 a2 : Value} {x : Int32} : gm_Go E d 86 34 [a0, .int x, a2] st h r ↔ gm_Go E d 86 35 [a0, .int x, a2] (.int x :: st) h r := gr_loc m86 f86_34 rfl rfl
theorem f86_35 : gm_ft 86 35 = some (.aaload, 1) := by decide +kernel
theorem r86_35 {E : Nat → Value} {d : Nat} {st : List Value} {h : gm_H} {r : gm_R × gm_H} {lv : List Value} {a k j : Nat} {vs : List Value} {v : Value} (hr : gm_rd h a = some (k, vs)) (hk : 100 ≤ k ∧ (fun t => t == 10 || t == 11 || t == 12) (k % 100) = true) (hj : j < 2 ^ 31) (hv : vs[j]? = some v) : gm_Go E d 86 35 lv (.int (nI j) :: .ref a :: st) h r ↔ gm_Go E d 86 36 lv (v :: st) h r := gr_rd m86 f86_35 rfl rfl rfl rfl (ga_ld (P := fun t => t == 10 || t == 11 || t == 12) hr hk hj hv)
theorem f86_36 : gm_ft 86 36 = some (.getfield 147, 3) := by decide +kernel
theorem r86_36 {E : Nat → Value} {d : Nat} {st : List Value} {h : gm_H} {r : gm_R × gm_H} {lv : List Value} {a : Nat} {vs : List Value} {v : Value} (hr : gm_rd h a = some (4, vs)) (hv : vs[2]? = some v) : gm_Go E d 86 36 lv (.ref a :: st) h r ↔ gm_Go E d 86 39 lv (v :: st) h r := gr_rd m86 f86_36 rfl rfl rfl rfl (gf_get k0_147 hr hv)
theorem f86_39 : gm_ft 86 39 = some (.iload_n 2, 1) := by decide +kernel
theorem r86_39 {E : Nat → Value} {d : Nat} {st : List Value} {h : gm_H} {r : gm_R × gm_H} {a0 a1 : Value} {x : Int32} : gm_Go E d 86 39 [a0, a1, .int x] st h r ↔ gm_Go E d 86 40 [a0, a1, .int x] (.int x :: st) h r := gr_loc m86 f86_39 rfl rfl
theorem f86_40 : gm_ft 86 40 = some (.laload, 1) := by decide +kernel
theorem r86_40 {E : Nat → Value} {d : Nat} {st : List Value} {h : gm_H} {r : gm_R × gm_H} {lv : List Value} {a k j : Nat} {vs : List Value} {v : Value} (hr : gm_rd h a = some (k, vs)) (hk : 100 ≤ k ∧ (fun t => t == 1) (k % 100) = true) (hj : j < 2 ^ 31) (hv : vs[j]? = some v) : gm_Go E d 86 40 lv (.int (nI j) :: .ref a :: st) h r ↔ gm_Go E d 86 41 lv (v :: st) h r := gr_rd m86 f86_40 rfl rfl rfl rfl (ga_ld (P := fun t => t == 1) hr hk hj hv)
theorem f86_41 : gm_ft 86 41 = some (.lreturn, 1) := by decide +kernel
theorem r86_41 {E : Nat → Value} {d : Nat} {h : gm_H} {r : gm_R × gm_H} {lv : List Value} {x : Int64} : gm_Go E d 86 41 lv [.long x] h r ↔ r = (.inl (some (.long x)), h) := gr_ret m86 f86_41 rfl rfl rfl rfl rfl rfl rfl rfl rfl
/-! GraphReader.count(I)I -/
theorem m87 : gm_mt[87]? = some (⟨"GraphReader", "count", "(I)I"⟩, prog_1_method_11_code, 2, (some .int), [], 0, 1) := rfl
theorem f87_0 : gm_ft 87 0 = some (.iload_n 1, 1) := by decide +kernel
theorem r87_0 {E : Nat → Value} {d : Nat} {st : List Value} {h : gm_H} {r : gm_R × gm_H} {a0 : Value} {x : Int32} : gm_Go E d 87 0 [a0, .int x] st h r ↔ gm_Go E d 87 1 [a0, .int x] (.int x :: st) h r := gr_loc m87 f87_0 rfl rfl
theorem f87_1 : gm_ft 87 1 = some (.tableswitch 63 0 4 #[35, 40, 48, 53, 58], 35) := by decide +kernel
theorem r87_1d {E : Nat → Value} {d : Nat} {st : List Value} {h : gm_H} {r : gm_R × gm_H} {lv : List Value} {x : Int32} (hx : x.toInt < 0 ∨ 4 < x.toInt) : gm_Go E d 87 1 lv (.int x :: st) h r ↔ gm_Go E d 87 64 lv st h r := gr_sw m87 f87_1 rfl rfl rfl (by unfold gm_sw; dsimp only; rw [if_pos hx]) rfl
theorem r87_1_0 {E : Nat → Value} {d : Nat} {st : List Value} {h : gm_H} {r : gm_R × gm_H} {lv : List Value} : gm_Go E d 87 1 lv (.int (0 : Int32) :: st) h r ↔ gm_Go E d 87 36 lv st h r := gr_sw m87 f87_1 rfl rfl rfl rfl rfl
theorem r87_1_1 {E : Nat → Value} {d : Nat} {st : List Value} {h : gm_H} {r : gm_R × gm_H} {lv : List Value} : gm_Go E d 87 1 lv (.int (1 : Int32) :: st) h r ↔ gm_Go E d 87 41 lv st h r := gr_sw m87 f87_1 rfl rfl rfl rfl rfl
theorem r87_1_2 {E : Nat → Value} {d : Nat} {st : List Value} {h : gm_H} {r : gm_R × gm_H} {lv : List Value} : gm_Go E d 87 1 lv (.int (2 : Int32) :: st) h r ↔ gm_Go E d 87 49 lv st h r := gr_sw m87 f87_1 rfl rfl rfl rfl rfl
theorem r87_1_3 {E : Nat → Value} {d : Nat} {st : List Value} {h : gm_H} {r : gm_R × gm_H} {lv : List Value} : gm_Go E d 87 1 lv (.int (3 : Int32) :: st) h r ↔ gm_Go E d 87 54 lv st h r := gr_sw m87 f87_1 rfl rfl rfl rfl rfl
theorem r87_1_4 {E : Nat → Value} {d : Nat} {st : List Value} {h : gm_H} {r : gm_R × gm_H} {lv : List Value} : gm_Go E d 87 1 lv (.int (4 : Int32) :: st) h r ↔ gm_Go E d 87 59 lv st h r := gr_sw m87 f87_1 rfl rfl rfl rfl rfl
theorem f87_36 : gm_ft 87 36 = some (.aload_n 0, 1) := by decide +kernel
theorem r87_36 {E : Nat → Value} {d : Nat} {st : List Value} {h : gm_H} {r : gm_R × gm_H} {a1 : Value} {x : Nat} : gm_Go E d 87 36 [.ref x, a1] st h r ↔ gm_Go E d 87 37 [.ref x, a1] (.ref x :: st) h r := gr_loc m87 f87_36 rfl rfl
theorem r87_36n {E : Nat → Value} {d : Nat} {st : List Value} {h : gm_H} {r : gm_R × gm_H} {a1 : Value}  : gm_Go E d 87 36 [.null, a1] st h r ↔ gm_Go E d 87 37 [.null, a1] (.null :: st) h r := gr_loc m87 f87_36 rfl rfl
theorem f87_37 : gm_ft 87 37 = some (.getfield 96, 3) := by decide +kernel
theorem r87_37 {E : Nat → Value} {d : Nat} {st : List Value} {h : gm_H} {r : gm_R × gm_H} {lv : List Value} {a : Nat} {vs : List Value} {v : Value} (hr : gm_rd h a = some (0, vs)) (hv : vs[7]? = some v) : gm_Go E d 87 37 lv (.ref a :: st) h r ↔ gm_Go E d 87 40 lv (v :: st) h r := gr_rd m87 f87_37 rfl rfl rfl rfl (gf_get k0_96 hr hv)
theorem f87_40 : gm_ft 87 40 = some (.ireturn, 1) := by decide +kernel
theorem r87_40 {E : Nat → Value} {d : Nat} {h : gm_H} {r : gm_R × gm_H} {lv : List Value} {x : Int32} : gm_Go E d 87 40 lv [.int x] h r ↔ r = (.inl (some (.int x)), h) := gr_ret m87 f87_40 rfl rfl rfl rfl rfl rfl rfl rfl (by unfold gm_rt; dsimp only; rw [if_pos ⟨rfl, rfl⟩])
theorem f87_41 : gm_ft 87 41 = some (.aload_n 0, 1) := by decide +kernel
theorem r87_41 {E : Nat → Value} {d : Nat} {st : List Value} {h : gm_H} {r : gm_R × gm_H} {a1 : Value} {x : Nat} : gm_Go E d 87 41 [.ref x, a1] st h r ↔ gm_Go E d 87 42 [.ref x, a1] (.ref x :: st) h r := gr_loc m87 f87_41 rfl rfl
theorem r87_41n {E : Nat → Value} {d : Nat} {st : List Value} {h : gm_H} {r : gm_R × gm_H} {a1 : Value}  : gm_Go E d 87 41 [.null, a1] st h r ↔ gm_Go E d 87 42 [.null, a1] (.null :: st) h r := gr_loc m87 f87_41 rfl rfl
theorem f87_42 : gm_ft 87 42 = some (.getfield 28, 3) := by decide +kernel
theorem r87_42 {E : Nat → Value} {d : Nat} {st : List Value} {h : gm_H} {r : gm_R × gm_H} {lv : List Value} {a : Nat} {vs : List Value} {v : Value} (hr : gm_rd h a = some (0, vs)) (hv : vs[10]? = some v) : gm_Go E d 87 42 lv (.ref a :: st) h r ↔ gm_Go E d 87 45 lv (v :: st) h r := gr_rd m87 f87_42 rfl rfl rfl rfl (gf_get k0_28 hr hv)
theorem f87_45 : gm_ft 87 45 = some (.invokevirtual 156, 3) := by decide +kernel
theorem n87_45 {st : List Value} {h : gm_H} {E : Nat → Value} {lv : List Value} {a : Nat} (hs : (st.map fun v => v.category).sum ≤ 8) (he : (gm_en1 [.ref a]).length ≤ 1) {vs : List Value} (hr : gm_rd h a = some (2, vs)) : gm_next E 87 45 lv (.ref a :: st) h = some (.inr (.inl (0, 21, [.ref a], st))) := gn_call m87 f87_45 rfl rfl rfl rfl rfl rfl rfl (gc_virt (bs := []) (w := 202) rfl rfl rfl rfl hs he hr) (by decide)
theorem f87_48 : gm_ft 87 48 = some (.ireturn, 1) := by decide +kernel
theorem r87_48 {E : Nat → Value} {d : Nat} {h : gm_H} {r : gm_R × gm_H} {lv : List Value} {x : Int32} : gm_Go E d 87 48 lv [.int x] h r ↔ r = (.inl (some (.int x)), h) := gr_ret m87 f87_48 rfl rfl rfl rfl rfl rfl rfl rfl (by unfold gm_rt; dsimp only; rw [if_pos ⟨rfl, rfl⟩])
theorem f87_49 : gm_ft 87 49 = some (.aload_n 0, 1) := by decide +kernel
theorem r87_49 {E : Nat → Value} {d : Nat} {st : List Value} {h : gm_H} {r : gm_R × gm_H} {a1 : Value} {x : Nat} : gm_Go E d 87 49 [.ref x, a1] st h r ↔ gm_Go E d 87 50 [.ref x, a1] (.ref x :: st) h r := gr_loc m87 f87_49 rfl rfl
theorem r87_49n {E : Nat → Value} {d : Nat} {st : List Value} {h : gm_H} {r : gm_R × gm_H} {a1 : Value}  : gm_Go E d 87 49 [.null, a1] st h r ↔ gm_Go E d 87 50 [.null, a1] (.null :: st) h r := gr_loc m87 f87_49 rfl rfl
theorem f87_50 : gm_ft 87 50 = some (.getfield 72, 3) := by decide +kernel
theorem r87_50 {E : Nat → Value} {d : Nat} {st : List Value} {h : gm_H} {r : gm_R × gm_H} {lv : List Value} {a : Nat} {vs : List Value} {v : Value} (hr : gm_rd h a = some (0, vs)) (hv : vs[9]? = some v) : gm_Go E d 87 50 lv (.ref a :: st) h r ↔ gm_Go E d 87 53 lv (v :: st) h r := gr_rd m87 f87_50 rfl rfl rfl rfl (gf_get k0_72 hr hv)
theorem f87_53 : gm_ft 87 53 = some (.ireturn, 1) := by decide +kernel
theorem r87_53 {E : Nat → Value} {d : Nat} {h : gm_H} {r : gm_R × gm_H} {lv : List Value} {x : Int32} : gm_Go E d 87 53 lv [.int x] h r ↔ r = (.inl (some (.int x)), h) := gr_ret m87 f87_53 rfl rfl rfl rfl rfl rfl rfl rfl (by unfold gm_rt; dsimp only; rw [if_pos ⟨rfl, rfl⟩])
theorem f87_54 : gm_ft 87 54 = some (.aload_n 0, 1) := by decide +kernel
theorem r87_54 {E : Nat → Value} {d : Nat} {st : List Value} {h : gm_H} {r : gm_R × gm_H} {a1 : Value} {x : Nat} : gm_Go E d 87 54 [.ref x, a1] st h r ↔ gm_Go E d 87 55 [.ref x, a1] (.ref x :: st) h r := gr_loc m87 f87_54 rfl rfl
theorem r87_54n {E : Nat → Value} {d : Nat} {st : List Value} {h : gm_H} {r : gm_R × gm_H} {a1 : Value}  : gm_Go E d 87 54 [.null, a1] st h r ↔ gm_Go E d 87 55 [.null, a1] (.null :: st) h r := gr_loc m87 f87_54 rfl rfl
theorem f87_55 : gm_ft 87 55 = some (.getfield 102, 3) := by decide +kernel
theorem r87_55 {E : Nat → Value} {d : Nat} {st : List Value} {h : gm_H} {r : gm_R × gm_H} {lv : List Value} {a : Nat} {vs : List Value} {v : Value} (hr : gm_rd h a = some (0, vs)) (hv : vs[11]? = some v) : gm_Go E d 87 55 lv (.ref a :: st) h r ↔ gm_Go E d 87 58 lv (v :: st) h r := gr_rd m87 f87_55 rfl rfl rfl rfl (gf_get k0_102 hr hv)
theorem f87_58 : gm_ft 87 58 = some (.ireturn, 1) := by decide +kernel
theorem r87_58 {E : Nat → Value} {d : Nat} {h : gm_H} {r : gm_R × gm_H} {lv : List Value} {x : Int32} : gm_Go E d 87 58 lv [.int x] h r ↔ r = (.inl (some (.int x)), h) := gr_ret m87 f87_58 rfl rfl rfl rfl rfl rfl rfl rfl (by unfold gm_rt; dsimp only; rw [if_pos ⟨rfl, rfl⟩])
theorem f87_59 : gm_ft 87 59 = some (.aload_n 0, 1) := by decide +kernel
theorem r87_59 {E : Nat → Value} {d : Nat} {st : List Value} {h : gm_H} {r : gm_R × gm_H} {a1 : Value} {x : Nat} : gm_Go E d 87 59 [.ref x, a1] st h r ↔ gm_Go E d 87 60 [.ref x, a1] (.ref x :: st) h r := gr_loc m87 f87_59 rfl rfl
theorem r87_59n {E : Nat → Value} {d : Nat} {st : List Value} {h : gm_H} {r : gm_R × gm_H} {a1 : Value}  : gm_Go E d 87 59 [.null, a1] st h r ↔ gm_Go E d 87 60 [.null, a1] (.null :: st) h r := gr_loc m87 f87_59 rfl rfl
theorem f87_60 : gm_ft 87 60 = some (.getfield 93, 3) := by decide +kernel
theorem r87_60 {E : Nat → Value} {d : Nat} {st : List Value} {h : gm_H} {r : gm_R × gm_H} {lv : List Value} {a : Nat} {vs : List Value} {v : Value} (hr : gm_rd h a = some (0, vs)) (hv : vs[6]? = some v) : gm_Go E d 87 60 lv (.ref a :: st) h r ↔ gm_Go E d 87 63 lv (v :: st) h r := gr_rd m87 f87_60 rfl rfl rfl rfl (gf_get k0_93 hr hv)
theorem f87_63 : gm_ft 87 63 = some (.ireturn, 1) := by decide +kernel
theorem r87_63 {E : Nat → Value} {d : Nat} {h : gm_H} {r : gm_R × gm_H} {lv : List Value} {x : Int32} : gm_Go E d 87 63 lv [.int x] h r ↔ r = (.inl (some (.int x)), h) := gr_ret m87 f87_63 rfl rfl rfl rfl rfl rfl rfl rfl (by unfold gm_rt; dsimp only; rw [if_pos ⟨rfl, rfl⟩])
theorem f87_64 : gm_ft 87 64 = some (.iconst (-1), 1) := by decide +kernel
theorem r87_64 {E : Nat → Value} {d : Nat} {st : List Value} {h : gm_H} {r : gm_R × gm_H} {lv : List Value} : gm_Go E d 87 64 lv st h r ↔ gm_Go E d 87 65 lv (.int (-1 : Int32) :: st) h r := gr_pure m87 f87_64 rfl
theorem f87_65 : gm_ft 87 65 = some (.ireturn, 1) := by decide +kernel
theorem r87_65 {E : Nat → Value} {d : Nat} {h : gm_H} {r : gm_R × gm_H} {lv : List Value} {x : Int32} : gm_Go E d 87 65 lv [.int x] h r ↔ r = (.inl (some (.int x)), h) := gr_ret m87 f87_65 rfl rfl rfl rfl rfl rfl rfl rfl (by unfold gm_rt; dsimp only; rw [if_pos ⟨rfl, rfl⟩])
