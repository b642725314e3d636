/-! GraphReaderModel.noClass(I)Z -/
theorem m93 : gm_mt[93]? = some (⟨"GraphReaderModel", "noClass", "(I)Z"⟩, prog_7_method_4_code, 2, (some .boolean), [], 5, 2) := rfl
theorem f93_0 : gm_ft 93 0 = some (.aload_n 0, 1) := by decide +kernel
theorem r93_0 {E : Nat → Value} {d : Nat} {st : List Value} {h : gm_H} {r : gm_R × gm_H} {a1 : Value} {x : Nat} : gm_Go E d 93 0 [.ref x, a1] st h r ↔ gm_Go E d 93 1 [.ref x, a1] (.ref x :: st) h r := gr_loc m93 f93_0 rfl rfl
theorem r93_0n {E : Nat → Value} {d : Nat} {st : List Value} {h : gm_H} {r : gm_R × gm_H} {a1 : Value}  : gm_Go E d 93 0 [.null, a1] st h r ↔ gm_Go E d 93 1 [.null, a1] (.null :: st) h r := gr_loc m93 f93_0 rfl rfl
theorem f93_1 : gm_ft 93 1 = some (.iload_n 1, 1) := by decide +kernel
theorem r93_1 {E : Nat → Value} {d : Nat} {st : List Value} {h : gm_H} {r : gm_R × gm_H} {a0 : Value} {x : Int32} : gm_Go E d 93 1 [a0, .int x] st h r ↔ gm_Go E d 93 2 [a0, .int x] (.int x :: st) h r := gr_loc m93 f93_1 rfl rfl
theorem f93_2 : gm_ft 93 2 = some (.bipush 6, 2) := by decide +kernel
theorem r93_2 {E : Nat → Value} {d : Nat} {st : List Value} {h : gm_H} {r : gm_R × gm_H} {lv : List Value} : gm_Go E d 93 2 lv st h r ↔ gm_Go E d 93 4 lv (.int (6 : Int32) :: st) h r := gr_pure m93 f93_2 rfl
theorem f93_4 : gm_ft 93 4 = some (.invokevirtual 131, 3) := by decide +kernel
theorem n93_4 {st : List Value} {h : gm_H} {E : Nat → Value} {lv : List Value} {b0 b1 : Value} {a : Nat} (hs : (st.map fun v => v.category).sum ≤ 8) (he : (gm_en1 [.ref a, b0, b1]).length ≤ 3) {vs : List Value} (hr : gm_rd h a = some (5, vs)) : gm_next E 93 4 lv (b1 :: b0 :: .ref a :: st) h = some (.inr (.inl (0, 92, [.ref a, b0, b1], st))) := gn_call m93 f93_4 rfl rfl rfl rfl rfl rfl rfl (gc_virt (bs := [b1, b0]) (w := 820) rfl rfl rfl rfl hs he hr) (by decide)
theorem f93_7 : gm_ft 93 7 = some (.ifCond .ne 12, 3) := by decide +kernel
theorem r93_7 {E : Nat → Value} {d : Nat} {st : List Value} {h : gm_H} {r : gm_R × gm_H} {lv : List Value} {x : Int32} : gm_Go E d 93 7 lv (.int x :: st) h r ↔ (if x = 0 then gm_Go E d 93 10 lv st h r else gm_Go E d 93 19 lv st h r) := (gr_br m93 f93_7 rfl rfl rfl rfl).trans gr_ifn
theorem f93_10 : gm_ft 93 10 = some (.aload_n 0, 1) := by decide +kernel
theorem r93_10 {E : Nat → Value} {d : Nat} {st : List Value} {h : gm_H} {r : gm_R × gm_H} {a1 : Value} {x : Nat} : gm_Go E d 93 10 [.ref x, a1] st h r ↔ gm_Go E d 93 11 [.ref x, a1] (.ref x :: st) h r := gr_loc m93 f93_10 rfl rfl
theorem r93_10n {E : Nat → Value} {d : Nat} {st : List Value} {h : gm_H} {r : gm_R × gm_H} {a1 : Value}  : gm_Go E d 93 10 [.null, a1] st h r ↔ gm_Go E d 93 11 [.null, a1] (.null :: st) h r := gr_loc m93 f93_10 rfl rfl
theorem f93_11 : gm_ft 93 11 = some (.getfield 13, 3) := by decide +kernel
theorem r93_11 {E : Nat → Value} {d : Nat} {st : List Value} {h : gm_H} {r : gm_R × gm_H} {lv : List Value} {a : Nat} {vs : List Value} {v : Value} (hr : gm_rd h a = some (5, vs)) (hv : vs[10]? = some v) : gm_Go E d 93 11 lv (.ref a :: st) h r ↔ gm_Go E d 93 14 lv (v :: st) h r := gr_rd m93 f93_11 rfl rfl rfl rfl (gf_get k5_13 hr hv)
theorem f93_14 : gm_ft 93 14 = some (.iload_n 1, 1) := by decide +kernel
theorem r93_14 {E : Nat → Value} {d : Nat} {st : List Value} {h : gm_H} {r : gm_R × gm_H} {a0 : Value} {x : Int32} : gm_Go E d 93 14 [a0, .int x] st h r ↔ gm_Go E d 93 15 [a0, .int x] (.int x :: st) h r := gr_loc m93 f93_14 rfl rfl
theorem f93_15 : gm_ft 93 15 = some (.iaload, 1) := by decide +kernel
theorem r93_15 {E : Nat → Value} {d : Nat} {st : List Value} {h : gm_H} {r : gm_R × gm_H} {lv : List Value} {a k j : Nat} {vs : List Value} {v : Value} (hr : gm_rd h a = some (k, vs)) (hk : 100 ≤ k ∧ (fun t => t == 0) (k % 100) = true) (hj : j < 2 ^ 31) (hv : vs[j]? = some v) : gm_Go E d 93 15 lv (.int (nI j) :: .ref a :: st) h r ↔ gm_Go E d 93 16 lv (v :: st) h r := gr_rd m93 f93_15 rfl rfl rfl rfl (ga_ld (P := fun t => t == 0) hr hk hj hv)
theorem f93_16 : gm_ft 93 16 = some (.ifCond .ge 7, 3) := by decide +kernel
theorem r93_16 {E : Nat → Value} {d : Nat} {st : List Value} {h : gm_H} {r : gm_R × gm_H} {lv : List Value} {x : Int32} : gm_Go E d 93 16 lv (.int x :: st) h r ↔ (if 0 ≤ x then gm_Go E d 93 23 lv st h r else gm_Go E d 93 19 lv st h r) := (gr_br m93 f93_16 rfl rfl rfl rfl).trans gr_if
theorem f93_19 : gm_ft 93 19 = some (.iconst 1, 1) := by decide +kernel
theorem r93_19 {E : Nat → Value} {d : Nat} {st : List Value} {h : gm_H} {r : gm_R × gm_H} {lv : List Value} : gm_Go E d 93 19 lv st h r ↔ gm_Go E d 93 20 lv (.int (1 : Int32) :: st) h r := gr_pure m93 f93_19 rfl
theorem f93_20 : gm_ft 93 20 = some (.goto 4, 3) := by decide +kernel
theorem r93_20 {E : Nat → Value} {d : Nat} {st : List Value} {h : gm_H} {r : gm_R × gm_H} {lv : List Value} : gm_Go E d 93 20 lv st h r ↔ gm_Go E d 93 24 lv st h r := gr_brT m93 f93_20 rfl rfl rfl rfl
theorem f93_23 : gm_ft 93 23 = some (.iconst 0, 1) := by decide +kernel
theorem r93_23 {E : Nat → Value} {d : Nat} {st : List Value} {h : gm_H} {r : gm_R × gm_H} {lv : List Value} : gm_Go E d 93 23 lv st h r ↔ gm_Go E d 93 24 lv (.int (0 : Int32) :: st) h r := gr_pure m93 f93_23 rfl
theorem f93_24 : gm_ft 93 24 = some (.ireturn, 1) := by decide +kernel
theorem r93_24_0 {E : Nat → Value} {d : Nat} {h : gm_H} {r : gm_R × gm_H} {lv : List Value} : gm_Go E d 93 24 lv [.int (0 : Int32)] h r ↔ r = (.inl (some (.int (0 : Int32))), h) := gr_ret m93 f93_24 rfl rfl rfl rfl rfl rfl rfl rfl (by unfold gm_rt; dsimp only; rw [if_pos ⟨rfl, rfl⟩])
theorem r93_24_1 {E : Nat → Value} {d : Nat} {h : gm_H} {r : gm_R × gm_H} {lv : List Value} : gm_Go E d 93 24 lv [.int (1 : Int32)] h r ↔ r = (.inl (some (.int (1 : Int32))), h) := gr_ret m93 f93_24 rfl rfl rfl rfl rfl rfl rfl rfl (by unfold gm_rt; dsimp only; rw [if_pos ⟨rfl, rfl⟩])
/-! GraphReaderModel.field(III)I -/
theorem m94 : gm_mt[94]? = some (⟨"GraphReaderModel", "field", "(III)I"⟩, prog_7_method_6_code, 5, (some .int), [], 5, 2) := rfl
theorem f94_0 : gm_ft 94 0 = some (.aload_n 0, 1) := by decide +kernel
theorem r94_0 {E : Nat → Value} {d : Nat} {st : List Value} {h : gm_H} {r : gm_R × gm_H} {a1 a2 a3 a4 : Value} {x : Nat} : gm_Go E d 94 0 [.ref x, a1, a2, a3, a4] st h r ↔ gm_Go E d 94 1 [.ref x, a1, a2, a3, a4] (.ref x :: st) h r := gr_loc m94 f94_0 rfl rfl
theorem r94_0n {E : Nat → Value} {d : Nat} {st : List Value} {h : gm_H} {r : gm_R × gm_H} {a1 a2 a3 a4 : Value}  : gm_Go E d 94 0 [.null, a1, a2, a3, a4] st h r ↔ gm_Go E d 94 1 [.null, a1, a2, a3, a4] (.null :: st) h r := gr_loc m94 f94_0 rfl rfl
theorem f94_1 : gm_ft 94 1 = some (.iload_n 1, 1) := by decide +kernel
theorem r94_1 {E : Nat → Value} {d : Nat} {st : List Value} {h : gm_H} {r : gm_R × gm_H} {a0 a2 a3 a4 : Value} {x : Int32} : gm_Go E d 94 1 [a0, .int x, a2, a3, a4] st h r ↔ gm_Go E d 94 2 [a0, .int x, a2, a3, a4] (.int x :: st) h r := gr_loc m94 f94_1 rfl rfl
theorem f94_2 : gm_ft 94 2 = some (.invokevirtual 135, 3) := by decide +kernel
theorem n94_2 {st : List Value} {h : gm_H} {E : Nat → Value} {lv : List Value} {b0 : Value} {a : Nat} (hs : (st.map fun v => v.category).sum ≤ 8) (he : (gm_en1 [.ref a, b0]).length ≤ 2) {vs : List Value} (hr : gm_rd h a = some (5, vs)) : gm_next E 94 2 lv (b0 :: .ref a :: st) h = some (.inr (.inl (0, 93, [.ref a, b0], st))) := gn_call m94 f94_2 rfl rfl rfl rfl rfl rfl rfl (gc_virt (bs := [b0]) (w := 824) rfl rfl rfl rfl hs he hr) (by decide)
theorem f94_5 : gm_ft 94 5 = some (.ifCond .ne 33, 3) := by decide +kernel
theorem r94_5 {E : Nat → Value} {d : Nat} {st : List Value} {h : gm_H} {r : gm_R × gm_H} {lv : List Value} {x : Int32} : gm_Go E d 94 5 lv (.int x :: st) h r ↔ (if x = 0 then gm_Go E d 94 8 lv st h r else gm_Go E d 94 38 lv st h r) := (gr_br m94 f94_5 rfl rfl rfl rfl).trans gr_ifn
theorem f94_8 : gm_ft 94 8 = some (.aload_n 0, 1) := by decide +kernel
theorem r94_8 {E : Nat → Value} {d : Nat} {st : List Value} {h : gm_H} {r : gm_R × gm_H} {a1 a2 a3 a4 : Value} {x : Nat} : gm_Go E d 94 8 [.ref x, a1, a2, a3, a4] st h r ↔ gm_Go E d 94 9 [.ref x, a1, a2, a3, a4] (.ref x :: st) h r := gr_loc m94 f94_8 rfl rfl
theorem r94_8n {E : Nat → Value} {d : Nat} {st : List Value} {h : gm_H} {r : gm_R × gm_H} {a1 a2 a3 a4 : Value}  : gm_Go E d 94 8 [.null, a1, a2, a3, a4] st h r ↔ gm_Go E d 94 9 [.null, a1, a2, a3, a4] (.null :: st) h r := gr_loc m94 f94_8 rfl rfl
theorem f94_9 : gm_ft 94 9 = some (.getfield 13, 3) := by decide +kernel
theorem r94_9 {E : Nat → Value} {d : Nat} {st : List Value} {h : gm_H} {r : gm_R × gm_H} {lv : List Value} {a : Nat} {vs : List Value} {v : Value} (hr : gm_rd h a = some (5, vs)) (hv : vs[10]? = some v) : gm_Go E d 94 9 lv (.ref a :: st) h r ↔ gm_Go E d 94 12 lv (v :: st) h r := gr_rd m94 f94_9 rfl rfl rfl rfl (gf_get k5_13 hr hv)
theorem f94_12 : gm_ft 94 12 = some (.iload_n 1, 1) := by decide +kernel
theorem r94_12 {E : Nat → Value} {d : Nat} {st : List Value} {h : gm_H} {r : gm_R × gm_H} {a0 a2 a3 a4 : Value} {x : Int32} : gm_Go E d 94 12 [a0, .int x, a2, a3, a4] st h r ↔ gm_Go E d 94 13 [a0, .int x, a2, a3, a4] (.int x :: st) h r := gr_loc m94 f94_12 rfl rfl
theorem f94_13 : gm_ft 94 13 = some (.iaload, 1) := by decide +kernel
theorem r94_13 {E : Nat → Value} {d : Nat} {st : List Value} {h : gm_H} {r : gm_R × gm_H} {lv : List Value} {a k j : Nat} {vs : List Value} {v : Value} (hr : gm_rd h a = some (k, vs)) (hk : 100 ≤ k ∧ (fun t => t == 0) (k % 100) = true) (hj : j < 2 ^ 31) (hv : vs[j]? = some v) : gm_Go E d 94 13 lv (.int (nI j) :: .ref a :: st) h r ↔ gm_Go E d 94 14 lv (v :: st) h r := gr_rd m94 f94_13 rfl rfl rfl rfl (ga_ld (P := fun t => t == 0) hr hk hj hv)
theorem f94_14 : gm_ft 94 14 = some (.iconst 3, 1) := by decide +kernel
theorem r94_14 {E : Nat → Value} {d : Nat} {st : List Value} {h : gm_H} {r : gm_R × gm_H} {lv : List Value} : gm_Go E d 94 14 lv st h r ↔ gm_Go E d 94 15 lv (.int (3 : Int32) :: st) h r := gr_pure m94 f94_14 rfl
theorem f94_15 : gm_ft 94 15 = some (.if_icmp .eq 23, 3) := by decide +kernel
theorem r94_15 {E : Nat → Value} {d : Nat} {st : List Value} {h : gm_H} {r : gm_R × gm_H} {lv : List Value} {x y : Int32} : gm_Go E d 94 15 lv (.int y :: .int x :: st) h r ↔ (if x = y then gm_Go E d 94 38 lv st h r else gm_Go E d 94 18 lv st h r) := (gr_br m94 f94_15 rfl rfl rfl rfl).trans gr_if
theorem f94_18 : gm_ft 94 18 = some (.aload_n 0, 1) := by decide +kernel
theorem r94_18 {E : Nat → Value} {d : Nat} {st : List Value} {h : gm_H} {r : gm_R × gm_H} {a1 a2 a3 a4 : Value} {x : Nat} : gm_Go E d 94 18 [.ref x, a1, a2, a3, a4] st h r ↔ gm_Go E d 94 19 [.ref x, a1, a2, a3, a4] (.ref x :: st) h r := gr_loc m94 f94_18 rfl rfl
theorem r94_18n {E : Nat → Value} {d : Nat} {st : List Value} {h : gm_H} {r : gm_R × gm_H} {a1 a2 a3 a4 : Value}  : gm_Go E d 94 18 [.null, a1, a2, a3, a4] st h r ↔ gm_Go E d 94 19 [.null, a1, a2, a3, a4] (.null :: st) h r := gr_loc m94 f94_18 rfl rfl
theorem f94_19 : gm_ft 94 19 = some (.iload_n 2, 1) := by decide +kernel
theorem r94_19 {E : Nat → Value} {d : Nat} {st : List Value} {h : gm_H} {r : gm_R × gm_H} {a0 a1 a3 a4 : Value} {x : Int32} : gm_Go E d 94 19 [a0, a1, .int x, a3, a4] st h r ↔ gm_Go E d 94 20 [a0, a1, .int x, a3, a4] (.int x :: st) h r := gr_loc m94 f94_19 rfl rfl
theorem f94_20 : gm_ft 94 20 = some (.bipush 26, 2) := by decide +kernel
theorem r94_20 {E : Nat → Value} {d : Nat} {st : List Value} {h : gm_H} {r : gm_R × gm_H} {lv : List Value} : gm_Go E d 94 20 lv st h r ↔ gm_Go E d 94 22 lv (.int (26 : Int32) :: st) h r := gr_pure m94 f94_20 rfl
theorem f94_22 : gm_ft 94 22 = some (.invokevirtual 131, 3) := by decide +kernel
theorem n94_22 {st : List Value} {h : gm_H} {E : Nat → Value} {lv : List Value} {b0 b1 : Value} {a : Nat} (hs : (st.map fun v => v.category).sum ≤ 8) (he : (gm_en1 [.ref a, b0, b1]).length ≤ 3) {vs : List Value} (hr : gm_rd h a = some (5, vs)) : gm_next E 94 22 lv (b1 :: b0 :: .ref a :: st) h = some (.inr (.inl (0, 92, [.ref a, b0, b1], st))) := gn_call m94 f94_22 rfl rfl rfl rfl rfl rfl rfl (gc_virt (bs := [b1, b0]) (w := 820) rfl rfl rfl rfl hs he hr) (by decide)
theorem f94_25 : gm_ft 94 25 = some (.ifCond .ne 13, 3) := by decide +kernel
theorem r94_25 {E : Nat → Value} {d : Nat} {st : List Value} {h : gm_H} {r : gm_R × gm_H} {lv : List Value} {x : Int32} : gm_Go E d 94 25 lv (.int x :: st) h r ↔ (if x = 0 then gm_Go E d 94 28 lv st h r else gm_Go E d 94 38 lv st h r) := (gr_br m94 f94_25 rfl rfl rfl rfl).trans gr_ifn
theorem f94_28 : gm_ft 94 28 = some (.aload_n 0, 1) := by decide +kernel
theorem r94_28 {E : Nat → Value} {d : Nat} {st : List Value} {h : gm_H} {r : gm_R × gm_H} {a1 a2 a3 a4 : Value} {x : Nat} : gm_Go E d 94 28 [.ref x, a1, a2, a3, a4] st h r ↔ gm_Go E d 94 29 [.ref x, a1, a2, a3, a4] (.ref x :: st) h r := gr_loc m94 f94_28 rfl rfl
theorem r94_28n {E : Nat → Value} {d : Nat} {st : List Value} {h : gm_H} {r : gm_R × gm_H} {a1 a2 a3 a4 : Value}  : gm_Go E d 94 28 [.null, a1, a2, a3, a4] st h r ↔ gm_Go E d 94 29 [.null, a1, a2, a3, a4] (.null :: st) h r := gr_loc m94 f94_28 rfl rfl
theorem f94_29 : gm_ft 94 29 = some (.iload_n 3, 1) := by decide +kernel
theorem r94_29 {E : Nat → Value} {d : Nat} {st : List Value} {h : gm_H} {r : gm_R × gm_H} {a0 a1 a2 a4 : Value} {x : Int32} : gm_Go E d 94 29 [a0, a1, a2, .int x, a4] st h r ↔ gm_Go E d 94 30 [a0, a1, a2, .int x, a4] (.int x :: st) h r := gr_loc m94 f94_29 rfl rfl
theorem f94_30 : gm_ft 94 30 = some (.bipush 8, 2) := by decide +kernel
theorem r94_30 {E : Nat → Value} {d : Nat} {st : List Value} {h : gm_H} {r : gm_R × gm_H} {lv : List Value} : gm_Go E d 94 30 lv st h r ↔ gm_Go E d 94 32 lv (.int (8 : Int32) :: st) h r := gr_pure m94 f94_30 rfl
theorem f94_32 : gm_ft 94 32 = some (.invokevirtual 131, 3) := by decide +kernel
theorem n94_32 {st : List Value} {h : gm_H} {E : Nat → Value} {lv : List Value} {b0 b1 : Value} {a : Nat} (hs : (st.map fun v => v.category).sum ≤ 8) (he : (gm_en1 [.ref a, b0, b1]).length ≤ 3) {vs : List Value} (hr : gm_rd h a = some (5, vs)) : gm_next E 94 32 lv (b1 :: b0 :: .ref a :: st) h = some (.inr (.inl (0, 92, [.ref a, b0, b1], st))) := gn_call m94 f94_32 rfl rfl rfl rfl rfl rfl rfl (gc_virt (bs := [b1, b0]) (w := 820) rfl rfl rfl rfl hs he hr) (by decide)
theorem f94_35 : gm_ft 94 35 = some (.ifCond .eq 5, 3) := by decide +kernel
theorem r94_35 {E : Nat → Value} {d : Nat} {st : List Value} {h : gm_H} {r : gm_R × gm_H} {lv : List Value} {x : Int32} : gm_Go E d 94 35 lv (.int x :: st) h r ↔ (if x = 0 then gm_Go E d 94 40 lv st h r else gm_Go E d 94 38 lv st h r) := (gr_br m94 f94_35 rfl rfl rfl rfl).trans gr_if
theorem f94_38 : gm_ft 94 38 = some (.iconst (-1), 1) := by decide +kernel
theorem r94_38 {E : Nat → Value} {d : Nat} {st : List Value} {h : gm_H} {r : gm_R × gm_H} {lv : List Value} : gm_Go E d 94 38 lv st h r ↔ gm_Go E d 94 39 lv (.int (-1 : Int32) :: st) h r := gr_pure m94 f94_38 rfl
theorem f94_39 : gm_ft 94 39 = some (.ireturn, 1) := by decide +kernel
theorem r94_39 {E : Nat → Value} {d : Nat} {h : gm_H} {r : gm_R × gm_H} {lv : List Value} {x : Int32} : gm_Go E d 94 39 lv [.int x] h r ↔ r = (.inl (some (.int x)), h) := gr_ret m94 f94_39 rfl rfl rfl rfl rfl rfl rfl rfl (by unfold gm_rt; dsimp only; rw [if_pos ⟨rfl, rfl⟩])
theorem f94_40 : gm_ft 94 40 = some (.aload_n 0, 1) := by decide +kernel
theorem r94_40 {E : Nat → Value} {d : Nat} {st : List Value} {h : gm_H} {r : gm_R × gm_H} {a1 a2 a3 a4 : Value} {x : Nat} : gm_Go E d 94 40 [.ref x, a1, a2, a3, a4] st h r ↔ gm_Go E d 94 41 [.ref x, a1, a2, a3, a4] (.ref x :: st) h r := gr_loc m94 f94_40 rfl rfl
theorem r94_40n {E : Nat → Value} {d : Nat} {st : List Value} {h : gm_H} {r : gm_R × gm_H} {a1 a2 a3 a4 : Value}  : gm_Go E d 94 40 [.null, a1, a2, a3, a4] st h r ↔ gm_Go E d 94 41 [.null, a1, a2, a3, a4] (.null :: st) h r := gr_loc m94 f94_40 rfl rfl
theorem f94_41 : gm_ft 94 41 = some (.getfield 23, 3) := by decide +kernel
theorem r94_41 {E : Nat → Value} {d : Nat} {st : List Value} {h : gm_H} {r : gm_R × gm_H} {lv : List Value} {a : Nat} {vs : List Value} {v : Value} (hr : gm_rd h a = some (5, vs)) (hv : vs[13]? = some v) : gm_Go E d 94 41 lv (.ref a :: st) h r ↔ gm_Go E d 94 44 lv (v :: st) h r := gr_rd m94 f94_41 rfl rfl rfl rfl (gf_get k5_23 hr hv)
theorem f94_44 : gm_ft 94 44 = some (.iload_n 1, 1) := by decide +kernel
theorem r94_44 {E : Nat → Value} {d : Nat} {st : List Value} {h : gm_H} {r : gm_R × gm_H} {a0 a2 a3 a4 : Value} {x : Int32} : gm_Go E d 94 44 [a0, .int x, a2, a3, a4] st h r ↔ gm_Go E d 94 45 [a0, .int x, a2, a3, a4] (.int x :: st) h r := gr_loc m94 f94_44 rfl rfl
theorem f94_45 : gm_ft 94 45 = some (.iaload, 1) := by decide +kernel
theorem r94_45 {E : Nat → Value} {d : Nat} {st : List Value} {h : gm_H} {r : gm_R × gm_H} {lv : List Value} {a k j : Nat} {vs : List Value} {v : Value} (hr : gm_rd h a = some (k, vs)) (hk : 100 ≤ k ∧ (fun t => t == 0) (k % 100) = true) (hj : j < 2 ^ 31) (hv : vs[j]? = some v) : gm_Go E d 94 45 lv (.int (nI j) :: .ref a :: st) h r ↔ gm_Go E d 94 46 lv (v :: st) h r := gr_rd m94 f94_45 rfl rfl rfl rfl (ga_ld (P := fun t => t == 0) hr hk hj hv)
theorem f94_46 : gm_ft 94 46 = some (.iconst 4, 1) := by decide +kernel
theorem r94_46 {E : Nat → Value} {d : Nat} {st : List Value} {h : gm_H} {r : gm_R × gm_H} {lv : List Value} : gm_Go E d 94 46 lv st h r ↔ gm_Go E d 94 47 lv (.int (4 : Int32) :: st) h r := gr_pure m94 f94_46 rfl
theorem f94_47 : gm_ft 94 47 = some (.if_icmp .eq 10, 3) := by decide +kernel
theorem r94_47 {E : Nat → Value} {d : Nat} {st : List Value} {h : gm_H} {r : gm_R × gm_H} {lv : List Value} {x y : Int32} : gm_Go E d 94 47 lv (.int y :: .int x :: st) h r ↔ (if x = y then gm_Go E d 94 57 lv st h r else gm_Go E d 94 50 lv st h r) := (gr_br m94 f94_47 rfl rfl rfl rfl).trans gr_if
theorem f94_50 : gm_ft 94 50 = some (.aload_n 0, 1) := by decide +kernel
theorem r94_50 {E : Nat → Value} {d : Nat} {st : List Value} {h : gm_H} {r : gm_R × gm_H} {a1 a2 a3 a4 : Value} {x : Nat} : gm_Go E d 94 50 [.ref x, a1, a2, a3, a4] st h r ↔ gm_Go E d 94 51 [.ref x, a1, a2, a3, a4] (.ref x :: st) h r := gr_loc m94 f94_50 rfl rfl
theorem r94_50n {E : Nat → Value} {d : Nat} {st : List Value} {h : gm_H} {r : gm_R × gm_H} {a1 a2 a3 a4 : Value}  : gm_Go E d 94 50 [.null, a1, a2, a3, a4] st h r ↔ gm_Go E d 94 51 [.null, a1, a2, a3, a4] (.null :: st) h r := gr_loc m94 f94_50 rfl rfl
theorem f94_51 : gm_ft 94 51 = some (.getfield 139, 3) := by decide +kernel
theorem r94_51 {E : Nat → Value} {d : Nat} {st : List Value} {h : gm_H} {r : gm_R × gm_H} {lv : List Value} {a : Nat} {vs : List Value} {v : Value} (hr : gm_rd h a = some (5, vs)) (hv : vs[23]? = some v) : gm_Go E d 94 51 lv (.ref a :: st) h r ↔ gm_Go E d 94 54 lv (v :: st) h r := gr_rd m94 f94_51 rfl rfl rfl rfl (gf_get k5_139 hr hv)
theorem f94_54 : gm_ft 94 54 = some (.ifCond .le 5, 3) := by decide +kernel
theorem r94_54 {E : Nat → Value} {d : Nat} {st : List Value} {h : gm_H} {r : gm_R × gm_H} {lv : List Value} {x : Int32} : gm_Go E d 94 54 lv (.int x :: st) h r ↔ (if x ≤ 0 then gm_Go E d 94 59 lv st h r else gm_Go E d 94 57 lv st h r) := (gr_br m94 f94_54 rfl rfl rfl rfl).trans gr_if
theorem f94_57 : gm_ft 94 57 = some (.iconst (-1), 1) := by decide +kernel
theorem r94_57 {E : Nat → Value} {d : Nat} {st : List Value} {h : gm_H} {r : gm_R × gm_H} {lv : List Value} : gm_Go E d 94 57 lv st h r ↔ gm_Go E d 94 58 lv (.int (-1 : Int32) :: st) h r := gr_pure m94 f94_57 rfl
theorem f94_58 : gm_ft 94 58 = some (.ireturn, 1) := by decide +kernel
theorem r94_58 {E : Nat → Value} {d : Nat} {h : gm_H} {r : gm_R × gm_H} {lv : List Value} {x : Int32} : gm_Go E d 94 58 lv [.int x] h r ↔ r = (.inl (some (.int x)), h) := gr_ret m94 f94_58 rfl rfl rfl rfl rfl rfl rfl rfl (by unfold gm_rt; dsimp only; rw [if_pos ⟨rfl, rfl⟩])
theorem f94_59 : gm_ft 94 59 = some (.iconst 0, 1) := by decide +kernel
theorem r94_59 {E : Nat → Value} {d : Nat} {st : List Value} {h : gm_H} {r : gm_R × gm_H} {lv : List Value} : gm_Go E d 94 59 lv st h r ↔ gm_Go E d 94 60 lv (.int (0 : Int32) :: st) h r := gr_pure m94 f94_59 rfl
theorem f94_60 : gm_ft 94 60 = some (.istore 4, 2) := by decide +kernel
theorem r94_60 {E : Nat → Value} {d : Nat} {st : List Value} {h : gm_H} {r : gm_R × gm_H} {a0 a1 a2 a3 a4 : Value} {x : Int32} : gm_Go E d 94 60 [a0, a1, a2, a3, a4] (.int x :: st) h r ↔ gm_Go E d 94 62 [a0, a1, a2, gm_k a3, .int x] st h r := gr_loc m94 f94_60 rfl rfl
theorem f94_62 : gm_ft 94 62 = some (.iload 4, 2) := by decide +kernel
theorem r94_62 {E : Nat → Value} {d : Nat} {st : List Value} {h : gm_H} {r : gm_R × gm_H} {a0 a1 a2 a3 : Value} {x : Int32} : gm_Go E d 94 62 [a0, a1, a2, a3, .int x] st h r ↔ gm_Go E d 94 64 [a0, a1, a2, a3, .int x] (.int x :: st) h r := gr_loc m94 f94_62 rfl rfl
theorem f94_64 : gm_ft 94 64 = some (.aload_n 0, 1) := by decide +kernel
theorem r94_64 {E : Nat → Value} {d : Nat} {st : List Value} {h : gm_H} {r : gm_R × gm_H} {a1 a2 a3 a4 : Value} {x : Nat} : gm_Go E d 94 64 [.ref x, a1, a2, a3, a4] st h r ↔ gm_Go E d 94 65 [.ref x, a1, a2, a3, a4] (.ref x :: st) h r := gr_loc m94 f94_64 rfl rfl
theorem r94_64n {E : Nat → Value} {d : Nat} {st : List Value} {h : gm_H} {r : gm_R × gm_H} {a1 a2 a3 a4 : Value}  : gm_Go E d 94 64 [.null, a1, a2, a3, a4] st h r ↔ gm_Go E d 94 65 [.null, a1, a2, a3, a4] (.null :: st) h r := gr_loc m94 f94_64 rfl rfl
theorem f94_65 : gm_ft 94 65 = some (.getfield 23, 3) := by decide +kernel
theorem r94_65 {E : Nat → Value} {d : Nat} {st : List Value} {h : gm_H} {r : gm_R × gm_H} {lv : List Value} {a : Nat} {vs : List Value} {v : Value} (hr : gm_rd h a = some (5, vs)) (hv : vs[13]? = some v) : gm_Go E d 94 65 lv (.ref a :: st) h r ↔ gm_Go E d 94 68 lv (v :: st) h r := gr_rd m94 f94_65 rfl rfl rfl rfl (gf_get k5_23 hr hv)
theorem f94_68 : gm_ft 94 68 = some (.iload_n 1, 1) := by decide +kernel
theorem r94_68 {E : Nat → Value} {d : Nat} {st : List Value} {h : gm_H} {r : gm_R × gm_H} {a0 a2 a3 a4 : Value} {x : Int32} : gm_Go E d 94 68 [a0, .int x, a2, a3, a4] st h r ↔ gm_Go E d 94 69 [a0, .int x, a2, a3, a4] (.int x :: st) h r := gr_loc m94 f94_68 rfl rfl
theorem f94_69 : gm_ft 94 69 = some (.iaload, 1) := by decide +kernel
theorem r94_69 {E : Nat → Value} {d : Nat} {st : List Value} {h : gm_H} {r : gm_R × gm_H} {lv : List Value} {a k j : Nat} {vs : List Value} {v : Value} (hr : gm_rd h a = some (k, vs)) (hk : 100 ≤ k ∧ (fun t => t == 0) (k % 100) = true) (hj : j < 2 ^ 31) (hv : vs[j]? = some v) : gm_Go E d 94 69 lv (.int (nI j) :: .ref a :: st) h r ↔ gm_Go E d 94 70 lv (v :: st) h r := gr_rd m94 f94_69 rfl rfl rfl rfl (ga_ld (P := fun t => t == 0) hr hk hj hv)
theorem f94_70 : gm_ft 94 70 = some (.if_icmp .ge 26, 3) := by decide +kernel
theorem r94_70 {E : Nat → Value} {d : Nat} {st : List Value} {h : gm_H} {r : gm_R × gm_H} {lv : List Value} {x y : Int32} : gm_Go E d 94 70 lv (.int y :: .int x :: st) h r ↔ (if y ≤ x then gm_Go E d 94 96 lv st h r else gm_Go E d 94 73 lv st h r) := (gr_br m94 f94_70 rfl rfl rfl rfl).trans gr_if
theorem f94_73 : gm_ft 94 73 = some (.aload_n 0, 1) := by decide +kernel
theorem r94_73 {E : Nat → Value} {d : Nat} {st : List Value} {h : gm_H} {r : gm_R × gm_H} {a1 a2 a3 a4 : Value} {x : Nat} : gm_Go E d 94 73 [.ref x, a1, a2, a3, a4] st h r ↔ gm_Go E d 94 74 [.ref x, a1, a2, a3, a4] (.ref x :: st) h r := gr_loc m94 f94_73 rfl rfl
theorem r94_73n {E : Nat → Value} {d : Nat} {st : List Value} {h : gm_H} {r : gm_R × gm_H} {a1 a2 a3 a4 : Value}  : gm_Go E d 94 73 [.null, a1, a2, a3, a4] st h r ↔ gm_Go E d 94 74 [.null, a1, a2, a3, a4] (.null :: st) h r := gr_loc m94 f94_73 rfl rfl
theorem f94_74 : gm_ft 94 74 = some (.getfield 26, 3) := by decide +kernel
theorem r94_74 {E : Nat → Value} {d : Nat} {st : List Value} {h : gm_H} {r : gm_R × gm_H} {lv : List Value} {a : Nat} {vs : List Value} {v : Value} (hr : gm_rd h a = some (5, vs)) (hv : vs[14]? = some v) : gm_Go E d 94 74 lv (.ref a :: st) h r ↔ gm_Go E d 94 77 lv (v :: st) h r := gr_rd m94 f94_74 rfl rfl rfl rfl (gf_get k5_26 hr hv)
theorem f94_77 : gm_ft 94 77 = some (.iconst 4, 1) := by decide +kernel
theorem r94_77 {E : Nat → Value} {d : Nat} {st : List Value} {h : gm_H} {r : gm_R × gm_H} {lv : List Value} : gm_Go E d 94 77 lv st h r ↔ gm_Go E d 94 78 lv (.int (4 : Int32) :: st) h r := gr_pure m94 f94_77 rfl
theorem f94_78 : gm_ft 94 78 = some (.iload_n 1, 1) := by decide +kernel
theorem r94_78 {E : Nat → Value} {d : Nat} {st : List Value} {h : gm_H} {r : gm_R × gm_H} {a0 a2 a3 a4 : Value} {x : Int32} : gm_Go E d 94 78 [a0, .int x, a2, a3, a4] st h r ↔ gm_Go E d 94 79 [a0, .int x, a2, a3, a4] (.int x :: st) h r := gr_loc m94 f94_78 rfl rfl
theorem f94_79 : gm_ft 94 79 = some (.imul, 1) := by decide +kernel
theorem r94_79 {E : Nat → Value} {d : Nat} {st : List Value} {h : gm_H} {r : gm_R × gm_H} {lv : List Value} {x y : Int32} : gm_Go E d 94 79 lv (.int y :: .int x :: st) h r ↔ gm_Go E d 94 80 lv (.int (x * y) :: st) h r := gr_pure m94 f94_79 rfl
theorem f94_80 : gm_ft 94 80 = some (.iload 4, 2) := by decide +kernel
theorem r94_80 {E : Nat → Value} {d : Nat} {st : List Value} {h : gm_H} {r : gm_R × gm_H} {a0 a1 a2 a3 : Value} {x : Int32} : gm_Go E d 94 80 [a0, a1, a2, a3, .int x] st h r ↔ gm_Go E d 94 82 [a0, a1, a2, a3, .int x] (.int x :: st) h r := gr_loc m94 f94_80 rfl rfl
theorem f94_82 : gm_ft 94 82 = some (.iadd, 1) := by decide +kernel
theorem r94_82 {E : Nat → Value} {d : Nat} {st : List Value} {h : gm_H} {r : gm_R × gm_H} {lv : List Value} {x y : Int32} : gm_Go E d 94 82 lv (.int y :: .int x :: st) h r ↔ gm_Go E d 94 83 lv (.int (x + y) :: st) h r := gr_pure m94 f94_82 rfl
theorem f94_83 : gm_ft 94 83 = some (.iaload, 1) := by decide +kernel
theorem r94_83 {E : Nat → Value} {d : Nat} {st : List Value} {h : gm_H} {r : gm_R × gm_H} {lv : List Value} {a k j : Nat} {vs : List Value} {v : Value} (hr : gm_rd h a = some (k, vs)) (hk : 100 ≤ k ∧ (fun t => t == 0) (k % 100) = true) (hj : j < 2 ^ 31) (hv : vs[j]? = some v) : gm_Go E d 94 83 lv (.int (nI j) :: .ref a :: st) h r ↔ gm_Go E d 94 84 lv (v :: st) h r := gr_rd m94 f94_83 rfl rfl rfl rfl (ga_ld (P := fun t => t == 0) hr hk hj hv)
theorem f94_84 : gm_ft 94 84 = some (.iload_n 2, 1) := by decide +kernel
theorem r94_84 {E : Nat → Value} {d : Nat} {st : List Value} {h : gm_H} {r : gm_R × gm_H} {a0 a1 a3 a4 : Value} {x : Int32} : gm_Go E d 94 84 [a0, a1, .int x, a3, a4] st h r ↔ gm_Go E d 94 85 [a0, a1, .int x, a3, a4] (.int x :: st) h r := gr_loc m94 f94_84 rfl rfl
theorem f94_85 : gm_ft 94 85 = some (.if_icmp .ne 5, 3) := by decide +kernel
theorem r94_85 {E : Nat → Value} {d : Nat} {st : List Value} {h : gm_H} {r : gm_R × gm_H} {lv : List Value} {x y : Int32} : gm_Go E d 94 85 lv (.int y :: .int x :: st) h r ↔ (if x = y then gm_Go E d 94 88 lv st h r else gm_Go E d 94 90 lv st h r) := (gr_br m94 f94_85 rfl rfl rfl rfl).trans gr_ifn
theorem f94_88 : gm_ft 94 88 = some (.iconst (-1), 1) := by decide +kernel
theorem r94_88 {E : Nat → Value} {d : Nat} {st : List Value} {h : gm_H} {r : gm_R × gm_H} {lv : List Value} : gm_Go E d 94 88 lv st h r ↔ gm_Go E d 94 89 lv (.int (-1 : Int32) :: st) h r := gr_pure m94 f94_88 rfl
theorem f94_89 : gm_ft 94 89 = some (.ireturn, 1) := by decide +kernel
theorem r94_89 {E : Nat → Value} {d : Nat} {h : gm_H} {r : gm_R × gm_H} {lv : List Value} {x : Int32} : gm_Go E d 94 89 lv [.int x] h r ↔ r = (.inl (some (.int x)), h) := gr_ret m94 f94_89 rfl rfl rfl rfl rfl rfl rfl rfl (by unfold gm_rt; dsimp only; rw [if_pos ⟨rfl, rfl⟩])
theorem f94_90 : gm_ft 94 90 = some (.iinc 4 1, 3) := by decide +kernel
theorem r94_90 {E : Nat → Value} {d : Nat} {st : List Value} {h : gm_H} {r : gm_R × gm_H} {a0 a1 a2 a3 : Value} {x : Int32} : gm_Go E d 94 90 [a0, a1, a2, a3, .int x] st h r ↔ gm_Go E d 94 93 [a0, a1, a2, gm_k a3, .int (x + (1 : Int32))] st h r := gr_loc m94 f94_90 rfl rfl
theorem f94_93 : gm_ft 94 93 = some (.goto (-31), 3) := by decide +kernel
theorem r94_93 {E : Nat → Value} {d : Nat} {st : List Value} {h : gm_H} {r : gm_R × gm_H} {lv : List Value} : gm_Go E d 94 93 lv st h r ↔ gm_Go E d 94 62 lv st h r := gr_brT m94 f94_93 rfl rfl rfl rfl
theorem f94_96 : gm_ft 94 96 = some (.aload_n 0, 1) := by decide +kernel
theorem r94_96 {E : Nat → Value} {d : Nat} {st : List Value} {h : gm_H} {r : gm_R × gm_H} {a1 a2 a3 a4 : Value} {x : Nat} : gm_Go E d 94 96 [.ref x, a1, a2, a3, a4] st h r ↔ gm_Go E d 94 97 [.ref x, a1, a2, a3, a4] (.ref x :: st) h r := gr_loc m94 f94_96 rfl rfl
theorem r94_96n {E : Nat → Value} {d : Nat} {st : List Value} {h : gm_H} {r : gm_R × gm_H} {a1 a2 a3 a4 : Value}  : gm_Go E d 94 96 [.null, a1, a2, a3, a4] st h r ↔ gm_Go E d 94 97 [.null, a1, a2, a3, a4] (.null :: st) h r := gr_loc m94 f94_96 rfl rfl
theorem f94_97 : gm_ft 94 97 = some (.getfield 26, 3) := by decide +kernel
theorem r94_97 {E : Nat → Value} {d : Nat} {st : List Value} {h : gm_H} {r : gm_R × gm_H} {lv : List Value} {a : Nat} {vs : List Value} {v : Value} (hr : gm_rd h a = some (5, vs)) (hv : vs[14]? = some v) : gm_Go E d 94 97 lv (.ref a :: st) h r ↔ gm_Go E d 94 100 lv (v :: st) h r := gr_rd m94 f94_97 rfl rfl rfl rfl (gf_get k5_26 hr hv)
theorem f94_100 : gm_ft 94 100 = some (.iconst 4, 1) := by decide +kernel
theorem r94_100 {E : Nat → Value} {d : Nat} {st : List Value} {h : gm_H} {r : gm_R × gm_H} {lv : List Value} : gm_Go E d 94 100 lv st h r ↔ gm_Go E d 94 101 lv (.int (4 : Int32) :: st) h r := gr_pure m94 f94_100 rfl
theorem f94_101 : gm_ft 94 101 = some (.iload_n 1, 1) := by decide +kernel
theorem r94_101 {E : Nat → Value} {d : Nat} {st : List Value} {h : gm_H} {r : gm_R × gm_H} {a0 a2 a3 a4 : Value} {x : Int32} : gm_Go E d 94 101 [a0, .int x, a2, a3, a4] st h r ↔ gm_Go E d 94 102 [a0, .int x, a2, a3, a4] (.int x :: st) h r := gr_loc m94 f94_101 rfl rfl
theorem f94_102 : gm_ft 94 102 = some (.imul, 1) := by decide +kernel
theorem r94_102 {E : Nat → Value} {d : Nat} {st : List Value} {h : gm_H} {r : gm_R × gm_H} {lv : List Value} {x y : Int32} : gm_Go E d 94 102 lv (.int y :: .int x :: st) h r ↔ gm_Go E d 94 103 lv (.int (x * y) :: st) h r := gr_pure m94 f94_102 rfl
theorem f94_103 : gm_ft 94 103 = some (.aload_n 0, 1) := by decide +kernel
theorem r94_103 {E : Nat → Value} {d : Nat} {st : List Value} {h : gm_H} {r : gm_R × gm_H} {a1 a2 a3 a4 : Value} {x : Nat} : gm_Go E d 94 103 [.ref x, a1, a2, a3, a4] st h r ↔ gm_Go E d 94 104 [.ref x, a1, a2, a3, a4] (.ref x :: st) h r := gr_loc m94 f94_103 rfl rfl
theorem r94_103n {E : Nat → Value} {d : Nat} {st : List Value} {h : gm_H} {r : gm_R × gm_H} {a1 a2 a3 a4 : Value}  : gm_Go E d 94 103 [.null, a1, a2, a3, a4] st h r ↔ gm_Go E d 94 104 [.null, a1, a2, a3, a4] (.null :: st) h r := gr_loc m94 f94_103 rfl rfl
theorem f94_104 : gm_ft 94 104 = some (.getfield 23, 3) := by decide +kernel
theorem r94_104 {E : Nat → Value} {d : Nat} {st : List Value} {h : gm_H} {r : gm_R × gm_H} {lv : List Value} {a : Nat} {vs : List Value} {v : Value} (hr : gm_rd h a = some (5, vs)) (hv : vs[13]? = some v) : gm_Go E d 94 104 lv (.ref a :: st) h r ↔ gm_Go E d 94 107 lv (v :: st) h r := gr_rd m94 f94_104 rfl rfl rfl rfl (gf_get k5_23 hr hv)
theorem f94_107 : gm_ft 94 107 = some (.iload_n 1, 1) := by decide +kernel
theorem r94_107 {E : Nat → Value} {d : Nat} {st : List Value} {h : gm_H} {r : gm_R × gm_H} {a0 a2 a3 a4 : Value} {x : Int32} : gm_Go E d 94 107 [a0, .int x, a2, a3, a4] st h r ↔ gm_Go E d 94 108 [a0, .int x, a2, a3, a4] (.int x :: st) h r := gr_loc m94 f94_107 rfl rfl
theorem f94_108 : gm_ft 94 108 = some (.iaload, 1) := by decide +kernel
theorem r94_108 {E : Nat → Value} {d : Nat} {st : List Value} {h : gm_H} {r : gm_R × gm_H} {lv : List Value} {a k j : Nat} {vs : List Value} {v : Value} (hr : gm_rd h a = some (k, vs)) (hk : 100 ≤ k ∧ (fun t => t == 0) (k % 100) = true) (hj : j < 2 ^ 31) (hv : vs[j]? = some v) : gm_Go E d 94 108 lv (.int (nI j) :: .ref a :: st) h r ↔ gm_Go E d 94 109 lv (v :: st) h r := gr_rd m94 f94_108 rfl rfl rfl rfl (ga_ld (P := fun t => t == 0) hr hk hj hv)
theorem f94_109 : gm_ft 94 109 = some (.iadd, 1) := by decide +kernel
theorem r94_109 {E : Nat → Value} {d : Nat} {st : List Value} {h : gm_H} {r : gm_R × gm_H} {lv : List Value} {x y : Int32} : gm_Go E d 94 109 lv (.int y :: .int x :: st) h r ↔ gm_Go E d 94 110 lv (.int (x + y) :: st) h r := gr_pure m94 f94_109 rfl
theorem f94_110 : gm_ft 94 110 = some (.iload_n 2, 1) := by decide +kernel
theorem r94_110 {E : Nat → Value} {d : Nat} {st : List Value} {h : gm_H} {r : gm_R × gm_H} {a0 a1 a3 a4 : Value} {x : Int32} : gm_Go E d 94 110 [a0, a1, .int x, a3, a4] st h r ↔ gm_Go E d 94 111 [a0, a1, .int x, a3, a4] (.int x :: st) h r := gr_loc m94 f94_110 rfl rfl
theorem f94_111 : gm_ft 94 111 = some (.iastore, 1) := by decide +kernel
theorem r94_111 {E : Nat → Value} {d : Nat} {st : List Value} {h : gm_H} {r : gm_R × gm_H} {lv : List Value} {a k j : Nat} {vs : List Value} {x : Int32} (hr : gm_rd h a = some (k, vs)) (hk : 100 ≤ k ∧ k % 100 = 0 ∧ gm_ko k = 2 ∧ 2 < 3) (hj : j < 2 ^ 31) (hl : j < vs.length) : gm_Go E d 94 111 lv (.int x :: .int (nI j) :: .ref a :: st) h r ↔ gm_Go E d 94 112 lv st (gm_wr h a (k, vs.set j (.int x))) r := gr_wr m94 f94_111 rfl rfl rfl rfl rfl (ga_st hr hk hj hl)
theorem f94_112 : gm_ft 94 112 = some (.aload_n 0, 1) := by decide +kernel
theorem r94_112 {E : Nat → Value} {d : Nat} {st : List Value} {h : gm_H} {r : gm_R × gm_H} {a1 a2 a3 a4 : Value} {x : Nat} : gm_Go E d 94 112 [.ref x, a1, a2, a3, a4] st h r ↔ gm_Go E d 94 113 [.ref x, a1, a2, a3, a4] (.ref x :: st) h r := gr_loc m94 f94_112 rfl rfl
theorem r94_112n {E : Nat → Value} {d : Nat} {st : List Value} {h : gm_H} {r : gm_R × gm_H} {a1 a2 a3 a4 : Value}  : gm_Go E d 94 112 [.null, a1, a2, a3, a4] st h r ↔ gm_Go E d 94 113 [.null, a1, a2, a3, a4] (.null :: st) h r := gr_loc m94 f94_112 rfl rfl
theorem f94_113 : gm_ft 94 113 = some (.getfield 29, 3) := by decide +kernel
theorem r94_113 {E : Nat → Value} {d : Nat} {st : List Value} {h : gm_H} {r : gm_R × gm_H} {lv : List Value} {a : Nat} {vs : List Value} {v : Value} (hr : gm_rd h a = some (5, vs)) (hv : vs[15]? = some v) : gm_Go E d 94 113 lv (.ref a :: st) h r ↔ gm_Go E d 94 116 lv (v :: st) h r := gr_rd m94 f94_113 rfl rfl rfl rfl (gf_get k5_29 hr hv)
theorem f94_116 : gm_ft 94 116 = some (.iconst 4, 1) := by decide +kernel
theorem r94_116 {E : Nat → Value} {d : Nat} {st : List Value} {h : gm_H} {r : gm_R × gm_H} {lv : List Value} : gm_Go E d 94 116 lv st h r ↔ gm_Go E d 94 117 lv (.int (4 : Int32) :: st) h r := gr_pure m94 f94_116 rfl
theorem f94_117 : gm_ft 94 117 = some (.iload_n 1, 1) := by decide +kernel
theorem r94_117 {E : Nat → Value} {d : Nat} {st : List Value} {h : gm_H} {r : gm_R × gm_H} {a0 a2 a3 a4 : Value} {x : Int32} : gm_Go E d 94 117 [a0, .int x, a2, a3, a4] st h r ↔ gm_Go E d 94 118 [a0, .int x, a2, a3, a4] (.int x :: st) h r := gr_loc m94 f94_117 rfl rfl
theorem f94_118 : gm_ft 94 118 = some (.imul, 1) := by decide +kernel
theorem r94_118 {E : Nat → Value} {d : Nat} {st : List Value} {h : gm_H} {r : gm_R × gm_H} {lv : List Value} {x y : Int32} : gm_Go E d 94 118 lv (.int y :: .int x :: st) h r ↔ gm_Go E d 94 119 lv (.int (x * y) :: st) h r := gr_pure m94 f94_118 rfl
theorem f94_119 : gm_ft 94 119 = some (.aload_n 0, 1) := by decide +kernel
theorem r94_119 {E : Nat → Value} {d : Nat} {st : List Value} {h : gm_H} {r : gm_R × gm_H} {a1 a2 a3 a4 : Value} {x : Nat} : gm_Go E d 94 119 [.ref x, a1, a2, a3, a4] st h r ↔ gm_Go E d 94 120 [.ref x, a1, a2, a3, a4] (.ref x :: st) h r := gr_loc m94 f94_119 rfl rfl
theorem r94_119n {E : Nat → Value} {d : Nat} {st : List Value} {h : gm_H} {r : gm_R × gm_H} {a1 a2 a3 a4 : Value}  : gm_Go E d 94 119 [.null, a1, a2, a3, a4] st h r ↔ gm_Go E d 94 120 [.null, a1, a2, a3, a4] (.null :: st) h r := gr_loc m94 f94_119 rfl rfl
theorem f94_120 : gm_ft 94 120 = some (.getfield 23, 3) := by decide +kernel
theorem r94_120 {E : Nat → Value} {d : Nat} {st : List Value} {h : gm_H} {r : gm_R × gm_H} {lv : List Value} {a : Nat} {vs : List Value} {v : Value} (hr : gm_rd h a = some (5, vs)) (hv : vs[13]? = some v) : gm_Go E d 94 120 lv (.ref a :: st) h r ↔ gm_Go E d 94 123 lv (v :: st) h r := gr_rd m94 f94_120 rfl rfl rfl rfl (gf_get k5_23 hr hv)
theorem f94_123 : gm_ft 94 123 = some (.iload_n 1, 1) := by decide +kernel
theorem r94_123 {E : Nat → Value} {d : Nat} {st : List Value} {h : gm_H} {r : gm_R × gm_H} {a0 a2 a3 a4 : Value} {x : Int32} : gm_Go E d 94 123 [a0, .int x, a2, a3, a4] st h r ↔ gm_Go E d 94 124 [a0, .int x, a2, a3, a4] (.int x :: st) h r := gr_loc m94 f94_123 rfl rfl
theorem f94_124 : gm_ft 94 124 = some (.iaload, 1) := by decide +kernel
theorem r94_124 {E : Nat → Value} {d : Nat} {st : List Value} {h : gm_H} {r : gm_R × gm_H} {lv : List Value} {a k j : Nat} {vs : List Value} {v : Value} (hr : gm_rd h a = some (k, vs)) (hk : 100 ≤ k ∧ (fun t => t == 0) (k % 100) = true) (hj : j < 2 ^ 31) (hv : vs[j]? = some v) : gm_Go E d 94 124 lv (.int (nI j) :: .ref a :: st) h r ↔ gm_Go E d 94 125 lv (v :: st) h r := gr_rd m94 f94_124 rfl rfl rfl rfl (ga_ld (P := fun t => t == 0) hr hk hj hv)
theorem f94_125 : gm_ft 94 125 = some (.iadd, 1) := by decide +kernel
theorem r94_125 {E : Nat → Value} {d : Nat} {st : List Value} {h : gm_H} {r : gm_R × gm_H} {lv : List Value} {x y : Int32} : gm_Go E d 94 125 lv (.int y :: .int x :: st) h r ↔ gm_Go E d 94 126 lv (.int (x + y) :: st) h r := gr_pure m94 f94_125 rfl
theorem f94_126 : gm_ft 94 126 = some (.iload_n 3, 1) := by decide +kernel
theorem r94_126 {E : Nat → Value} {d : Nat} {st : List Value} {h : gm_H} {r : gm_R × gm_H} {a0 a1 a2 a4 : Value} {x : Int32} : gm_Go E d 94 126 [a0, a1, a2, .int x, a4] st h r ↔ gm_Go E d 94 127 [a0, a1, a2, .int x, a4] (.int x :: st) h r := gr_loc m94 f94_126 rfl rfl
theorem f94_127 : gm_ft 94 127 = some (.iastore, 1) := by decide +kernel
theorem r94_127 {E : Nat → Value} {d : Nat} {st : List Value} {h : gm_H} {r : gm_R × gm_H} {lv : List Value} {a k j : Nat} {vs : List Value} {x : Int32} (hr : gm_rd h a = some (k, vs)) (hk : 100 ≤ k ∧ k % 100 = 0 ∧ gm_ko k = 2 ∧ 2 < 3) (hj : j < 2 ^ 31) (hl : j < vs.length) : gm_Go E d 94 127 lv (.int x :: .int (nI j) :: .ref a :: st) h r ↔ gm_Go E d 94 128 lv st (gm_wr h a (k, vs.set j (.int x))) r := gr_wr m94 f94_127 rfl rfl rfl rfl rfl (ga_st hr hk hj hl)
theorem f94_128 : gm_ft 94 128 = some (.aload_n 0, 1) := by decide +kernel
theorem r94_128 {E : Nat → Value} {d : Nat} {st : List Value} {h : gm_H} {r : gm_R × gm_H} {a1 a2 a3 a4 : Value} {x : Nat} : gm_Go E d 94 128 [.ref x, a1, a2, a3, a4] st h r ↔ gm_Go E d 94 129 [.ref x, a1, a2, a3, a4] (.ref x :: st) h r := gr_loc m94 f94_128 rfl rfl
theorem r94_128n {E : Nat → Value} {d : Nat} {st : List Value} {h : gm_H} {r : gm_R × gm_H} {a1 a2 a3 a4 : Value}  : gm_Go E d 94 128 [.null, a1, a2, a3, a4] st h r ↔ gm_Go E d 94 129 [.null, a1, a2, a3, a4] (.null :: st) h r := gr_loc m94 f94_128 rfl rfl
theorem f94_129 : gm_ft 94 129 = some (.getfield 23, 3) := by decide +kernel
theorem r94_129 {E : Nat → Value} {d : Nat} {st : List Value} {h : gm_H} {r : gm_R × gm_H} {lv : List Value} {a : Nat} {vs : List Value} {v : Value} (hr : gm_rd h a = some (5, vs)) (hv : vs[13]? = some v) : gm_Go E d 94 129 lv (.ref a :: st) h r ↔ gm_Go E d 94 132 lv (v :: st) h r := gr_rd m94 f94_129 rfl rfl rfl rfl (gf_get k5_23 hr hv)
theorem f94_132 : gm_ft 94 132 = some (.iload_n 1, 1) := by decide +kernel
theorem r94_132 {E : Nat → Value} {d : Nat} {st : List Value} {h : gm_H} {r : gm_R × gm_H} {a0 a2 a3 a4 : Value} {x : Int32} : gm_Go E d 94 132 [a0, .int x, a2, a3, a4] st h r ↔ gm_Go E d 94 133 [a0, .int x, a2, a3, a4] (.int x :: st) h r := gr_loc m94 f94_132 rfl rfl
theorem f94_133 : gm_ft 94 133 = some (.dup2, 1) := by decide +kernel
theorem r94_133 {E : Nat → Value} {d : Nat} {st : List Value} {h : gm_H} {r : gm_R × gm_H} {lv : List Value} {x : Int32} {a : Nat} : gm_Go E d 94 133 lv (.int x :: .ref a :: st) h r ↔ gm_Go E d 94 134 lv (.int x :: .ref a :: .int x :: .ref a :: st) h r := gr_pure m94 f94_133 rfl
theorem f94_134 : gm_ft 94 134 = some (.iaload, 1) := by decide +kernel
theorem r94_134 {E : Nat → Value} {d : Nat} {st : List Value} {h : gm_H} {r : gm_R × gm_H} {lv : List Value} {a k j : Nat} {vs : List Value} {v : Value} (hr : gm_rd h a = some (k, vs)) (hk : 100 ≤ k ∧ (fun t => t == 0) (k % 100) = true) (hj : j < 2 ^ 31) (hv : vs[j]? = some v) : gm_Go E d 94 134 lv (.int (nI j) :: .ref a :: st) h r ↔ gm_Go E d 94 135 lv (v :: st) h r := gr_rd m94 f94_134 rfl rfl rfl rfl (ga_ld (P := fun t => t == 0) hr hk hj hv)
theorem f94_135 : gm_ft 94 135 = some (.iconst 1, 1) := by decide +kernel
theorem r94_135 {E : Nat → Value} {d : Nat} {st : List Value} {h : gm_H} {r : gm_R × gm_H} {lv : List Value} : gm_Go E d 94 135 lv st h r ↔ gm_Go E d 94 136 lv (.int (1 : Int32) :: st) h r := gr_pure m94 f94_135 rfl
theorem f94_136 : gm_ft 94 136 = some (.iadd, 1) := by decide +kernel
theorem r94_136 {E : Nat → Value} {d : Nat} {st : List Value} {h : gm_H} {r : gm_R × gm_H} {lv : List Value} {x y : Int32} : gm_Go E d 94 136 lv (.int y :: .int x :: st) h r ↔ gm_Go E d 94 137 lv (.int (x + y) :: st) h r := gr_pure m94 f94_136 rfl
theorem f94_137 : gm_ft 94 137 = some (.iastore, 1) := by decide +kernel
theorem r94_137 {E : Nat → Value} {d : Nat} {st : List Value} {h : gm_H} {r : gm_R × gm_H} {lv : List Value} {a k j : Nat} {vs : List Value} {x : Int32} (hr : gm_rd h a = some (k, vs)) (hk : 100 ≤ k ∧ k % 100 = 0 ∧ gm_ko k = 2 ∧ 2 < 3) (hj : j < 2 ^ 31) (hl : j < vs.length) : gm_Go E d 94 137 lv (.int x :: .int (nI j) :: .ref a :: st) h r ↔ gm_Go E d 94 138 lv st (gm_wr h a (k, vs.set j (.int x))) r := gr_wr m94 f94_137 rfl rfl rfl rfl rfl (ga_st hr hk hj hl)
theorem f94_138 : gm_ft 94 138 = some (.aload_n 0, 1) := by decide +kernel
theorem r94_138 {E : Nat → Value} {d : Nat} {st : List Value} {h : gm_H} {r : gm_R × gm_H} {a1 a2 a3 a4 : Value} {x : Nat} : gm_Go E d 94 138 [.ref x, a1, a2, a3, a4] st h r ↔ gm_Go E d 94 139 [.ref x, a1, a2, a3, a4] (.ref x :: st) h r := gr_loc m94 f94_138 rfl rfl
theorem r94_138n {E : Nat → Value} {d : Nat} {st : List Value} {h : gm_H} {r : gm_R × gm_H} {a1 a2 a3 a4 : Value}  : gm_Go E d 94 138 [.null, a1, a2, a3, a4] st h r ↔ gm_Go E d 94 139 [.null, a1, a2, a3, a4] (.null :: st) h r := gr_loc m94 f94_138 rfl rfl
theorem f94_139 : gm_ft 94 139 = some (.getfield 23, 3) := by decide +kernel
theorem r94_139 {E : Nat → Value} {d : Nat} {st : List Value} {h : gm_H} {r : gm_R × gm_H} {lv : List Value} {a : Nat} {vs : List Value} {v : Value} (hr : gm_rd h a = some (5, vs)) (hv : vs[13]? = some v) : gm_Go E d 94 139 lv (.ref a :: st) h r ↔ gm_Go E d 94 142 lv (v :: st) h r := gr_rd m94 f94_139 rfl rfl rfl rfl (gf_get k5_23 hr hv)
theorem f94_142 : gm_ft 94 142 = some (.iload_n 1, 1) := by decide +kernel
theorem r94_142 {E : Nat → Value} {d : Nat} {st : List Value} {h : gm_H} {r : gm_R × gm_H} {a0 a2 a3 a4 : Value} {x : Int32} : gm_Go E d 94 142 [a0, .int x, a2, a3, a4] st h r ↔ gm_Go E d 94 143 [a0, .int x, a2, a3, a4] (.int x :: st) h r := gr_loc m94 f94_142 rfl rfl
theorem f94_143 : gm_ft 94 143 = some (.iaload, 1) := by decide +kernel
theorem r94_143 {E : Nat → Value} {d : Nat} {st : List Value} {h : gm_H} {r : gm_R × gm_H} {lv : List Value} {a k j : Nat} {vs : List Value} {v : Value} (hr : gm_rd h a = some (k, vs)) (hk : 100 ≤ k ∧ (fun t => t == 0) (k % 100) = true) (hj : j < 2 ^ 31) (hv : vs[j]? = some v) : gm_Go E d 94 143 lv (.int (nI j) :: .ref a :: st) h r ↔ gm_Go E d 94 144 lv (v :: st) h r := gr_rd m94 f94_143 rfl rfl rfl rfl (ga_ld (P := fun t => t == 0) hr hk hj hv)
theorem f94_144 : gm_ft 94 144 = some (.ireturn, 1) := by decide +kernel
theorem r94_144 {E : Nat → Value} {d : Nat} {h : gm_H} {r : gm_R × gm_H} {lv : List Value} {x : Int32} : gm_Go E d 94 144 lv [.int x] h r ↔ r = (.inl (some (.int x)), h) := gr_ret m94 f94_144 rfl rfl rfl rfl rfl rfl rfl rfl (by unfold gm_rt; dsimp only; rw [if_pos ⟨rfl, rfl⟩])
/-! GraphReaderModel.constant(IIZ)I -/
theorem m95 : gm_mt[95]? = some (⟨"GraphReaderModel", "constant", "(IIZ)I"⟩, prog_7_method_7_code, 4, (some .int), [], 5, 2) := rfl
theorem f95_0 : gm_ft 95 0 = some (.aload_n 0, 1) := by decide +kernel
theorem r95_0 {E : Nat → Value} {d : Nat} {st : List Value} {h : gm_H} {r : gm_R × gm_H} {a1 a2 a3 : Value} {x : Nat} : gm_Go E d 95 0 [.ref x, a1, a2, a3] st h r ↔ gm_Go E d 95 1 [.ref x, a1, a2, a3] (.ref x :: st) h r := gr_loc m95 f95_0 rfl rfl
theorem r95_0n {E : Nat → Value} {d : Nat} {st : List Value} {h : gm_H} {r : gm_R × gm_H} {a1 a2 a3 : Value}  : gm_Go E d 95 0 [.null, a1, a2, a3] st h r ↔ gm_Go E d 95 1 [.null, a1, a2, a3] (.null :: st) h r := gr_loc m95 f95_0 rfl rfl
theorem f95_1 : gm_ft 95 1 = some (.iload_n 1, 1) := by decide +kernel
theorem r95_1 {E : Nat → Value} {d : Nat} {st : List Value} {h : gm_H} {r : gm_R × gm_H} {a0 a2 a3 : Value} {x : Int32} : gm_Go E d 95 1 [a0, .int x, a2, a3] st h r ↔ gm_Go E d 95 2 [a0, .int x, a2, a3] (.int x :: st) h r := gr_loc m95 f95_1 rfl rfl
theorem f95_2 : gm_ft 95 2 = some (.invokevirtual 135, 3) := by decide +kernel
theorem n95_2 {st : List Value} {h : gm_H} {E : Nat → Value} {lv : List Value} {b0 : Value} {a : Nat} (hs : (st.map fun v => v.category).sum ≤ 8) (he : (gm_en1 [.ref a, b0]).length ≤ 2) {vs : List Value} (hr : gm_rd h a = some (5, vs)) : gm_next E 95 2 lv (b0 :: .ref a :: st) h = some (.inr (.inl (0, 93, [.ref a, b0], st))) := gn_call m95 f95_2 rfl rfl rfl rfl rfl rfl rfl (gc_virt (bs := [b0]) (w := 824) rfl rfl rfl rfl hs he hr) (by decide)
theorem f95_5 : gm_ft 95 5 = some (.ifCond .ne 23, 3) := by decide +kernel
theorem r95_5 {E : Nat → Value} {d : Nat} {st : List Value} {h : gm_H} {r : gm_R × gm_H} {lv : List Value} {x : Int32} : gm_Go E d 95 5 lv (.int x :: st) h r ↔ (if x = 0 then gm_Go E d 95 8 lv st h r else gm_Go E d 95 28 lv st h r) := (gr_br m95 f95_5 rfl rfl rfl rfl).trans gr_ifn
theorem f95_8 : gm_ft 95 8 = some (.aload_n 0, 1) := by decide +kernel
theorem r95_8 {E : Nat → Value} {d : Nat} {st : List Value} {h : gm_H} {r : gm_R × gm_H} {a1 a2 a3 : Value} {x : Nat} : gm_Go E d 95 8 [.ref x, a1, a2, a3] st h r ↔ gm_Go E d 95 9 [.ref x, a1, a2, a3] (.ref x :: st) h r := gr_loc m95 f95_8 rfl rfl
theorem r95_8n {E : Nat → Value} {d : Nat} {st : List Value} {h : gm_H} {r : gm_R × gm_H} {a1 a2 a3 : Value}  : gm_Go E d 95 8 [.null, a1, a2, a3] st h r ↔ gm_Go E d 95 9 [.null, a1, a2, a3] (.null :: st) h r := gr_loc m95 f95_8 rfl rfl
theorem f95_9 : gm_ft 95 9 = some (.getfield 13, 3) := by decide +kernel
theorem r95_9 {E : Nat → Value} {d : Nat} {st : List Value} {h : gm_H} {r : gm_R × gm_H} {lv : List Value} {a : Nat} {vs : List Value} {v : Value} (hr : gm_rd h a = some (5, vs)) (hv : vs[10]? = some v) : gm_Go E d 95 9 lv (.ref a :: st) h r ↔ gm_Go E d 95 12 lv (v :: st) h r := gr_rd m95 f95_9 rfl rfl rfl rfl (gf_get k5_13 hr hv)
theorem f95_12 : gm_ft 95 12 = some (.iload_n 1, 1) := by decide +kernel
theorem r95_12 {E : Nat → Value} {d : Nat} {st : List Value} {h : gm_H} {r : gm_R × gm_H} {a0 a2 a3 : Value} {x : Int32} : gm_Go E d 95 12 [a0, .int x, a2, a3] st h r ↔ gm_Go E d 95 13 [a0, .int x, a2, a3] (.int x :: st) h r := gr_loc m95 f95_12 rfl rfl
theorem f95_13 : gm_ft 95 13 = some (.iaload, 1) := by decide +kernel
theorem r95_13 {E : Nat → Value} {d : Nat} {st : List Value} {h : gm_H} {r : gm_R × gm_H} {lv : List Value} {a k j : Nat} {vs : List Value} {v : Value} (hr : gm_rd h a = some (k, vs)) (hk : 100 ≤ k ∧ (fun t => t == 0) (k % 100) = true) (hj : j < 2 ^ 31) (hv : vs[j]? = some v) : gm_Go E d 95 13 lv (.int (nI j) :: .ref a :: st) h r ↔ gm_Go E d 95 14 lv (v :: st) h r := gr_rd m95 f95_13 rfl rfl rfl rfl (ga_ld (P := fun t => t == 0) hr hk hj hv)
theorem f95_14 : gm_ft 95 14 = some (.iconst 3, 1) := by decide +kernel
theorem r95_14 {E : Nat → Value} {d : Nat} {st : List Value} {h : gm_H} {r : gm_R × gm_H} {lv : List Value} : gm_Go E d 95 14 lv st h r ↔ gm_Go E d 95 15 lv (.int (3 : Int32) :: st) h r := gr_pure m95 f95_14 rfl
theorem f95_15 : gm_ft 95 15 = some (.if_icmp .ne 15, 3) := by decide +kernel
theorem r95_15 {E : Nat → Value} {d : Nat} {st : List Value} {h : gm_H} {r : gm_R × gm_H} {lv : List Value} {x y : Int32} : gm_Go E d 95 15 lv (.int y :: .int x :: st) h r ↔ (if x = y then gm_Go E d 95 18 lv st h r else gm_Go E d 95 30 lv st h r) := (gr_br m95 f95_15 rfl rfl rfl rfl).trans gr_ifn
theorem f95_18 : gm_ft 95 18 = some (.aload_n 0, 1) := by decide +kernel
theorem r95_18 {E : Nat → Value} {d : Nat} {st : List Value} {h : gm_H} {r : gm_R × gm_H} {a1 a2 a3 : Value} {x : Nat} : gm_Go E d 95 18 [.ref x, a1, a2, a3] st h r ↔ gm_Go E d 95 19 [.ref x, a1, a2, a3] (.ref x :: st) h r := gr_loc m95 f95_18 rfl rfl
theorem r95_18n {E : Nat → Value} {d : Nat} {st : List Value} {h : gm_H} {r : gm_R × gm_H} {a1 a2 a3 : Value}  : gm_Go E d 95 18 [.null, a1, a2, a3] st h r ↔ gm_Go E d 95 19 [.null, a1, a2, a3] (.null :: st) h r := gr_loc m95 f95_18 rfl rfl
theorem f95_19 : gm_ft 95 19 = some (.iload_n 2, 1) := by decide +kernel
theorem r95_19 {E : Nat → Value} {d : Nat} {st : List Value} {h : gm_H} {r : gm_R × gm_H} {a0 a1 a3 : Value} {x : Int32} : gm_Go E d 95 19 [a0, a1, .int x, a3] st h r ↔ gm_Go E d 95 20 [a0, a1, .int x, a3] (.int x :: st) h r := gr_loc m95 f95_19 rfl rfl
theorem f95_20 : gm_ft 95 20 = some (.bipush 26, 2) := by decide +kernel
theorem r95_20 {E : Nat → Value} {d : Nat} {st : List Value} {h : gm_H} {r : gm_R × gm_H} {lv : List Value} : gm_Go E d 95 20 lv st h r ↔ gm_Go E d 95 22 lv (.int (26 : Int32) :: st) h r := gr_pure m95 f95_20 rfl
theorem f95_22 : gm_ft 95 22 = some (.invokevirtual 131, 3) := by decide +kernel
theorem n95_22 {st : List Value} {h : gm_H} {E : Nat → Value} {lv : List Value} {b0 b1 : Value} {a : Nat} (hs : (st.map fun v => v.category).sum ≤ 8) (he : (gm_en1 [.ref a, b0, b1]).length ≤ 3) {vs : List Value} (hr : gm_rd h a = some (5, vs)) : gm_next E 95 22 lv (b1 :: b0 :: .ref a :: st) h = some (.inr (.inl (0, 92, [.ref a, b0, b1], st))) := gn_call m95 f95_22 rfl rfl rfl rfl rfl rfl rfl (gc_virt (bs := [b1, b0]) (w := 820) rfl rfl rfl rfl hs he hr) (by decide)
theorem f95_25 : gm_ft 95 25 = some (.ifCond .eq 5, 3) := by decide +kernel
theorem r95_25 {E : Nat → Value} {d : Nat} {st : List Value} {h : gm_H} {r : gm_R × gm_H} {lv : List Value} {x : Int32} : gm_Go E d 95 25 lv (.int x :: st) h r ↔ (if x = 0 then gm_Go E d 95 30 lv st h r else gm_Go E d 95 28 lv st h r) := (gr_br m95 f95_25 rfl rfl rfl rfl).trans gr_if
theorem f95_28 : gm_ft 95 28 = some (.iconst (-1), 1) := by decide +kernel
theorem r95_28 {E : Nat → Value} {d : Nat} {st : List Value} {h : gm_H} {r : gm_R × gm_H} {lv : List Value} : gm_Go E d 95 28 lv st h r ↔ gm_Go E d 95 29 lv (.int (-1 : Int32) :: st) h r := gr_pure m95 f95_28 rfl
theorem f95_29 : gm_ft 95 29 = some (.ireturn, 1) := by decide +kernel
theorem r95_29 {E : Nat → Value} {d : Nat} {h : gm_H} {r : gm_R × gm_H} {lv : List Value} {x : Int32} : gm_Go E d 95 29 lv [.int x] h r ↔ r = (.inl (some (.int x)), h) := gr_ret m95 f95_29 rfl rfl rfl rfl rfl rfl rfl rfl (by unfold gm_rt; dsimp only; rw [if_pos ⟨rfl, rfl⟩])
theorem f95_30 : gm_ft 95 30 = some (.aload_n 0, 1) := by decide +kernel
theorem r95_30 {E : Nat → Value} {d : Nat} {st : List Value} {h : gm_H} {r : gm_R × gm_H} {a1 a2 a3 : Value} {x : Nat} : gm_Go E d 95 30 [.ref x, a1, a2, a3] st h r ↔ gm_Go E d 95 31 [.ref x, a1, a2, a3] (.ref x :: st) h r := gr_loc m95 f95_30 rfl rfl
theorem r95_30n {E : Nat → Value} {d : Nat} {st : List Value} {h : gm_H} {r : gm_R × gm_H} {a1 a2 a3 : Value}  : gm_Go E d 95 30 [.null, a1, a2, a3] st h r ↔ gm_Go E d 95 31 [.null, a1, a2, a3] (.null :: st) h r := gr_loc m95 f95_30 rfl rfl
theorem f95_31 : gm_ft 95 31 = some (.getfield 13, 3) := by decide +kernel
theorem r95_31 {E : Nat → Value} {d : Nat} {st : List Value} {h : gm_H} {r : gm_R × gm_H} {lv : List Value} {a : Nat} {vs : List Value} {v : Value} (hr : gm_rd h a = some (5, vs)) (hv : vs[10]? = some v) : gm_Go E d 95 31 lv (.ref a :: st) h r ↔ gm_Go E d 95 34 lv (v :: st) h r := gr_rd m95 f95_31 rfl rfl rfl rfl (gf_get k5_13 hr hv)
theorem f95_34 : gm_ft 95 34 = some (.iload_n 1, 1) := by decide +kernel
theorem r95_34 {E : Nat → Value} {d : Nat} {st : List Value} {h : gm_H} {r : gm_R × gm_H} {a0 a2 a3 : Value} {x : Int32} : gm_Go E d 95 34 [a0, .int x, a2, a3] st h r ↔ gm_Go E d 95 35 [a0, .int x, a2, a3] (.int x :: st) h r := gr_loc m95 f95_34 rfl rfl
theorem f95_35 : gm_ft 95 35 = some (.iaload, 1) := by decide +kernel
theorem r95_35 {E : Nat → Value} {d : Nat} {st : List Value} {h : gm_H} {r : gm_R × gm_H} {lv : List Value} {a k j : Nat} {vs : List Value} {v : Value} (hr : gm_rd h a = some (k, vs)) (hk : 100 ≤ k ∧ (fun t => t == 0) (k % 100) = true) (hj : j < 2 ^ 31) (hv : vs[j]? = some v) : gm_Go E d 95 35 lv (.int (nI j) :: .ref a :: st) h r ↔ gm_Go E d 95 36 lv (v :: st) h r := gr_rd m95 f95_35 rfl rfl rfl rfl (ga_ld (P := fun t => t == 0) hr hk hj hv)
theorem f95_36 : gm_ft 95 36 = some (.iconst 3, 1) := by decide +kernel
theorem r95_36 {E : Nat → Value} {d : Nat} {st : List Value} {h : gm_H} {r : gm_R × gm_H} {lv : List Value} : gm_Go E d 95 36 lv st h r ↔ gm_Go E d 95 37 lv (.int (3 : Int32) :: st) h r := gr_pure m95 f95_36 rfl
theorem f95_37 : gm_ft 95 37 = some (.if_icmp .ne 18, 3) := by decide +kernel
theorem r95_37 {E : Nat → Value} {d : Nat} {st : List Value} {h : gm_H} {r : gm_R × gm_H} {lv : List Value} {x y : Int32} : gm_Go E d 95 37 lv (.int y :: .int x :: st) h r ↔ (if x = y then gm_Go E d 95 40 lv st h r else gm_Go E d 95 55 lv st h r) := (gr_br m95 f95_37 rfl rfl rfl rfl).trans gr_ifn
theorem f95_40 : gm_ft 95 40 = some (.aload_n 0, 1) := by decide +kernel
theorem r95_40 {E : Nat → Value} {d : Nat} {st : List Value} {h : gm_H} {r : gm_R × gm_H} {a1 a2 a3 : Value} {x : Nat} : gm_Go E d 95 40 [.ref x, a1, a2, a3] st h r ↔ gm_Go E d 95 41 [.ref x, a1, a2, a3] (.ref x :: st) h r := gr_loc m95 f95_40 rfl rfl
theorem r95_40n {E : Nat → Value} {d : Nat} {st : List Value} {h : gm_H} {r : gm_R × gm_H} {a1 a2 a3 : Value}  : gm_Go E d 95 40 [.null, a1, a2, a3] st h r ↔ gm_Go E d 95 41 [.null, a1, a2, a3] (.null :: st) h r := gr_loc m95 f95_40 rfl rfl
theorem f95_41 : gm_ft 95 41 = some (.getfield 32, 3) := by decide +kernel
theorem r95_41 {E : Nat → Value} {d : Nat} {st : List Value} {h : gm_H} {r : gm_R × gm_H} {lv : List Value} {a : Nat} {vs : List Value} {v : Value} (hr : gm_rd h a = some (5, vs)) (hv : vs[16]? = some v) : gm_Go E d 95 41 lv (.ref a :: st) h r ↔ gm_Go E d 95 44 lv (v :: st) h r := gr_rd m95 f95_41 rfl rfl rfl rfl (gf_get k5_32 hr hv)
theorem f95_44 : gm_ft 95 44 = some (.iload_n 1, 1) := by decide +kernel
theorem r95_44 {E : Nat → Value} {d : Nat} {st : List Value} {h : gm_H} {r : gm_R × gm_H} {a0 a2 a3 : Value} {x : Int32} : gm_Go E d 95 44 [a0, .int x, a2, a3] st h r ↔ gm_Go E d 95 45 [a0, .int x, a2, a3] (.int x :: st) h r := gr_loc m95 f95_44 rfl rfl
theorem f95_45 : gm_ft 95 45 = some (.dup2, 1) := by decide +kernel
theorem r95_45 {E : Nat → Value} {d : Nat} {st : List Value} {h : gm_H} {r : gm_R × gm_H} {lv : List Value} {x : Int32} {a : Nat} : gm_Go E d 95 45 lv (.int x :: .ref a :: st) h r ↔ gm_Go E d 95 46 lv (.int x :: .ref a :: .int x :: .ref a :: st) h r := gr_pure m95 f95_45 rfl
theorem f95_46 : gm_ft 95 46 = some (.iaload, 1) := by decide +kernel
theorem r95_46 {E : Nat → Value} {d : Nat} {st : List Value} {h : gm_H} {r : gm_R × gm_H} {lv : List Value} {a k j : Nat} {vs : List Value} {v : Value} (hr : gm_rd h a = some (k, vs)) (hk : 100 ≤ k ∧ (fun t => t == 0) (k % 100) = true) (hj : j < 2 ^ 31) (hv : vs[j]? = some v) : gm_Go E d 95 46 lv (.int (nI j) :: .ref a :: st) h r ↔ gm_Go E d 95 47 lv (v :: st) h r := gr_rd m95 f95_46 rfl rfl rfl rfl (ga_ld (P := fun t => t == 0) hr hk hj hv)
theorem f95_47 : gm_ft 95 47 = some (.iconst 1, 1) := by decide +kernel
theorem r95_47 {E : Nat → Value} {d : Nat} {st : List Value} {h : gm_H} {r : gm_R × gm_H} {lv : List Value} : gm_Go E d 95 47 lv st h r ↔ gm_Go E d 95 48 lv (.int (1 : Int32) :: st) h r := gr_pure m95 f95_47 rfl
theorem f95_48 : gm_ft 95 48 = some (.iload_n 2, 1) := by decide +kernel
theorem r95_48 {E : Nat → Value} {d : Nat} {st : List Value} {h : gm_H} {r : gm_R × gm_H} {a0 a1 a3 : Value} {x : Int32} : gm_Go E d 95 48 [a0, a1, .int x, a3] st h r ↔ gm_Go E d 95 49 [a0, a1, .int x, a3] (.int x :: st) h r := gr_loc m95 f95_48 rfl rfl
theorem f95_49 : gm_ft 95 49 = some (.ishl, 1) := by decide +kernel
theorem r95_49 {E : Nat → Value} {d : Nat} {st : List Value} {h : gm_H} {r : gm_R × gm_H} {lv : List Value} {x y : Int32} : gm_Go E d 95 49 lv (.int y :: .int x :: st) h r ↔ gm_Go E d 95 50 lv (.int (x <<< (y &&& 31)) :: st) h r := gr_pure m95 f95_49 rfl
theorem f95_50 : gm_ft 95 50 = some (.ior, 1) := by decide +kernel
theorem r95_50 {E : Nat → Value} {d : Nat} {st : List Value} {h : gm_H} {r : gm_R × gm_H} {lv : List Value} {x y : Int32} : gm_Go E d 95 50 lv (.int y :: .int x :: st) h r ↔ gm_Go E d 95 51 lv (.int (x ||| y) :: st) h r := gr_pure m95 f95_50 rfl
theorem f95_51 : gm_ft 95 51 = some (.iastore, 1) := by decide +kernel
theorem r95_51 {E : Nat → Value} {d : Nat} {st : List Value} {h : gm_H} {r : gm_R × gm_H} {lv : List Value} {a k j : Nat} {vs : List Value} {x : Int32} (hr : gm_rd h a = some (k, vs)) (hk : 100 ≤ k ∧ k % 100 = 0 ∧ gm_ko k = 2 ∧ 2 < 3) (hj : j < 2 ^ 31) (hl : j < vs.length) : gm_Go E d 95 51 lv (.int x :: .int (nI j) :: .ref a :: st) h r ↔ gm_Go E d 95 52 lv st (gm_wr h a (k, vs.set j (.int x))) r := gr_wr m95 f95_51 rfl rfl rfl rfl rfl (ga_st hr hk hj hl)
theorem f95_52 : gm_ft 95 52 = some (.goto 10, 3) := by decide +kernel
theorem r95_52 {E : Nat → Value} {d : Nat} {st : List Value} {h : gm_H} {r : gm_R × gm_H} {lv : List Value} : gm_Go E d 95 52 lv st h r ↔ gm_Go E d 95 62 lv st h r := gr_brT m95 f95_52 rfl rfl rfl rfl
theorem f95_55 : gm_ft 95 55 = some (.aload_n 0, 1) := by decide +kernel
theorem r95_55 {E : Nat → Value} {d : Nat} {st : List Value} {h : gm_H} {r : gm_R × gm_H} {a1 a2 a3 : Value} {x : Nat} : gm_Go E d 95 55 [.ref x, a1, a2, a3] st h r ↔ gm_Go E d 95 56 [.ref x, a1, a2, a3] (.ref x :: st) h r := gr_loc m95 f95_55 rfl rfl
theorem r95_55n {E : Nat → Value} {d : Nat} {st : List Value} {h : gm_H} {r : gm_R × gm_H} {a1 a2 a3 : Value}  : gm_Go E d 95 55 [.null, a1, a2, a3] st h r ↔ gm_Go E d 95 56 [.null, a1, a2, a3] (.null :: st) h r := gr_loc m95 f95_55 rfl rfl
theorem f95_56 : gm_ft 95 56 = some (.getfield 35, 3) := by decide +kernel
theorem r95_56 {E : Nat → Value} {d : Nat} {st : List Value} {h : gm_H} {r : gm_R × gm_H} {lv : List Value} {a : Nat} {vs : List Value} {v : Value} (hr : gm_rd h a = some (5, vs)) (hv : vs[17]? = some v) : gm_Go E d 95 56 lv (.ref a :: st) h r ↔ gm_Go E d 95 59 lv (v :: st) h r := gr_rd m95 f95_56 rfl rfl rfl rfl (gf_get k5_35 hr hv)
theorem f95_59 : gm_ft 95 59 = some (.iload_n 1, 1) := by decide +kernel
theorem r95_59 {E : Nat → Value} {d : Nat} {st : List Value} {h : gm_H} {r : gm_R × gm_H} {a0 a2 a3 : Value} {x : Int32} : gm_Go E d 95 59 [a0, .int x, a2, a3] st h r ↔ gm_Go E d 95 60 [a0, .int x, a2, a3] (.int x :: st) h r := gr_loc m95 f95_59 rfl rfl
theorem f95_60 : gm_ft 95 60 = some (.iload_n 3, 1) := by decide +kernel
theorem r95_60 {E : Nat → Value} {d : Nat} {st : List Value} {h : gm_H} {r : gm_R × gm_H} {a0 a1 a2 : Value} {x : Int32} : gm_Go E d 95 60 [a0, a1, a2, .int x] st h r ↔ gm_Go E d 95 61 [a0, a1, a2, .int x] (.int x :: st) h r := gr_loc m95 f95_60 rfl rfl
theorem f95_61 : gm_ft 95 61 = some (.bastore, 1) := by decide +kernel
theorem f95_62 : gm_ft 95 62 = some (.iconst 0, 1) := by decide +kernel
theorem r95_62 {E : Nat → Value} {d : Nat} {st : List Value} {h : gm_H} {r : gm_R × gm_H} {lv : List Value} : gm_Go E d 95 62 lv st h r ↔ gm_Go E d 95 63 lv (.int (0 : Int32) :: st) h r := gr_pure m95 f95_62 rfl
theorem f95_63 : gm_ft 95 63 = some (.ireturn, 1) := by decide +kernel
theorem r95_63 {E : Nat → Value} {d : Nat} {h : gm_H} {r : gm_R × gm_H} {lv : List Value} {x : Int32} : gm_Go E d 95 63 lv [.int x] h r ↔ r = (.inl (some (.int x)), h) := gr_ret m95 f95_63 rfl rfl rfl rfl rfl rfl rfl rfl (by unfold gm_rt; dsimp only; rw [if_pos ⟨rfl, rfl⟩])
/-! GraphReaderModel.put(JI)I -/
theorem m96 : gm_mt[96]? = some (⟨"GraphReaderModel", "put", "(JI)I"⟩, prog_7_method_8_code, 5, (some .int), [], 5, 2) := rfl
theorem f96_0 : gm_ft 96 0 = some (.iload_n 3, 1) := by decide +kernel
theorem r96_0 {E : Nat → Value} {d : Nat} {st : List Value} {h : gm_H} {r : gm_R × gm_H} {a0 a1 a2 a4 : Value} {x : Int32} : gm_Go E d 96 0 [a0, a1, a2, .int x, a4] st h r ↔ gm_Go E d 96 1 [a0, a1, a2, .int x, a4] (.int x :: st) h r := gr_loc m96 f96_0 rfl rfl
theorem f96_1 : gm_ft 96 1 = some (.iconst 1, 1) := by decide +kernel
theorem r96_1 {E : Nat → Value} {d : Nat} {st : List Value} {h : gm_H} {r : gm_R × gm_H} {lv : List Value} : gm_Go E d 96 1 lv st h r ↔ gm_Go E d 96 2 lv (.int (1 : Int32) :: st) h r := gr_pure m96 f96_1 rfl
theorem f96_2 : gm_ft 96 2 = some (.if_icmp .lt 21, 3) := by decide +kernel
theorem r96_2 {E : Nat → Value} {d : Nat} {st : List Value} {h : gm_H} {r : gm_R × gm_H} {lv : List Value} {x y : Int32} : gm_Go E d 96 2 lv (.int y :: .int x :: st) h r ↔ (if x < y then gm_Go E d 96 23 lv st h r else gm_Go E d 96 5 lv st h r) := (gr_br m96 f96_2 rfl rfl rfl rfl).trans gr_if
theorem f96_5 : gm_ft 96 5 = some (.iload_n 3, 1) := by decide +kernel
theorem r96_5 {E : Nat → Value} {d : Nat} {st : List Value} {h : gm_H} {r : gm_R × gm_H} {a0 a1 a2 a4 : Value} {x : Int32} : gm_Go E d 96 5 [a0, a1, a2, .int x, a4] st h r ↔ gm_Go E d 96 6 [a0, a1, a2, .int x, a4] (.int x :: st) h r := gr_loc m96 f96_5 rfl rfl
theorem f96_6 : gm_ft 96 6 = some (.bipush 8, 2) := by decide +kernel
theorem r96_6 {E : Nat → Value} {d : Nat} {st : List Value} {h : gm_H} {r : gm_R × gm_H} {lv : List Value} : gm_Go E d 96 6 lv st h r ↔ gm_Go E d 96 8 lv (.int (8 : Int32) :: st) h r := gr_pure m96 f96_6 rfl
theorem f96_8 : gm_ft 96 8 = some (.if_icmp .gt 15, 3) := by decide +kernel
theorem r96_8 {E : Nat → Value} {d : Nat} {st : List Value} {h : gm_H} {r : gm_R × gm_H} {lv : List Value} {x y : Int32} : gm_Go E d 96 8 lv (.int y :: .int x :: st) h r ↔ (if y < x then gm_Go E d 96 23 lv st h r else gm_Go E d 96 11 lv st h r) := (gr_br m96 f96_8 rfl rfl rfl rfl).trans gr_if
theorem f96_11 : gm_ft 96 11 = some (.aload_n 0, 1) := by decide +kernel
theorem r96_11 {E : Nat → Value} {d : Nat} {st : List Value} {h : gm_H} {r : gm_R × gm_H} {a1 a2 a3 a4 : Value} {x : Nat} : gm_Go E d 96 11 [.ref x, a1, a2, a3, a4] st h r ↔ gm_Go E d 96 12 [.ref x, a1, a2, a3, a4] (.ref x :: st) h r := gr_loc m96 f96_11 rfl rfl
theorem r96_11n {E : Nat → Value} {d : Nat} {st : List Value} {h : gm_H} {r : gm_R × gm_H} {a1 a2 a3 a4 : Value}  : gm_Go E d 96 11 [.null, a1, a2, a3, a4] st h r ↔ gm_Go E d 96 12 [.null, a1, a2, a3, a4] (.null :: st) h r := gr_loc m96 f96_11 rfl rfl
theorem f96_12 : gm_ft 96 12 = some (.getfield 142, 3) := by decide +kernel
theorem r96_12 {E : Nat → Value} {d : Nat} {st : List Value} {h : gm_H} {r : gm_R × gm_H} {lv : List Value} {a : Nat} {vs : List Value} {v : Value} (hr : gm_rd h a = some (5, vs)) (hv : vs[5]? = some v) : gm_Go E d 96 12 lv (.ref a :: st) h r ↔ gm_Go E d 96 15 lv (v :: st) h r := gr_rd m96 f96_12 rfl rfl rfl rfl (gf_get k5_142 hr hv)
theorem f96_15 : gm_ft 96 15 = some (.iload_n 3, 1) := by decide +kernel
theorem r96_15 {E : Nat → Value} {d : Nat} {st : List Value} {h : gm_H} {r : gm_R × gm_H} {a0 a1 a2 a4 : Value} {x : Int32} : gm_Go E d 96 15 [a0, a1, a2, .int x, a4] st h r ↔ gm_Go E d 96 16 [a0, a1, a2, .int x, a4] (.int x :: st) h r := gr_loc m96 f96_15 rfl rfl
theorem f96_16 : gm_ft 96 16 = some (.iadd, 1) := by decide +kernel
theorem r96_16 {E : Nat → Value} {d : Nat} {st : List Value} {h : gm_H} {r : gm_R × gm_H} {lv : List Value} {x y : Int32} : gm_Go E d 96 16 lv (.int y :: .int x :: st) h r ↔ gm_Go E d 96 17 lv (.int (x + y) :: st) h r := gr_pure m96 f96_16 rfl
theorem f96_17 : gm_ft 96 17 = some (.sipush 700, 3) := by decide +kernel
theorem r96_17 {E : Nat → Value} {d : Nat} {st : List Value} {h : gm_H} {r : gm_R × gm_H} {lv : List Value} : gm_Go E d 96 17 lv st h r ↔ gm_Go E d 96 20 lv (.int (700 : Int32) :: st) h r := gr_pure m96 f96_17 rfl
theorem f96_20 : gm_ft 96 20 = some (.if_icmp .le 5, 3) := by decide +kernel
theorem r96_20 {E : Nat → Value} {d : Nat} {st : List Value} {h : gm_H} {r : gm_R × gm_H} {lv : List Value} {x y : Int32} : gm_Go E d 96 20 lv (.int y :: .int x :: st) h r ↔ (if x ≤ y then gm_Go E d 96 25 lv st h r else gm_Go E d 96 23 lv st h r) := (gr_br m96 f96_20 rfl rfl rfl rfl).trans gr_if
theorem f96_23 : gm_ft 96 23 = some (.iconst (-1), 1) := by decide +kernel
theorem r96_23 {E : Nat → Value} {d : Nat} {st : List Value} {h : gm_H} {r : gm_R × gm_H} {lv : List Value} : gm_Go E d 96 23 lv st h r ↔ gm_Go E d 96 24 lv (.int (-1 : Int32) :: st) h r := gr_pure m96 f96_23 rfl
theorem f96_24 : gm_ft 96 24 = some (.ireturn, 1) := by decide +kernel
theorem r96_24 {E : Nat → Value} {d : Nat} {h : gm_H} {r : gm_R × gm_H} {lv : List Value} {x : Int32} : gm_Go E d 96 24 lv [.int x] h r ↔ r = (.inl (some (.int x)), h) := gr_ret m96 f96_24 rfl rfl rfl rfl rfl rfl rfl rfl (by unfold gm_rt; dsimp only; rw [if_pos ⟨rfl, rfl⟩])
theorem f96_25 : gm_ft 96 25 = some (.iload_n 3, 1) := by decide +kernel
theorem r96_25 {E : Nat → Value} {d : Nat} {st : List Value} {h : gm_H} {r : gm_R × gm_H} {a0 a1 a2 a4 : Value} {x : Int32} : gm_Go E d 96 25 [a0, a1, a2, .int x, a4] st h r ↔ gm_Go E d 96 26 [a0, a1, a2, .int x, a4] (.int x :: st) h r := gr_loc m96 f96_25 rfl rfl
theorem f96_26 : gm_ft 96 26 = some (.iconst 1, 1) := by decide +kernel
theorem r96_26 {E : Nat → Value} {d : Nat} {st : List Value} {h : gm_H} {r : gm_R × gm_H} {lv : List Value} : gm_Go E d 96 26 lv st h r ↔ gm_Go E d 96 27 lv (.int (1 : Int32) :: st) h r := gr_pure m96 f96_26 rfl
theorem f96_27 : gm_ft 96 27 = some (.isub, 1) := by decide +kernel
theorem r96_27 {E : Nat → Value} {d : Nat} {st : List Value} {h : gm_H} {r : gm_R × gm_H} {lv : List Value} {x y : Int32} : gm_Go E d 96 27 lv (.int y :: .int x :: st) h r ↔ gm_Go E d 96 28 lv (.int (x - y) :: st) h r := gr_pure m96 f96_27 rfl
theorem f96_28 : gm_ft 96 28 = some (.istore 4, 2) := by decide +kernel
theorem r96_28 {E : Nat → Value} {d : Nat} {st : List Value} {h : gm_H} {r : gm_R × gm_H} {a0 a1 a2 a3 a4 : Value} {x : Int32} : gm_Go E d 96 28 [a0, a1, a2, a3, a4] (.int x :: st) h r ↔ gm_Go E d 96 30 [a0, a1, a2, gm_k a3, .int x] st h r := gr_loc m96 f96_28 rfl rfl
theorem f96_30 : gm_ft 96 30 = some (.iload 4, 2) := by decide +kernel
theorem r96_30 {E : Nat → Value} {d : Nat} {st : List Value} {h : gm_H} {r : gm_R × gm_H} {a0 a1 a2 a3 : Value} {x : Int32} : gm_Go E d 96 30 [a0, a1, a2, a3, .int x] st h r ↔ gm_Go E d 96 32 [a0, a1, a2, a3, .int x] (.int x :: st) h r := gr_loc m96 f96_30 rfl rfl
theorem f96_32 : gm_ft 96 32 = some (.ifCond .lt 40, 3) := by decide +kernel
theorem r96_32 {E : Nat → Value} {d : Nat} {st : List Value} {h : gm_H} {r : gm_R × gm_H} {lv : List Value} {x : Int32} : gm_Go E d 96 32 lv (.int x :: st) h r ↔ (if x < 0 then gm_Go E d 96 72 lv st h r else gm_Go E d 96 35 lv st h r) := (gr_br m96 f96_32 rfl rfl rfl rfl).trans gr_if
theorem f96_35 : gm_ft 96 35 = some (.aload_n 0, 1) := by decide +kernel
theorem r96_35 {E : Nat → Value} {d : Nat} {st : List Value} {h : gm_H} {r : gm_R × gm_H} {a1 a2 a3 a4 : Value} {x : Nat} : gm_Go E d 96 35 [.ref x, a1, a2, a3, a4] st h r ↔ gm_Go E d 96 36 [.ref x, a1, a2, a3, a4] (.ref x :: st) h r := gr_loc m96 f96_35 rfl rfl
theorem r96_35n {E : Nat → Value} {d : Nat} {st : List Value} {h : gm_H} {r : gm_R × gm_H} {a1 a2 a3 a4 : Value}  : gm_Go E d 96 35 [.null, a1, a2, a3, a4] st h r ↔ gm_Go E d 96 36 [.null, a1, a2, a3, a4] (.null :: st) h r := gr_loc m96 f96_35 rfl rfl
theorem f96_36 : gm_ft 96 36 = some (.getfield 7, 3) := by decide +kernel
theorem r96_36 {E : Nat → Value} {d : Nat} {st : List Value} {h : gm_H} {r : gm_R × gm_H} {lv : List Value} {a : Nat} {vs : List Value} {v : Value} (hr : gm_rd h a = some (5, vs)) (hv : vs[4]? = some v) : gm_Go E d 96 36 lv (.ref a :: st) h r ↔ gm_Go E d 96 39 lv (v :: st) h r := gr_rd m96 f96_36 rfl rfl rfl rfl (gf_get k5_7 hr hv)
theorem f96_39 : gm_ft 96 39 = some (.aload_n 0, 1) := by decide +kernel
theorem r96_39 {E : Nat → Value} {d : Nat} {st : List Value} {h : gm_H} {r : gm_R × gm_H} {a1 a2 a3 a4 : Value} {x : Nat} : gm_Go E d 96 39 [.ref x, a1, a2, a3, a4] st h r ↔ gm_Go E d 96 40 [.ref x, a1, a2, a3, a4] (.ref x :: st) h r := gr_loc m96 f96_39 rfl rfl
theorem r96_39n {E : Nat → Value} {d : Nat} {st : List Value} {h : gm_H} {r : gm_R × gm_H} {a1 a2 a3 a4 : Value}  : gm_Go E d 96 39 [.null, a1, a2, a3, a4] st h r ↔ gm_Go E d 96 40 [.null, a1, a2, a3, a4] (.null :: st) h r := gr_loc m96 f96_39 rfl rfl
theorem f96_40 : gm_ft 96 40 = some (.getfield 142, 3) := by decide +kernel
theorem r96_40 {E : Nat → Value} {d : Nat} {st : List Value} {h : gm_H} {r : gm_R × gm_H} {lv : List Value} {a : Nat} {vs : List Value} {v : Value} (hr : gm_rd h a = some (5, vs)) (hv : vs[5]? = some v) : gm_Go E d 96 40 lv (.ref a :: st) h r ↔ gm_Go E d 96 43 lv (v :: st) h r := gr_rd m96 f96_40 rfl rfl rfl rfl (gf_get k5_142 hr hv)
theorem f96_43 : gm_ft 96 43 = some (.lload_n 1, 1) := by decide +kernel
theorem r96_43 {E : Nat → Value} {d : Nat} {st : List Value} {h : gm_H} {r : gm_R × gm_H} {a0 a2 a3 a4 : Value} {x : Int64} : gm_Go E d 96 43 [a0, .long x, a2, a3, a4] st h r ↔ gm_Go E d 96 44 [a0, .long x, a2, a3, a4] (.long x :: st) h r := gr_loc m96 f96_43 rfl rfl
theorem f96_44 : gm_ft 96 44 = some (.bipush 8, 2) := by decide +kernel
theorem r96_44 {E : Nat → Value} {d : Nat} {st : List Value} {h : gm_H} {r : gm_R × gm_H} {lv : List Value} : gm_Go E d 96 44 lv st h r ↔ gm_Go E d 96 46 lv (.int (8 : Int32) :: st) h r := gr_pure m96 f96_44 rfl
theorem f96_46 : gm_ft 96 46 = some (.iload 4, 2) := by decide +kernel
theorem r96_46 {E : Nat → Value} {d : Nat} {st : List Value} {h : gm_H} {r : gm_R × gm_H} {a0 a1 a2 a3 : Value} {x : Int32} : gm_Go E d 96 46 [a0, a1, a2, a3, .int x] st h r ↔ gm_Go E d 96 48 [a0, a1, a2, a3, .int x] (.int x :: st) h r := gr_loc m96 f96_46 rfl rfl
theorem f96_48 : gm_ft 96 48 = some (.imul, 1) := by decide +kernel
theorem r96_48 {E : Nat → Value} {d : Nat} {st : List Value} {h : gm_H} {r : gm_R × gm_H} {lv : List Value} {x y : Int32} : gm_Go E d 96 48 lv (.int y :: .int x :: st) h r ↔ gm_Go E d 96 49 lv (.int (x * y) :: st) h r := gr_pure m96 f96_48 rfl
theorem f96_49 : gm_ft 96 49 = some (.lshr, 1) := by decide +kernel
theorem r96_49 {E : Nat → Value} {d : Nat} {st : List Value} {h : gm_H} {r : gm_R × gm_H} {lv : List Value} {x : Int64} {y : Int32} : gm_Go E d 96 49 lv (.int y :: .long x :: st) h r ↔ gm_Go E d 96 50 lv (.long (x >>> (y.toInt64 &&& 63)) :: st) h r := gr_pure m96 f96_49 rfl
theorem f96_50 : gm_ft 96 50 = some (.l2i, 1) := by decide +kernel
theorem r96_50 {E : Nat → Value} {d : Nat} {st : List Value} {h : gm_H} {r : gm_R × gm_H} {lv : List Value} {x : Int64} : gm_Go E d 96 50 lv (.long x :: st) h r ↔ gm_Go E d 96 51 lv (.int (x.toInt32) :: st) h r := gr_pure m96 f96_50 rfl
theorem f96_51 : gm_ft 96 51 = some (.sipush 255, 3) := by decide +kernel
theorem r96_51 {E : Nat → Value} {d : Nat} {st : List Value} {h : gm_H} {r : gm_R × gm_H} {lv : List Value} : gm_Go E d 96 51 lv st h r ↔ gm_Go E d 96 54 lv (.int (255 : Int32) :: st) h r := gr_pure m96 f96_51 rfl
theorem f96_54 : gm_ft 96 54 = some (.iand, 1) := by decide +kernel
theorem r96_54 {E : Nat → Value} {d : Nat} {st : List Value} {h : gm_H} {r : gm_R × gm_H} {lv : List Value} {x y : Int32} : gm_Go E d 96 54 lv (.int y :: .int x :: st) h r ↔ gm_Go E d 96 55 lv (.int (x &&& y) :: st) h r := gr_pure m96 f96_54 rfl
theorem f96_55 : gm_ft 96 55 = some (.iastore, 1) := by decide +kernel
theorem r96_55 {E : Nat → Value} {d : Nat} {st : List Value} {h : gm_H} {r : gm_R × gm_H} {lv : List Value} {a k j : Nat} {vs : List Value} {x : Int32} (hr : gm_rd h a = some (k, vs)) (hk : 100 ≤ k ∧ k % 100 = 0 ∧ gm_ko k = 2 ∧ 2 < 3) (hj : j < 2 ^ 31) (hl : j < vs.length) : gm_Go E d 96 55 lv (.int x :: .int (nI j) :: .ref a :: st) h r ↔ gm_Go E d 96 56 lv st (gm_wr h a (k, vs.set j (.int x))) r := gr_wr m96 f96_55 rfl rfl rfl rfl rfl (ga_st hr hk hj hl)
theorem f96_56 : gm_ft 96 56 = some (.aload_n 0, 1) := by decide +kernel
theorem r96_56 {E : Nat → Value} {d : Nat} {st : List Value} {h : gm_H} {r : gm_R × gm_H} {a1 a2 a3 a4 : Value} {x : Nat} : gm_Go E d 96 56 [.ref x, a1, a2, a3, a4] st h r ↔ gm_Go E d 96 57 [.ref x, a1, a2, a3, a4] (.ref x :: st) h r := gr_loc m96 f96_56 rfl rfl
theorem r96_56n {E : Nat → Value} {d : Nat} {st : List Value} {h : gm_H} {r : gm_R × gm_H} {a1 a2 a3 a4 : Value}  : gm_Go E d 96 56 [.null, a1, a2, a3, a4] st h r ↔ gm_Go E d 96 57 [.null, a1, a2, a3, a4] (.null :: st) h r := gr_loc m96 f96_56 rfl rfl
theorem f96_57 : gm_ft 96 57 = some (.dup, 1) := by decide +kernel
theorem r96_57 {E : Nat → Value} {d : Nat} {st : List Value} {h : gm_H} {r : gm_R × gm_H} {lv : List Value} {a : Nat} : gm_Go E d 96 57 lv (.ref a :: st) h r ↔ gm_Go E d 96 58 lv (.ref a :: .ref a :: st) h r := gr_pure m96 f96_57 rfl
theorem r96_57i {E : Nat → Value} {d : Nat} {st : List Value} {h : gm_H} {r : gm_R × gm_H} {lv : List Value} {x : Int32} : gm_Go E d 96 57 lv (.int x :: st) h r ↔ gm_Go E d 96 58 lv (.int x :: .int x :: st) h r := gr_pure m96 f96_57 rfl
theorem f96_58 : gm_ft 96 58 = some (.getfield 142, 3) := by decide +kernel
theorem r96_58 {E : Nat → Value} {d : Nat} {st : List Value} {h : gm_H} {r : gm_R × gm_H} {lv : List Value} {a : Nat} {vs : List Value} {v : Value} (hr : gm_rd h a = some (5, vs)) (hv : vs[5]? = some v) : gm_Go E d 96 58 lv (.ref a :: st) h r ↔ gm_Go E d 96 61 lv (v :: st) h r := gr_rd m96 f96_58 rfl rfl rfl rfl (gf_get k5_142 hr hv)
theorem f96_61 : gm_ft 96 61 = some (.iconst 1, 1) := by decide +kernel
theorem r96_61 {E : Nat → Value} {d : Nat} {st : List Value} {h : gm_H} {r : gm_R × gm_H} {lv : List Value} : gm_Go E d 96 61 lv st h r ↔ gm_Go E d 96 62 lv (.int (1 : Int32) :: st) h r := gr_pure m96 f96_61 rfl
theorem f96_62 : gm_ft 96 62 = some (.iadd, 1) := by decide +kernel
theorem r96_62 {E : Nat → Value} {d : Nat} {st : List Value} {h : gm_H} {r : gm_R × gm_H} {lv : List Value} {x y : Int32} : gm_Go E d 96 62 lv (.int y :: .int x :: st) h r ↔ gm_Go E d 96 63 lv (.int (x + y) :: st) h r := gr_pure m96 f96_62 rfl
theorem f96_63 : gm_ft 96 63 = some (.putfield 142, 3) := by decide +kernel
theorem r96_63 {E : Nat → Value} {d : Nat} {st : List Value} {h : gm_H} {r : gm_R × gm_H} {lv : List Value} {a : Nat} {vs : List Value} {v : Value} (hr : gm_rd h a = some (5, vs)) (hk : 5 < vs.length) (hn : narrow (gm_ty 5 5) v = v ∧ fits (gm_ty 5 5) v = true) : gm_Go E d 96 63 lv (v :: .ref a :: st) h r ↔ gm_Go E d 96 66 lv st (gm_wr h a (5, vs.set 5 v)) r := gr_wr m96 f96_63 rfl rfl rfl rfl rfl (gf_put k5_142 hr (by decide) hk hn (by decide))
theorem f96_66 : gm_ft 96 66 = some (.iinc 4 (-1), 3) := by decide +kernel
theorem r96_66 {E : Nat → Value} {d : Nat} {st : List Value} {h : gm_H} {r : gm_R × gm_H} {a0 a1 a2 a3 : Value} {x : Int32} : gm_Go E d 96 66 [a0, a1, a2, a3, .int x] st h r ↔ gm_Go E d 96 69 [a0, a1, a2, gm_k a3, .int (x + (-1 : Int32))] st h r := gr_loc m96 f96_66 rfl rfl
theorem f96_69 : gm_ft 96 69 = some (.goto (-39), 3) := by decide +kernel
theorem r96_69 {E : Nat → Value} {d : Nat} {st : List Value} {h : gm_H} {r : gm_R × gm_H} {lv : List Value} : gm_Go E d 96 69 lv st h r ↔ gm_Go E d 96 30 lv st h r := gr_brT m96 f96_69 rfl rfl rfl rfl
theorem f96_72 : gm_ft 96 72 = some (.aload_n 0, 1) := by decide +kernel
theorem r96_72 {E : Nat → Value} {d : Nat} {st : List Value} {h : gm_H} {r : gm_R × gm_H} {a1 a2 a3 a4 : Value} {x : Nat} : gm_Go E d 96 72 [.ref x, a1, a2, a3, a4] st h r ↔ gm_Go E d 96 73 [.ref x, a1, a2, a3, a4] (.ref x :: st) h r := gr_loc m96 f96_72 rfl rfl
theorem r96_72n {E : Nat → Value} {d : Nat} {st : List Value} {h : gm_H} {r : gm_R × gm_H} {a1 a2 a3 a4 : Value}  : gm_Go E d 96 72 [.null, a1, a2, a3, a4] st h r ↔ gm_Go E d 96 73 [.null, a1, a2, a3, a4] (.null :: st) h r := gr_loc m96 f96_72 rfl rfl
theorem f96_73 : gm_ft 96 73 = some (.getfield 142, 3) := by decide +kernel
theorem r96_73 {E : Nat → Value} {d : Nat} {st : List Value} {h : gm_H} {r : gm_R × gm_H} {lv : List Value} {a : Nat} {vs : List Value} {v : Value} (hr : gm_rd h a = some (5, vs)) (hv : vs[5]? = some v) : gm_Go E d 96 73 lv (.ref a :: st) h r ↔ gm_Go E d 96 76 lv (v :: st) h r := gr_rd m96 f96_73 rfl rfl rfl rfl (gf_get k5_142 hr hv)
theorem f96_76 : gm_ft 96 76 = some (.ireturn, 1) := by decide +kernel
theorem r96_76 {E : Nat → Value} {d : Nat} {h : gm_H} {r : gm_R × gm_H} {lv : List Value} {x : Int32} : gm_Go E d 96 76 lv [.int x] h r ↔ r = (.inl (some (.int x)), h) := gr_ret m96 f96_76 rfl rfl rfl rfl rfl rfl rfl rfl (by unfold gm_rt; dsimp only; rw [if_pos ⟨rfl, rfl⟩])
/-! GraphReaderModel.begin()I -/
theorem m97 : gm_mt[97]? = some (⟨"GraphReaderModel", "begin", "()I"⟩, prog_7_method_13_code, 3, (some .int), [], 5, 2) := rfl
theorem f97_0 : gm_ft 97 0 = some (.aload_n 0, 1) := by decide +kernel
theorem r97_0 {E : Nat → Value} {d : Nat} {st : List Value} {h : gm_H} {r : gm_R × gm_H} {a1 a2 : Value} {x : Nat} : gm_Go E d 97 0 [.ref x, a1, a2] st h r ↔ gm_Go E d 97 1 [.ref x, a1, a2] (.ref x :: st) h r := gr_loc m97 f97_0 rfl rfl
theorem r97_0n {E : Nat → Value} {d : Nat} {st : List Value} {h : gm_H} {r : gm_R × gm_H} {a1 a2 : Value}  : gm_Go E d 97 0 [.null, a1, a2] st h r ↔ gm_Go E d 97 1 [.null, a1, a2] (.null :: st) h r := gr_loc m97 f97_0 rfl rfl
theorem f97_1 : gm_ft 97 1 = some (.iconst 0, 1) := by decide +kernel
theorem r97_1 {E : Nat → Value} {d : Nat} {st : List Value} {h : gm_H} {r : gm_R × gm_H} {lv : List Value} : gm_Go E d 97 1 lv st h r ↔ gm_Go E d 97 2 lv (.int (0 : Int32) :: st) h r := gr_pure m97 f97_1 rfl
theorem f97_2 : gm_ft 97 2 = some (.putfield 148, 3) := by decide +kernel
theorem r97_2 {E : Nat → Value} {d : Nat} {st : List Value} {h : gm_H} {r : gm_R × gm_H} {lv : List Value} {a : Nat} {vs : List Value} {v : Value} (hr : gm_rd h a = some (5, vs)) (hk : 6 < vs.length) (hn : narrow (gm_ty 5 6) v = v ∧ fits (gm_ty 5 6) v = true) : gm_Go E d 97 2 lv (v :: .ref a :: st) h r ↔ gm_Go E d 97 5 lv st (gm_wr h a (5, vs.set 6 v)) r := gr_wr m97 f97_2 rfl rfl rfl rfl rfl (gf_put k5_148 hr (by decide) hk hn (by decide))
theorem f97_5 : gm_ft 97 5 = some (.aload_n 0, 1) := by decide +kernel
theorem r97_5 {E : Nat → Value} {d : Nat} {st : List Value} {h : gm_H} {r : gm_R × gm_H} {a1 a2 : Value} {x : Nat} : gm_Go E d 97 5 [.ref x, a1, a2] st h r ↔ gm_Go E d 97 6 [.ref x, a1, a2] (.ref x :: st) h r := gr_loc m97 f97_5 rfl rfl
theorem r97_5n {E : Nat → Value} {d : Nat} {st : List Value} {h : gm_H} {r : gm_R × gm_H} {a1 a2 : Value}  : gm_Go E d 97 5 [.null, a1, a2] st h r ↔ gm_Go E d 97 6 [.null, a1, a2] (.null :: st) h r := gr_loc m97 f97_5 rfl rfl
theorem f97_6 : gm_ft 97 6 = some (.iconst 0, 1) := by decide +kernel
theorem r97_6 {E : Nat → Value} {d : Nat} {st : List Value} {h : gm_H} {r : gm_R × gm_H} {lv : List Value} : gm_Go E d 97 6 lv st h r ↔ gm_Go E d 97 7 lv (.int (0 : Int32) :: st) h r := gr_pure m97 f97_6 rfl
theorem f97_7 : gm_ft 97 7 = some (.putfield 139, 3) := by decide +kernel
theorem r97_7 {E : Nat → Value} {d : Nat} {st : List Value} {h : gm_H} {r : gm_R × gm_H} {lv : List Value} {a : Nat} {vs : List Value} {v : Value} (hr : gm_rd h a = some (5, vs)) (hk : 23 < vs.length) (hn : narrow (gm_ty 5 23) v = v ∧ fits (gm_ty 5 23) v = true) : gm_Go E d 97 7 lv (v :: .ref a :: st) h r ↔ gm_Go E d 97 10 lv st (gm_wr h a (5, vs.set 23 v)) r := gr_wr m97 f97_7 rfl rfl rfl rfl rfl (gf_put k5_139 hr (by decide) hk hn (by decide))
theorem f97_10 : gm_ft 97 10 = some (.aload_n 0, 1) := by decide +kernel
theorem r97_10 {E : Nat → Value} {d : Nat} {st : List Value} {h : gm_H} {r : gm_R × gm_H} {a1 a2 : Value} {x : Nat} : gm_Go E d 97 10 [.ref x, a1, a2] st h r ↔ gm_Go E d 97 11 [.ref x, a1, a2] (.ref x :: st) h r := gr_loc m97 f97_10 rfl rfl
theorem r97_10n {E : Nat → Value} {d : Nat} {st : List Value} {h : gm_H} {r : gm_R × gm_H} {a1 a2 : Value}  : gm_Go E d 97 10 [.null, a1, a2] st h r ↔ gm_Go E d 97 11 [.null, a1, a2] (.null :: st) h r := gr_loc m97 f97_10 rfl rfl
theorem f97_11 : gm_ft 97 11 = some (.iconst 0, 1) := by decide +kernel
theorem r97_11 {E : Nat → Value} {d : Nat} {st : List Value} {h : gm_H} {r : gm_R × gm_H} {lv : List Value} : gm_Go E d 97 11 lv st h r ↔ gm_Go E d 97 12 lv (.int (0 : Int32) :: st) h r := gr_pure m97 f97_11 rfl
theorem f97_12 : gm_ft 97 12 = some (.putfield 163, 3) := by decide +kernel
theorem r97_12 {E : Nat → Value} {d : Nat} {st : List Value} {h : gm_H} {r : gm_R × gm_H} {lv : List Value} {a : Nat} {vs : List Value} {v : Value} (hr : gm_rd h a = some (5, vs)) (hk : 25 < vs.length) (hn : narrow (gm_ty 5 25) v = v ∧ fits (gm_ty 5 25) v = true) : gm_Go E d 97 12 lv (v :: .ref a :: st) h r ↔ gm_Go E d 97 15 lv st (gm_wr h a (5, vs.set 25 v)) r := gr_wr m97 f97_12 rfl rfl rfl rfl rfl (gf_put k5_163 hr (by decide) hk hn (by decide))
theorem f97_15 : gm_ft 97 15 = some (.aload_n 0, 1) := by decide +kernel
theorem r97_15 {E : Nat → Value} {d : Nat} {st : List Value} {h : gm_H} {r : gm_R × gm_H} {a1 a2 : Value} {x : Nat} : gm_Go E d 97 15 [.ref x, a1, a2] st h r ↔ gm_Go E d 97 16 [.ref x, a1, a2] (.ref x :: st) h r := gr_loc m97 f97_15 rfl rfl
theorem r97_15n {E : Nat → Value} {d : Nat} {st : List Value} {h : gm_H} {r : gm_R × gm_H} {a1 a2 : Value}  : gm_Go E d 97 15 [.null, a1, a2] st h r ↔ gm_Go E d 97 16 [.null, a1, a2] (.null :: st) h r := gr_loc m97 f97_15 rfl rfl
theorem f97_16 : gm_ft 97 16 = some (.iconst 0, 1) := by decide +kernel
theorem r97_16 {E : Nat → Value} {d : Nat} {st : List Value} {h : gm_H} {r : gm_R × gm_H} {lv : List Value} : gm_Go E d 97 16 lv st h r ↔ gm_Go E d 97 17 lv (.int (0 : Int32) :: st) h r := gr_pure m97 f97_16 rfl
theorem f97_17 : gm_ft 97 17 = some (.putfield 166, 3) := by decide +kernel
theorem r97_17 {E : Nat → Value} {d : Nat} {st : List Value} {h : gm_H} {r : gm_R × gm_H} {lv : List Value} {a : Nat} {vs : List Value} {v : Value} (hr : gm_rd h a = some (5, vs)) (hk : 28 < vs.length) (hn : narrow (gm_ty 5 28) v = v ∧ fits (gm_ty 5 28) v = true) : gm_Go E d 97 17 lv (v :: .ref a :: st) h r ↔ gm_Go E d 97 20 lv st (gm_wr h a (5, vs.set 28 v)) r := gr_wr m97 f97_17 rfl rfl rfl rfl rfl (gf_put k5_166 hr (by decide) hk hn (by decide))
theorem f97_20 : gm_ft 97 20 = some (.aload_n 0, 1) := by decide +kernel
theorem r97_20 {E : Nat → Value} {d : Nat} {st : List Value} {h : gm_H} {r : gm_R × gm_H} {a1 a2 : Value} {x : Nat} : gm_Go E d 97 20 [.ref x, a1, a2] st h r ↔ gm_Go E d 97 21 [.ref x, a1, a2] (.ref x :: st) h r := gr_loc m97 f97_20 rfl rfl
theorem r97_20n {E : Nat → Value} {d : Nat} {st : List Value} {h : gm_H} {r : gm_R × gm_H} {a1 a2 : Value}  : gm_Go E d 97 20 [.null, a1, a2] st h r ↔ gm_Go E d 97 21 [.null, a1, a2] (.null :: st) h r := gr_loc m97 f97_20 rfl rfl
theorem f97_21 : gm_ft 97 21 = some (.iconst 0, 1) := by decide +kernel
theorem r97_21 {E : Nat → Value} {d : Nat} {st : List Value} {h : gm_H} {r : gm_R × gm_H} {lv : List Value} : gm_Go E d 97 21 lv st h r ↔ gm_Go E d 97 22 lv (.int (0 : Int32) :: st) h r := gr_pure m97 f97_21 rfl
theorem f97_22 : gm_ft 97 22 = some (.putfield 169, 3) := by decide +kernel
theorem r97_22 {E : Nat → Value} {d : Nat} {st : List Value} {h : gm_H} {r : gm_R × gm_H} {lv : List Value} {a : Nat} {vs : List Value} {v : Value} (hr : gm_rd h a = some (5, vs)) (hk : 39 < vs.length) (hn : narrow (gm_ty 5 39) v = v ∧ fits (gm_ty 5 39) v = true) : gm_Go E d 97 22 lv (v :: .ref a :: st) h r ↔ gm_Go E d 97 25 lv st (gm_wr h a (5, vs.set 39 v)) r := gr_wr m97 f97_22 rfl rfl rfl rfl rfl (gf_put k5_169 hr (by decide) hk hn (by decide))
theorem f97_25 : gm_ft 97 25 = some (.aload_n 0, 1) := by decide +kernel
theorem r97_25 {E : Nat → Value} {d : Nat} {st : List Value} {h : gm_H} {r : gm_R × gm_H} {a1 a2 : Value} {x : Nat} : gm_Go E d 97 25 [.ref x, a1, a2] st h r ↔ gm_Go E d 97 26 [.ref x, a1, a2] (.ref x :: st) h r := gr_loc m97 f97_25 rfl rfl
theorem r97_25n {E : Nat → Value} {d : Nat} {st : List Value} {h : gm_H} {r : gm_R × gm_H} {a1 a2 : Value}  : gm_Go E d 97 25 [.null, a1, a2] st h r ↔ gm_Go E d 97 26 [.null, a1, a2] (.null :: st) h r := gr_loc m97 f97_25 rfl rfl
theorem f97_26 : gm_ft 97 26 = some (.iconst 0, 1) := by decide +kernel
theorem r97_26 {E : Nat → Value} {d : Nat} {st : List Value} {h : gm_H} {r : gm_R × gm_H} {lv : List Value} : gm_Go E d 97 26 lv st h r ↔ gm_Go E d 97 27 lv (.int (0 : Int32) :: st) h r := gr_pure m97 f97_26 rfl
theorem f97_27 : gm_ft 97 27 = some (.putfield 145, 3) := by decide +kernel
theorem r97_27 {E : Nat → Value} {d : Nat} {st : List Value} {h : gm_H} {r : gm_R × gm_H} {lv : List Value} {a : Nat} {vs : List Value} {v : Value} (hr : gm_rd h a = some (5, vs)) (hk : 8 < vs.length) (hn : narrow (gm_ty 5 8) v = v ∧ fits (gm_ty 5 8) v = true) : gm_Go E d 97 27 lv (v :: .ref a :: st) h r ↔ gm_Go E d 97 30 lv st (gm_wr h a (5, vs.set 8 v)) r := gr_wr m97 f97_27 rfl rfl rfl rfl rfl (gf_put k5_145 hr (by decide) hk hn (by decide))
theorem f97_30 : gm_ft 97 30 = some (.aload_n 0, 1) := by decide +kernel
theorem r97_30 {E : Nat → Value} {d : Nat} {st : List Value} {h : gm_H} {r : gm_R × gm_H} {a1 a2 : Value} {x : Nat} : gm_Go E d 97 30 [.ref x, a1, a2] st h r ↔ gm_Go E d 97 31 [.ref x, a1, a2] (.ref x :: st) h r := gr_loc m97 f97_30 rfl rfl
theorem r97_30n {E : Nat → Value} {d : Nat} {st : List Value} {h : gm_H} {r : gm_R × gm_H} {a1 a2 : Value}  : gm_Go E d 97 30 [.null, a1, a2] st h r ↔ gm_Go E d 97 31 [.null, a1, a2] (.null :: st) h r := gr_loc m97 f97_30 rfl rfl
theorem f97_31 : gm_ft 97 31 = some (.getfield 142, 3) := by decide +kernel
theorem r97_31 {E : Nat → Value} {d : Nat} {st : List Value} {h : gm_H} {r : gm_R × gm_H} {lv : List Value} {a : Nat} {vs : List Value} {v : Value} (hr : gm_rd h a = some (5, vs)) (hv : vs[5]? = some v) : gm_Go E d 97 31 lv (.ref a :: st) h r ↔ gm_Go E d 97 34 lv (v :: st) h r := gr_rd m97 f97_31 rfl rfl rfl rfl (gf_get k5_142 hr hv)
theorem f97_34 : gm_ft 97 34 = some (.iconst 4, 1) := by decide +kernel
theorem r97_34 {E : Nat → Value} {d : Nat} {st : List Value} {h : gm_H} {r : gm_R × gm_H} {lv : List Value} : gm_Go E d 97 34 lv st h r ↔ gm_Go E d 97 35 lv (.int (4 : Int32) :: st) h r := gr_pure m97 f97_34 rfl
theorem f97_35 : gm_ft 97 35 = some (.if_icmp .ge 9, 3) := by decide +kernel
theorem r97_35 {E : Nat → Value} {d : Nat} {st : List Value} {h : gm_H} {r : gm_R × gm_H} {lv : List Value} {x y : Int32} : gm_Go E d 97 35 lv (.int y :: .int x :: st) h r ↔ (if y ≤ x then gm_Go E d 97 44 lv st h r else gm_Go E d 97 38 lv st h r) := (gr_br m97 f97_35 rfl rfl rfl rfl).trans gr_if
theorem f97_38 : gm_ft 97 38 = some (.aload_n 0, 1) := by decide +kernel
theorem r97_38 {E : Nat → Value} {d : Nat} {st : List Value} {h : gm_H} {r : gm_R × gm_H} {a1 a2 : Value} {x : Nat} : gm_Go E d 97 38 [.ref x, a1, a2] st h r ↔ gm_Go E d 97 39 [.ref x, a1, a2] (.ref x :: st) h r := gr_loc m97 f97_38 rfl rfl
theorem r97_38n {E : Nat → Value} {d : Nat} {st : List Value} {h : gm_H} {r : gm_R × gm_H} {a1 a2 : Value}  : gm_Go E d 97 38 [.null, a1, a2] st h r ↔ gm_Go E d 97 39 [.null, a1, a2] (.null :: st) h r := gr_loc m97 f97_38 rfl rfl
theorem f97_39 : gm_ft 97 39 = some (.bipush (-3), 2) := by decide +kernel
theorem r97_39 {E : Nat → Value} {d : Nat} {st : List Value} {h : gm_H} {r : gm_R × gm_H} {lv : List Value} : gm_Go E d 97 39 lv st h r ↔ gm_Go E d 97 41 lv (.int (-3 : Int32) :: st) h r := gr_pure m97 f97_39 rfl
theorem f97_41 : gm_ft 97 41 = some (.invokevirtual 151, 3) := by decide +kernel
theorem n97_41 {st : List Value} {h : gm_H} {E : Nat → Value} {lv : List Value} {b0 : Value} {a : Nat} (hs : (st.map fun v => v.category).sum ≤ 8) (he : (gm_en1 [.ref a, b0]).length ≤ 2) {vs : List Value} (hr : gm_rd h a = some (5, vs)) : gm_next E 97 41 lv (b0 :: .ref a :: st) h = some (.inr (.inl (0, 98, [.ref a, b0], st))) := gn_call m97 f97_41 rfl rfl rfl rfl rfl rfl rfl (gc_virt (bs := [b0]) (w := 844) rfl rfl rfl rfl hs he hr) (by decide)
theorem f97_44 : gm_ft 97 44 = some (.iconst 0, 1) := by decide +kernel
theorem r97_44 {E : Nat → Value} {d : Nat} {st : List Value} {h : gm_H} {r : gm_R × gm_H} {lv : List Value} : gm_Go E d 97 44 lv st h r ↔ gm_Go E d 97 45 lv (.int (0 : Int32) :: st) h r := gr_pure m97 f97_44 rfl
theorem f97_45 : gm_ft 97 45 = some (.istore_n 1, 1) := by decide +kernel
theorem r97_45 {E : Nat → Value} {d : Nat} {st : List Value} {h : gm_H} {r : gm_R × gm_H} {a0 a1 a2 : Value} {x : Int32} : gm_Go E d 97 45 [a0, a1, a2] (.int x :: st) h r ↔ gm_Go E d 97 46 [gm_k a0, .int x, a2] st h r := gr_loc m97 f97_45 rfl rfl
theorem f97_46 : gm_ft 97 46 = some (.iload_n 1, 1) := by decide +kernel
theorem r97_46 {E : Nat → Value} {d : Nat} {st : List Value} {h : gm_H} {r : gm_R × gm_H} {a0 a2 : Value} {x : Int32} : gm_Go E d 97 46 [a0, .int x, a2] st h r ↔ gm_Go E d 97 47 [a0, .int x, a2] (.int x :: st) h r := gr_loc m97 f97_46 rfl rfl
theorem f97_47 : gm_ft 97 47 = some (.iconst 4, 1) := by decide +kernel
theorem r97_47 {E : Nat → Value} {d : Nat} {st : List Value} {h : gm_H} {r : gm_R × gm_H} {lv : List Value} : gm_Go E d 97 47 lv st h r ↔ gm_Go E d 97 48 lv (.int (4 : Int32) :: st) h r := gr_pure m97 f97_47 rfl
theorem f97_48 : gm_ft 97 48 = some (.if_icmp .ge 55, 3) := by decide +kernel
theorem r97_48 {E : Nat → Value} {d : Nat} {st : List Value} {h : gm_H} {r : gm_R × gm_H} {lv : List Value} {x y : Int32} : gm_Go E d 97 48 lv (.int y :: .int x :: st) h r ↔ (if y ≤ x then gm_Go E d 97 103 lv st h r else gm_Go E d 97 51 lv st h r) := (gr_br m97 f97_48 rfl rfl rfl rfl).trans gr_if
theorem f97_51 : gm_ft 97 51 = some (.iload_n 1, 1) := by decide +kernel
theorem r97_51 {E : Nat → Value} {d : Nat} {st : List Value} {h : gm_H} {r : gm_R × gm_H} {a0 a2 : Value} {x : Int32} : gm_Go E d 97 51 [a0, .int x, a2] st h r ↔ gm_Go E d 97 52 [a0, .int x, a2] (.int x :: st) h r := gr_loc m97 f97_51 rfl rfl
theorem f97_52 : gm_ft 97 52 = some (.ifCond .ne 9, 3) := by decide +kernel
theorem r97_52 {E : Nat → Value} {d : Nat} {st : List Value} {h : gm_H} {r : gm_R × gm_H} {lv : List Value} {x : Int32} : gm_Go E d 97 52 lv (.int x :: st) h r ↔ (if x = 0 then gm_Go E d 97 55 lv st h r else gm_Go E d 97 61 lv st h r) := (gr_br m97 f97_52 rfl rfl rfl rfl).trans gr_ifn
theorem f97_55 : gm_ft 97 55 = some (.sipush 172, 3) := by decide +kernel
theorem r97_55 {E : Nat → Value} {d : Nat} {st : List Value} {h : gm_H} {r : gm_R × gm_H} {lv : List Value} : gm_Go E d 97 55 lv st h r ↔ gm_Go E d 97 58 lv (.int (172 : Int32) :: st) h r := gr_pure m97 f97_55 rfl
theorem f97_58 : gm_ft 97 58 = some (.goto 24, 3) := by decide +kernel
theorem r97_58 {E : Nat → Value} {d : Nat} {st : List Value} {h : gm_H} {r : gm_R × gm_H} {lv : List Value} : gm_Go E d 97 58 lv st h r ↔ gm_Go E d 97 82 lv st h r := gr_brT m97 f97_58 rfl rfl rfl rfl
theorem f97_61 : gm_ft 97 61 = some (.iload_n 1, 1) := by decide +kernel
theorem r97_61 {E : Nat → Value} {d : Nat} {st : List Value} {h : gm_H} {r : gm_R × gm_H} {a0 a2 : Value} {x : Int32} : gm_Go E d 97 61 [a0, .int x, a2] st h r ↔ gm_Go E d 97 62 [a0, .int x, a2] (.int x :: st) h r := gr_loc m97 f97_61 rfl rfl
theorem f97_62 : gm_ft 97 62 = some (.iconst 1, 1) := by decide +kernel
theorem r97_62 {E : Nat → Value} {d : Nat} {st : List Value} {h : gm_H} {r : gm_R × gm_H} {lv : List Value} : gm_Go E d 97 62 lv st h r ↔ gm_Go E d 97 63 lv (.int (1 : Int32) :: st) h r := gr_pure m97 f97_62 rfl
theorem f97_63 : gm_ft 97 63 = some (.if_icmp .ne 9, 3) := by decide +kernel
theorem r97_63 {E : Nat → Value} {d : Nat} {st : List Value} {h : gm_H} {r : gm_R × gm_H} {lv : List Value} {x y : Int32} : gm_Go E d 97 63 lv (.int y :: .int x :: st) h r ↔ (if x = y then gm_Go E d 97 66 lv st h r else gm_Go E d 97 72 lv st h r) := (gr_br m97 f97_63 rfl rfl rfl rfl).trans gr_ifn
theorem f97_66 : gm_ft 97 66 = some (.sipush 237, 3) := by decide +kernel
theorem r97_66 {E : Nat → Value} {d : Nat} {st : List Value} {h : gm_H} {r : gm_R × gm_H} {lv : List Value} : gm_Go E d 97 66 lv st h r ↔ gm_Go E d 97 69 lv (.int (237 : Int32) :: st) h r := gr_pure m97 f97_66 rfl
theorem f97_69 : gm_ft 97 69 = some (.goto 13, 3) := by decide +kernel
theorem r97_69 {E : Nat → Value} {d : Nat} {st : List Value} {h : gm_H} {r : gm_R × gm_H} {lv : List Value} : gm_Go E d 97 69 lv st h r ↔ gm_Go E d 97 82 lv st h r := gr_brT m97 f97_69 rfl rfl rfl rfl
theorem f97_72 : gm_ft 97 72 = some (.iload_n 1, 1) := by decide +kernel
theorem r97_72 {E : Nat → Value} {d : Nat} {st : List Value} {h : gm_H} {r : gm_R × gm_H} {a0 a2 : Value} {x : Int32} : gm_Go E d 97 72 [a0, .int x, a2] st h r ↔ gm_Go E d 97 73 [a0, .int x, a2] (.int x :: st) h r := gr_loc m97 f97_72 rfl rfl
theorem f97_73 : gm_ft 97 73 = some (.iconst 2, 1) := by decide +kernel
theorem r97_73 {E : Nat → Value} {d : Nat} {st : List Value} {h : gm_H} {r : gm_R × gm_H} {lv : List Value} : gm_Go E d 97 73 lv st h r ↔ gm_Go E d 97 74 lv (.int (2 : Int32) :: st) h r := gr_pure m97 f97_73 rfl
theorem f97_74 : gm_ft 97 74 = some (.if_icmp .ne 7, 3) := by decide +kernel
theorem r97_74 {E : Nat → Value} {d : Nat} {st : List Value} {h : gm_H} {r : gm_R × gm_H} {lv : List Value} {x y : Int32} : gm_Go E d 97 74 lv (.int y :: .int x :: st) h r ↔ (if x = y then gm_Go E d 97 77 lv st h r else gm_Go E d 97 81 lv st h r) := (gr_br m97 f97_74 rfl rfl rfl rfl).trans gr_ifn
theorem f97_77 : gm_ft 97 77 = some (.iconst 0, 1) := by decide +kernel
theorem r97_77 {E : Nat → Value} {d : Nat} {st : List Value} {h : gm_H} {r : gm_R × gm_H} {lv : List Value} : gm_Go E d 97 77 lv st h r ↔ gm_Go E d 97 78 lv (.int (0 : Int32) :: st) h r := gr_pure m97 f97_77 rfl
theorem f97_78 : gm_ft 97 78 = some (.goto 4, 3) := by decide +kernel
theorem r97_78 {E : Nat → Value} {d : Nat} {st : List Value} {h : gm_H} {r : gm_R × gm_H} {lv : List Value} : gm_Go E d 97 78 lv st h r ↔ gm_Go E d 97 82 lv st h r := gr_brT m97 f97_78 rfl rfl rfl rfl
theorem f97_81 : gm_ft 97 81 = some (.iconst 5, 1) := by decide +kernel
theorem r97_81 {E : Nat → Value} {d : Nat} {st : List Value} {h : gm_H} {r : gm_R × gm_H} {lv : List Value} : gm_Go E d 97 81 lv st h r ↔ gm_Go E d 97 82 lv (.int (5 : Int32) :: st) h r := gr_pure m97 f97_81 rfl
theorem f97_82 : gm_ft 97 82 = some (.istore_n 2, 1) := by decide +kernel
theorem r97_82 {E : Nat → Value} {d : Nat} {st : List Value} {h : gm_H} {r : gm_R × gm_H} {a0 a1 a2 : Value} {x : Int32} : gm_Go E d 97 82 [a0, a1, a2] (.int x :: st) h r ↔ gm_Go E d 97 83 [a0, gm_k a1, .int x] st h r := gr_loc m97 f97_82 rfl rfl
theorem f97_83 : gm_ft 97 83 = some (.aload_n 0, 1) := by decide +kernel
theorem r97_83 {E : Nat → Value} {d : Nat} {st : List Value} {h : gm_H} {r : gm_R × gm_H} {a1 a2 : Value} {x : Nat} : gm_Go E d 97 83 [.ref x, a1, a2] st h r ↔ gm_Go E d 97 84 [.ref x, a1, a2] (.ref x :: st) h r := gr_loc m97 f97_83 rfl rfl
theorem r97_83n {E : Nat → Value} {d : Nat} {st : List Value} {h : gm_H} {r : gm_R × gm_H} {a1 a2 : Value}  : gm_Go E d 97 83 [.null, a1, a2] st h r ↔ gm_Go E d 97 84 [.null, a1, a2] (.null :: st) h r := gr_loc m97 f97_83 rfl rfl
theorem f97_84 : gm_ft 97 84 = some (.invokevirtual 155, 3) := by decide +kernel
theorem n97_84 {st : List Value} {h : gm_H} {E : Nat → Value} {lv : List Value} {a : Nat} (hs : (st.map fun v => v.category).sum ≤ 8) (he : (gm_en1 [.ref a]).length ≤ 1) {vs : List Value} (hr : gm_rd h a = some (5, vs)) : gm_next E 97 84 lv (.ref a :: st) h = some (.inr (.inl (0, 99, [.ref a], st))) := gn_call m97 f97_84 rfl rfl rfl rfl rfl rfl rfl (gc_virt (bs := []) (w := 848) rfl rfl rfl rfl hs he hr) (by decide)
theorem f97_87 : gm_ft 97 87 = some (.iload_n 2, 1) := by decide +kernel
theorem r97_87 {E : Nat → Value} {d : Nat} {st : List Value} {h : gm_H} {r : gm_R × gm_H} {a0 a1 : Value} {x : Int32} : gm_Go E d 97 87 [a0, a1, .int x] st h r ↔ gm_Go E d 97 88 [a0, a1, .int x] (.int x :: st) h r := gr_loc m97 f97_87 rfl rfl
theorem f97_88 : gm_ft 97 88 = some (.if_icmp .eq 9, 3) := by decide +kernel
theorem r97_88 {E : Nat → Value} {d : Nat} {st : List Value} {h : gm_H} {r : gm_R × gm_H} {lv : List Value} {x y : Int32} : gm_Go E d 97 88 lv (.int y :: .int x :: st) h r ↔ (if x = y then gm_Go E d 97 97 lv st h r else gm_Go E d 97 91 lv st h r) := (gr_br m97 f97_88 rfl rfl rfl rfl).trans gr_if
theorem f97_91 : gm_ft 97 91 = some (.aload_n 0, 1) := by decide +kernel
theorem r97_91 {E : Nat → Value} {d : Nat} {st : List Value} {h : gm_H} {r : gm_R × gm_H} {a1 a2 : Value} {x : Nat} : gm_Go E d 97 91 [.ref x, a1, a2] st h r ↔ gm_Go E d 97 92 [.ref x, a1, a2] (.ref x :: st) h r := gr_loc m97 f97_91 rfl rfl
theorem r97_91n {E : Nat → Value} {d : Nat} {st : List Value} {h : gm_H} {r : gm_R × gm_H} {a1 a2 : Value}  : gm_Go E d 97 91 [.null, a1, a2] st h r ↔ gm_Go E d 97 92 [.null, a1, a2] (.null :: st) h r := gr_loc m97 f97_91 rfl rfl
theorem f97_92 : gm_ft 97 92 = some (.bipush (-4), 2) := by decide +kernel
theorem r97_92 {E : Nat → Value} {d : Nat} {st : List Value} {h : gm_H} {r : gm_R × gm_H} {lv : List Value} : gm_Go E d 97 92 lv st h r ↔ gm_Go E d 97 94 lv (.int (-4 : Int32) :: st) h r := gr_pure m97 f97_92 rfl
theorem f97_94 : gm_ft 97 94 = some (.invokevirtual 151, 3) := by decide +kernel
theorem n97_94 {st : List Value} {h : gm_H} {E : Nat → Value} {lv : List Value} {b0 : Value} {a : Nat} (hs : (st.map fun v => v.category).sum ≤ 8) (he : (gm_en1 [.ref a, b0]).length ≤ 2) {vs : List Value} (hr : gm_rd h a = some (5, vs)) : gm_next E 97 94 lv (b0 :: .ref a :: st) h = some (.inr (.inl (0, 98, [.ref a, b0], st))) := gn_call m97 f97_94 rfl rfl rfl rfl rfl rfl rfl (gc_virt (bs := [b0]) (w := 844) rfl rfl rfl rfl hs he hr) (by decide)
theorem f97_97 : gm_ft 97 97 = some (.iinc 1 1, 3) := by decide +kernel
theorem r97_97 {E : Nat → Value} {d : Nat} {st : List Value} {h : gm_H} {r : gm_R × gm_H} {a0 a2 : Value} {x : Int32} : gm_Go E d 97 97 [a0, .int x, a2] st h r ↔ gm_Go E d 97 100 [gm_k a0, .int (x + (1 : Int32)), a2] st h r := gr_loc m97 f97_97 rfl rfl
theorem f97_100 : gm_ft 97 100 = some (.goto (-54), 3) := by decide +kernel
theorem r97_100 {E : Nat → Value} {d : Nat} {st : List Value} {h : gm_H} {r : gm_R × gm_H} {lv : List Value} : gm_Go E d 97 100 lv st h r ↔ gm_Go E d 97 46 lv st h r := gr_brT m97 f97_100 rfl rfl rfl rfl
theorem f97_103 : gm_ft 97 103 = some (.aload_n 0, 1) := by decide +kernel
theorem r97_103 {E : Nat → Value} {d : Nat} {st : List Value} {h : gm_H} {r : gm_R × gm_H} {a1 a2 : Value} {x : Nat} : gm_Go E d 97 103 [.ref x, a1, a2] st h r ↔ gm_Go E d 97 104 [.ref x, a1, a2] (.ref x :: st) h r := gr_loc m97 f97_103 rfl rfl
theorem r97_103n {E : Nat → Value} {d : Nat} {st : List Value} {h : gm_H} {r : gm_R × gm_H} {a1 a2 : Value}  : gm_Go E d 97 103 [.null, a1, a2] st h r ↔ gm_Go E d 97 104 [.null, a1, a2] (.null :: st) h r := gr_loc m97 f97_103 rfl rfl
theorem f97_104 : gm_ft 97 104 = some (.aload_n 0, 1) := by decide +kernel
theorem r97_104 {E : Nat → Value} {d : Nat} {st : List Value} {h : gm_H} {r : gm_R × gm_H} {a1 a2 : Value} {x : Nat} : gm_Go E d 97 104 [.ref x, a1, a2] st h r ↔ gm_Go E d 97 105 [.ref x, a1, a2] (.ref x :: st) h r := gr_loc m97 f97_104 rfl rfl
theorem r97_104n {E : Nat → Value} {d : Nat} {st : List Value} {h : gm_H} {r : gm_R × gm_H} {a1 a2 : Value}  : gm_Go E d 97 104 [.null, a1, a2] st h r ↔ gm_Go E d 97 105 [.null, a1, a2] (.null :: st) h r := gr_loc m97 f97_104 rfl rfl
theorem f97_105 : gm_ft 97 105 = some (.getfield 145, 3) := by decide +kernel
theorem r97_105 {E : Nat → Value} {d : Nat} {st : List Value} {h : gm_H} {r : gm_R × gm_H} {lv : List Value} {a : Nat} {vs : List Value} {v : Value} (hr : gm_rd h a = some (5, vs)) (hv : vs[8]? = some v) : gm_Go E d 97 105 lv (.ref a :: st) h r ↔ gm_Go E d 97 108 lv (v :: st) h r := gr_rd m97 f97_105 rfl rfl rfl rfl (gf_get k5_145 hr hv)
theorem f97_108 : gm_ft 97 108 = some (.putfield 172, 3) := by decide +kernel
theorem r97_108 {E : Nat → Value} {d : Nat} {st : List Value} {h : gm_H} {r : gm_R × gm_H} {lv : List Value} {a : Nat} {vs : List Value} {v : Value} (hr : gm_rd h a = some (5, vs)) (hk : 7 < vs.length) (hn : narrow (gm_ty 5 7) v = v ∧ fits (gm_ty 5 7) v = true) : gm_Go E d 97 108 lv (v :: .ref a :: st) h r ↔ gm_Go E d 97 111 lv st (gm_wr h a (5, vs.set 7 v)) r := gr_wr m97 f97_108 rfl rfl rfl rfl rfl (gf_put k5_172 hr (by decide) hk hn (by decide))
theorem f97_111 : gm_ft 97 111 = some (.aload_n 0, 1) := by decide +kernel
theorem r97_111 {E : Nat → Value} {d : Nat} {st : List Value} {h : gm_H} {r : gm_R × gm_H} {a1 a2 : Value} {x : Nat} : gm_Go E d 97 111 [.ref x, a1, a2] st h r ↔ gm_Go E d 97 112 [.ref x, a1, a2] (.ref x :: st) h r := gr_loc m97 f97_111 rfl rfl
theorem r97_111n {E : Nat → Value} {d : Nat} {st : List Value} {h : gm_H} {r : gm_R × gm_H} {a1 a2 : Value}  : gm_Go E d 97 111 [.null, a1, a2] st h r ↔ gm_Go E d 97 112 [.null, a1, a2] (.null :: st) h r := gr_loc m97 f97_111 rfl rfl
theorem f97_112 : gm_ft 97 112 = some (.getfield 145, 3) := by decide +kernel
theorem r97_112 {E : Nat → Value} {d : Nat} {st : List Value} {h : gm_H} {r : gm_R × gm_H} {lv : List Value} {a : Nat} {vs : List Value} {v : Value} (hr : gm_rd h a = some (5, vs)) (hv : vs[8]? = some v) : gm_Go E d 97 112 lv (.ref a :: st) h r ↔ gm_Go E d 97 115 lv (v :: st) h r := gr_rd m97 f97_112 rfl rfl rfl rfl (gf_get k5_145 hr hv)
theorem f97_115 : gm_ft 97 115 = some (.ifCond .eq 8, 3) := by decide +kernel
theorem r97_115 {E : Nat → Value} {d : Nat} {st : List Value} {h : gm_H} {r : gm_R × gm_H} {lv : List Value} {x : Int32} : gm_Go E d 97 115 lv (.int x :: st) h r ↔ (if x = 0 then gm_Go E d 97 123 lv st h r else gm_Go E d 97 118 lv st h r) := (gr_br m97 f97_115 rfl rfl rfl rfl).trans gr_if
theorem f97_118 : gm_ft 97 118 = some (.aload_n 0, 1) := by decide +kernel
theorem r97_118 {E : Nat → Value} {d : Nat} {st : List Value} {h : gm_H} {r : gm_R × gm_H} {a1 a2 : Value} {x : Nat} : gm_Go E d 97 118 [.ref x, a1, a2] st h r ↔ gm_Go E d 97 119 [.ref x, a1, a2] (.ref x :: st) h r := gr_loc m97 f97_118 rfl rfl
theorem r97_118n {E : Nat → Value} {d : Nat} {st : List Value} {h : gm_H} {r : gm_R × gm_H} {a1 a2 : Value}  : gm_Go E d 97 118 [.null, a1, a2] st h r ↔ gm_Go E d 97 119 [.null, a1, a2] (.null :: st) h r := gr_loc m97 f97_118 rfl rfl
theorem f97_119 : gm_ft 97 119 = some (.iconst 0, 1) := by decide +kernel
theorem r97_119 {E : Nat → Value} {d : Nat} {st : List Value} {h : gm_H} {r : gm_R × gm_H} {lv : List Value} : gm_Go E d 97 119 lv st h r ↔ gm_Go E d 97 120 lv (.int (0 : Int32) :: st) h r := gr_pure m97 f97_119 rfl
theorem f97_120 : gm_ft 97 120 = some (.putfield 148, 3) := by decide +kernel
theorem r97_120 {E : Nat → Value} {d : Nat} {st : List Value} {h : gm_H} {r : gm_R × gm_H} {lv : List Value} {a : Nat} {vs : List Value} {v : Value} (hr : gm_rd h a = some (5, vs)) (hk : 6 < vs.length) (hn : narrow (gm_ty 5 6) v = v ∧ fits (gm_ty 5 6) v = true) : gm_Go E d 97 120 lv (v :: .ref a :: st) h r ↔ gm_Go E d 97 123 lv st (gm_wr h a (5, vs.set 6 v)) r := gr_wr m97 f97_120 rfl rfl rfl rfl rfl (gf_put k5_148 hr (by decide) hk hn (by decide))
theorem f97_123 : gm_ft 97 123 = some (.aload_n 0, 1) := by decide +kernel
theorem r97_123 {E : Nat → Value} {d : Nat} {st : List Value} {h : gm_H} {r : gm_R × gm_H} {a1 a2 : Value} {x : Nat} : gm_Go E d 97 123 [.ref x, a1, a2] st h r ↔ gm_Go E d 97 124 [.ref x, a1, a2] (.ref x :: st) h r := gr_loc m97 f97_123 rfl rfl
theorem r97_123n {E : Nat → Value} {d : Nat} {st : List Value} {h : gm_H} {r : gm_R × gm_H} {a1 a2 : Value}  : gm_Go E d 97 123 [.null, a1, a2] st h r ↔ gm_Go E d 97 124 [.null, a1, a2] (.null :: st) h r := gr_loc m97 f97_123 rfl rfl
theorem f97_124 : gm_ft 97 124 = some (.getfield 145, 3) := by decide +kernel
theorem r97_124 {E : Nat → Value} {d : Nat} {st : List Value} {h : gm_H} {r : gm_R × gm_H} {lv : List Value} {a : Nat} {vs : List Value} {v : Value} (hr : gm_rd h a = some (5, vs)) (hv : vs[8]? = some v) : gm_Go E d 97 124 lv (.ref a :: st) h r ↔ gm_Go E d 97 127 lv (v :: st) h r := gr_rd m97 f97_124 rfl rfl rfl rfl (gf_get k5_145 hr hv)
theorem f97_127 : gm_ft 97 127 = some (.ifCond .eq 10, 3) := by decide +kernel
theorem r97_127 {E : Nat → Value} {d : Nat} {st : List Value} {h : gm_H} {r : gm_R × gm_H} {lv : List Value} {x : Int32} : gm_Go E d 97 127 lv (.int x :: st) h r ↔ (if x = 0 then gm_Go E d 97 137 lv st h r else gm_Go E d 97 130 lv st h r) := (gr_br m97 f97_127 rfl rfl rfl rfl).trans gr_if
theorem f97_130 : gm_ft 97 130 = some (.aload_n 0, 1) := by decide +kernel
theorem r97_130 {E : Nat → Value} {d : Nat} {st : List Value} {h : gm_H} {r : gm_R × gm_H} {a1 a2 : Value} {x : Nat} : gm_Go E d 97 130 [.ref x, a1, a2] st h r ↔ gm_Go E d 97 131 [.ref x, a1, a2] (.ref x :: st) h r := gr_loc m97 f97_130 rfl rfl
theorem r97_130n {E : Nat → Value} {d : Nat} {st : List Value} {h : gm_H} {r : gm_R × gm_H} {a1 a2 : Value}  : gm_Go E d 97 130 [.null, a1, a2] st h r ↔ gm_Go E d 97 131 [.null, a1, a2] (.null :: st) h r := gr_loc m97 f97_130 rfl rfl
theorem f97_131 : gm_ft 97 131 = some (.getfield 145, 3) := by decide +kernel
theorem r97_131 {E : Nat → Value} {d : Nat} {st : List Value} {h : gm_H} {r : gm_R × gm_H} {lv : List Value} {a : Nat} {vs : List Value} {v : Value} (hr : gm_rd h a = some (5, vs)) (hv : vs[8]? = some v) : gm_Go E d 97 131 lv (.ref a :: st) h r ↔ gm_Go E d 97 134 lv (v :: st) h r := gr_rd m97 f97_131 rfl rfl rfl rfl (gf_get k5_145 hr hv)
theorem f97_134 : gm_ft 97 134 = some (.goto 4, 3) := by decide +kernel
theorem r97_134 {E : Nat → Value} {d : Nat} {st : List Value} {h : gm_H} {r : gm_R × gm_H} {lv : List Value} : gm_Go E d 97 134 lv st h r ↔ gm_Go E d 97 138 lv st h r := gr_brT m97 f97_134 rfl rfl rfl rfl
theorem f97_137 : gm_ft 97 137 = some (.iconst 4, 1) := by decide +kernel
theorem r97_137 {E : Nat → Value} {d : Nat} {st : List Value} {h : gm_H} {r : gm_R × gm_H} {lv : List Value} : gm_Go E d 97 137 lv st h r ↔ gm_Go E d 97 138 lv (.int (4 : Int32) :: st) h r := gr_pure m97 f97_137 rfl
theorem f97_138 : gm_ft 97 138 = some (.ireturn, 1) := by decide +kernel
theorem r97_138 {E : Nat → Value} {d : Nat} {h : gm_H} {r : gm_R × gm_H} {lv : List Value} {x : Int32} : gm_Go E d 97 138 lv [.int x] h r ↔ r = (.inl (some (.int x)), h) := gr_ret m97 f97_138 rfl rfl rfl rfl rfl rfl rfl rfl (by unfold gm_rt; dsimp only; rw [if_pos ⟨rfl, rfl⟩])
/-! GraphReaderModel.fail(I)V -/
theorem m98 : gm_mt[98]? = some (⟨"GraphReaderModel", "fail", "(I)V"⟩, prog_7_method_9_code, 2, none, [], 5, 2) := rfl
theorem f98_0 : gm_ft 98 0 = some (.aload_n 0, 1) := by decide +kernel
theorem r98_0 {E : Nat → Value} {d : Nat} {st : List Value} {h : gm_H} {r : gm_R × gm_H} {a1 : Value} {x : Nat} : gm_Go E d 98 0 [.ref x, a1] st h r ↔ gm_Go E d 98 1 [.ref x, a1] (.ref x :: st) h r := gr_loc m98 f98_0 rfl rfl
theorem r98_0n {E : Nat → Value} {d : Nat} {st : List Value} {h : gm_H} {r : gm_R × gm_H} {a1 : Value}  : gm_Go E d 98 0 [.null, a1] st h r ↔ gm_Go E d 98 1 [.null, a1] (.null :: st) h r := gr_loc m98 f98_0 rfl rfl
theorem f98_1 : gm_ft 98 1 = some (.getfield 145, 3) := by decide +kernel
theorem r98_1 {E : Nat → Value} {d : Nat} {st : List Value} {h : gm_H} {r : gm_R × gm_H} {lv : List Value} {a : Nat} {vs : List Value} {v : Value} (hr : gm_rd h a = some (5, vs)) (hv : vs[8]? = some v) : gm_Go E d 98 1 lv (.ref a :: st) h r ↔ gm_Go E d 98 4 lv (v :: st) h r := gr_rd m98 f98_1 rfl rfl rfl rfl (gf_get k5_145 hr hv)
theorem f98_4 : gm_ft 98 4 = some (.ifCond .ne 8, 3) := by decide +kernel
theorem r98_4 {E : Nat → Value} {d : Nat} {st : List Value} {h : gm_H} {r : gm_R × gm_H} {lv : List Value} {x : Int32} : gm_Go E d 98 4 lv (.int x :: st) h r ↔ (if x = 0 then gm_Go E d 98 7 lv st h r else gm_Go E d 98 12 lv st h r) := (gr_br m98 f98_4 rfl rfl rfl rfl).trans gr_ifn
theorem f98_7 : gm_ft 98 7 = some (.aload_n 0, 1) := by decide +kernel
theorem r98_7 {E : Nat → Value} {d : Nat} {st : List Value} {h : gm_H} {r : gm_R × gm_H} {a1 : Value} {x : Nat} : gm_Go E d 98 7 [.ref x, a1] st h r ↔ gm_Go E d 98 8 [.ref x, a1] (.ref x :: st) h r := gr_loc m98 f98_7 rfl rfl
theorem r98_7n {E : Nat → Value} {d : Nat} {st : List Value} {h : gm_H} {r : gm_R × gm_H} {a1 : Value}  : gm_Go E d 98 7 [.null, a1] st h r ↔ gm_Go E d 98 8 [.null, a1] (.null :: st) h r := gr_loc m98 f98_7 rfl rfl
theorem f98_8 : gm_ft 98 8 = some (.iload_n 1, 1) := by decide +kernel
theorem r98_8 {E : Nat → Value} {d : Nat} {st : List Value} {h : gm_H} {r : gm_R × gm_H} {a0 : Value} {x : Int32} : gm_Go E d 98 8 [a0, .int x] st h r ↔ gm_Go E d 98 9 [a0, .int x] (.int x :: st) h r := gr_loc m98 f98_8 rfl rfl
theorem f98_9 : gm_ft 98 9 = some (.putfield 145, 3) := by decide +kernel
theorem r98_9 {E : Nat → Value} {d : Nat} {st : List Value} {h : gm_H} {r : gm_R × gm_H} {lv : List Value} {a : Nat} {vs : List Value} {v : Value} (hr : gm_rd h a = some (5, vs)) (hk : 8 < vs.length) (hn : narrow (gm_ty 5 8) v = v ∧ fits (gm_ty 5 8) v = true) : gm_Go E d 98 9 lv (v :: .ref a :: st) h r ↔ gm_Go E d 98 12 lv st (gm_wr h a (5, vs.set 8 v)) r := gr_wr m98 f98_9 rfl rfl rfl rfl rfl (gf_put k5_145 hr (by decide) hk hn (by decide))
theorem f98_12 : gm_ft 98 12 = some (.return_, 1) := by decide +kernel
theorem r98_12 {E : Nat → Value} {d : Nat} {h : gm_H} {r : gm_R × gm_H} {lv : List Value} : gm_Go E d 98 12 lv [] h r ↔ r = (.inl none, h) := gr_ret m98 f98_12 rfl rfl rfl rfl rfl rfl rfl rfl rfl
/-! GraphReaderModel.next()I -/
theorem m99 : gm_mt[99]? = some (⟨"GraphReaderModel", "next", "()I"⟩, prog_7_method_10_code, 1, (some .int), [], 5, 2) := rfl
theorem f99_0 : gm_ft 99 0 = some (.aload_n 0, 1) := by decide +kernel
theorem r99_0 {E : Nat → Value} {d : Nat} {st : List Value} {h : gm_H} {r : gm_R × gm_H}  {x : Nat} : gm_Go E d 99 0 [.ref x] st h r ↔ gm_Go E d 99 1 [.ref x] (.ref x :: st) h r := gr_loc m99 f99_0 rfl rfl
theorem r99_0n {E : Nat → Value} {d : Nat} {st : List Value} {h : gm_H} {r : gm_R × gm_H}   : gm_Go E d 99 0 [.null] st h r ↔ gm_Go E d 99 1 [.null] (.null :: st) h r := gr_loc m99 f99_0 rfl rfl
theorem f99_1 : gm_ft 99 1 = some (.getfield 148, 3) := by decide +kernel
theorem r99_1 {E : Nat → Value} {d : Nat} {st : List Value} {h : gm_H} {r : gm_R × gm_H} {lv : List Value} {a : Nat} {vs : List Value} {v : Value} (hr : gm_rd h a = some (5, vs)) (hv : vs[6]? = some v) : gm_Go E d 99 1 lv (.ref a :: st) h r ↔ gm_Go E d 99 4 lv (v :: st) h r := gr_rd m99 f99_1 rfl rfl rfl rfl (gf_get k5_148 hr hv)
theorem f99_4 : gm_ft 99 4 = some (.aload_n 0, 1) := by decide +kernel
theorem r99_4 {E : Nat → Value} {d : Nat} {st : List Value} {h : gm_H} {r : gm_R × gm_H}  {x : Nat} : gm_Go E d 99 4 [.ref x] st h r ↔ gm_Go E d 99 5 [.ref x] (.ref x :: st) h r := gr_loc m99 f99_4 rfl rfl
theorem r99_4n {E : Nat → Value} {d : Nat} {st : List Value} {h : gm_H} {r : gm_R × gm_H}   : gm_Go E d 99 4 [.null] st h r ↔ gm_Go E d 99 5 [.null] (.null :: st) h r := gr_loc m99 f99_4 rfl rfl
theorem f99_5 : gm_ft 99 5 = some (.getfield 142, 3) := by decide +kernel
theorem r99_5 {E : Nat → Value} {d : Nat} {st : List Value} {h : gm_H} {r : gm_R × gm_H} {lv : List Value} {a : Nat} {vs : List Value} {v : Value} (hr : gm_rd h a = some (5, vs)) (hv : vs[5]? = some v) : gm_Go E d 99 5 lv (.ref a :: st) h r ↔ gm_Go E d 99 8 lv (v :: st) h r := gr_rd m99 f99_5 rfl rfl rfl rfl (gf_get k5_142 hr hv)
theorem f99_8 : gm_ft 99 8 = some (.if_icmp .lt 9, 3) := by decide +kernel
theorem r99_8 {E : Nat → Value} {d : Nat} {st : List Value} {h : gm_H} {r : gm_R × gm_H} {lv : List Value} {x y : Int32} : gm_Go E d 99 8 lv (.int y :: .int x :: st) h r ↔ (if x < y then gm_Go E d 99 17 lv st h r else gm_Go E d 99 11 lv st h r) := (gr_br m99 f99_8 rfl rfl rfl rfl).trans gr_if
theorem f99_11 : gm_ft 99 11 = some (.aload_n 0, 1) := by decide +kernel
theorem r99_11 {E : Nat → Value} {d : Nat} {st : List Value} {h : gm_H} {r : gm_R × gm_H}  {x : Nat} : gm_Go E d 99 11 [.ref x] st h r ↔ gm_Go E d 99 12 [.ref x] (.ref x :: st) h r := gr_loc m99 f99_11 rfl rfl
theorem r99_11n {E : Nat → Value} {d : Nat} {st : List Value} {h : gm_H} {r : gm_R × gm_H}   : gm_Go E d 99 11 [.null] st h r ↔ gm_Go E d 99 12 [.null] (.null :: st) h r := gr_loc m99 f99_11 rfl rfl
theorem f99_12 : gm_ft 99 12 = some (.bipush (-3), 2) := by decide +kernel
theorem r99_12 {E : Nat → Value} {d : Nat} {st : List Value} {h : gm_H} {r : gm_R × gm_H} {lv : List Value} : gm_Go E d 99 12 lv st h r ↔ gm_Go E d 99 14 lv (.int (-3 : Int32) :: st) h r := gr_pure m99 f99_12 rfl
theorem f99_14 : gm_ft 99 14 = some (.invokevirtual 151, 3) := by decide +kernel
theorem n99_14 {st : List Value} {h : gm_H} {E : Nat → Value} {lv : List Value} {b0 : Value} {a : Nat} (hs : (st.map fun v => v.category).sum ≤ 8) (he : (gm_en1 [.ref a, b0]).length ≤ 2) {vs : List Value} (hr : gm_rd h a = some (5, vs)) : gm_next E 99 14 lv (b0 :: .ref a :: st) h = some (.inr (.inl (0, 98, [.ref a, b0], st))) := gn_call m99 f99_14 rfl rfl rfl rfl rfl rfl rfl (gc_virt (bs := [b0]) (w := 844) rfl rfl rfl rfl hs he hr) (by decide)
theorem f99_17 : gm_ft 99 17 = some (.aload_n 0, 1) := by decide +kernel
theorem r99_17 {E : Nat → Value} {d : Nat} {st : List Value} {h : gm_H} {r : gm_R × gm_H}  {x : Nat} : gm_Go E d 99 17 [.ref x] st h r ↔ gm_Go E d 99 18 [.ref x] (.ref x :: st) h r := gr_loc m99 f99_17 rfl rfl
theorem r99_17n {E : Nat → Value} {d : Nat} {st : List Value} {h : gm_H} {r : gm_R × gm_H}   : gm_Go E d 99 17 [.null] st h r ↔ gm_Go E d 99 18 [.null] (.null :: st) h r := gr_loc m99 f99_17 rfl rfl
theorem f99_18 : gm_ft 99 18 = some (.getfield 145, 3) := by decide +kernel
theorem r99_18 {E : Nat → Value} {d : Nat} {st : List Value} {h : gm_H} {r : gm_R × gm_H} {lv : List Value} {a : Nat} {vs : List Value} {v : Value} (hr : gm_rd h a = some (5, vs)) (hv : vs[8]? = some v) : gm_Go E d 99 18 lv (.ref a :: st) h r ↔ gm_Go E d 99 21 lv (v :: st) h r := gr_rd m99 f99_18 rfl rfl rfl rfl (gf_get k5_145 hr hv)
theorem f99_21 : gm_ft 99 21 = some (.ifCond .eq 5, 3) := by decide +kernel
theorem r99_21 {E : Nat → Value} {d : Nat} {st : List Value} {h : gm_H} {r : gm_R × gm_H} {lv : List Value} {x : Int32} : gm_Go E d 99 21 lv (.int x :: st) h r ↔ (if x = 0 then gm_Go E d 99 26 lv st h r else gm_Go E d 99 24 lv st h r) := (gr_br m99 f99_21 rfl rfl rfl rfl).trans gr_if
theorem f99_24 : gm_ft 99 24 = some (.iconst 0, 1) := by decide +kernel
theorem r99_24 {E : Nat → Value} {d : Nat} {st : List Value} {h : gm_H} {r : gm_R × gm_H} {lv : List Value} : gm_Go E d 99 24 lv st h r ↔ gm_Go E d 99 25 lv (.int (0 : Int32) :: st) h r := gr_pure m99 f99_24 rfl
theorem f99_25 : gm_ft 99 25 = some (.ireturn, 1) := by decide +kernel
theorem r99_25 {E : Nat → Value} {d : Nat} {h : gm_H} {r : gm_R × gm_H} {lv : List Value} {x : Int32} : gm_Go E d 99 25 lv [.int x] h r ↔ r = (.inl (some (.int x)), h) := gr_ret m99 f99_25 rfl rfl rfl rfl rfl rfl rfl rfl (by unfold gm_rt; dsimp only; rw [if_pos ⟨rfl, rfl⟩])
theorem f99_26 : gm_ft 99 26 = some (.aload_n 0, 1) := by decide +kernel
theorem r99_26 {E : Nat → Value} {d : Nat} {st : List Value} {h : gm_H} {r : gm_R × gm_H}  {x : Nat} : gm_Go E d 99 26 [.ref x] st h r ↔ gm_Go E d 99 27 [.ref x] (.ref x :: st) h r := gr_loc m99 f99_26 rfl rfl
theorem r99_26n {E : Nat → Value} {d : Nat} {st : List Value} {h : gm_H} {r : gm_R × gm_H}   : gm_Go E d 99 26 [.null] st h r ↔ gm_Go E d 99 27 [.null] (.null :: st) h r := gr_loc m99 f99_26 rfl rfl
theorem f99_27 : gm_ft 99 27 = some (.dup, 1) := by decide +kernel
theorem r99_27 {E : Nat → Value} {d : Nat} {st : List Value} {h : gm_H} {r : gm_R × gm_H} {lv : List Value} {a : Nat} : gm_Go E d 99 27 lv (.ref a :: st) h r ↔ gm_Go E d 99 28 lv (.ref a :: .ref a :: st) h r := gr_pure m99 f99_27 rfl
theorem r99_27i {E : Nat → Value} {d : Nat} {st : List Value} {h : gm_H} {r : gm_R × gm_H} {lv : List Value} {x : Int32} : gm_Go E d 99 27 lv (.int x :: st) h r ↔ gm_Go E d 99 28 lv (.int x :: .int x :: st) h r := gr_pure m99 f99_27 rfl
theorem f99_28 : gm_ft 99 28 = some (.getfield 148, 3) := by decide +kernel
theorem r99_28 {E : Nat → Value} {d : Nat} {st : List Value} {h : gm_H} {r : gm_R × gm_H} {lv : List Value} {a : Nat} {vs : List Value} {v : Value} (hr : gm_rd h a = some (5, vs)) (hv : vs[6]? = some v) : gm_Go E d 99 28 lv (.ref a :: st) h r ↔ gm_Go E d 99 31 lv (v :: st) h r := gr_rd m99 f99_28 rfl rfl rfl rfl (gf_get k5_148 hr hv)
theorem f99_31 : gm_ft 99 31 = some (.iconst 1, 1) := by decide +kernel
theorem r99_31 {E : Nat → Value} {d : Nat} {st : List Value} {h : gm_H} {r : gm_R × gm_H} {lv : List Value} : gm_Go E d 99 31 lv st h r ↔ gm_Go E d 99 32 lv (.int (1 : Int32) :: st) h r := gr_pure m99 f99_31 rfl
theorem f99_32 : gm_ft 99 32 = some (.iadd, 1) := by decide +kernel
theorem r99_32 {E : Nat → Value} {d : Nat} {st : List Value} {h : gm_H} {r : gm_R × gm_H} {lv : List Value} {x y : Int32} : gm_Go E d 99 32 lv (.int y :: .int x :: st) h r ↔ gm_Go E d 99 33 lv (.int (x + y) :: st) h r := gr_pure m99 f99_32 rfl
theorem f99_33 : gm_ft 99 33 = some (.putfield 148, 3) := by decide +kernel
theorem r99_33 {E : Nat → Value} {d : Nat} {st : List Value} {h : gm_H} {r : gm_R × gm_H} {lv : List Value} {a : Nat} {vs : List Value} {v : Value} (hr : gm_rd h a = some (5, vs)) (hk : 6 < vs.length) (hn : narrow (gm_ty 5 6) v = v ∧ fits (gm_ty 5 6) v = true) : gm_Go E d 99 33 lv (v :: .ref a :: st) h r ↔ gm_Go E d 99 36 lv st (gm_wr h a (5, vs.set 6 v)) r := gr_wr m99 f99_33 rfl rfl rfl rfl rfl (gf_put k5_148 hr (by decide) hk hn (by decide))
theorem f99_36 : gm_ft 99 36 = some (.aload_n 0, 1) := by decide +kernel
theorem r99_36 {E : Nat → Value} {d : Nat} {st : List Value} {h : gm_H} {r : gm_R × gm_H}  {x : Nat} : gm_Go E d 99 36 [.ref x] st h r ↔ gm_Go E d 99 37 [.ref x] (.ref x :: st) h r := gr_loc m99 f99_36 rfl rfl
theorem r99_36n {E : Nat → Value} {d : Nat} {st : List Value} {h : gm_H} {r : gm_R × gm_H}   : gm_Go E d 99 36 [.null] st h r ↔ gm_Go E d 99 37 [.null] (.null :: st) h r := gr_loc m99 f99_36 rfl rfl
theorem f99_37 : gm_ft 99 37 = some (.getfield 7, 3) := by decide +kernel
theorem r99_37 {E : Nat → Value} {d : Nat} {st : List Value} {h : gm_H} {r : gm_R × gm_H} {lv : List Value} {a : Nat} {vs : List Value} {v : Value} (hr : gm_rd h a = some (5, vs)) (hv : vs[4]? = some v) : gm_Go E d 99 37 lv (.ref a :: st) h r ↔ gm_Go E d 99 40 lv (v :: st) h r := gr_rd m99 f99_37 rfl rfl rfl rfl (gf_get k5_7 hr hv)
theorem f99_40 : gm_ft 99 40 = some (.aload_n 0, 1) := by decide +kernel
theorem r99_40 {E : Nat → Value} {d : Nat} {st : List Value} {h : gm_H} {r : gm_R × gm_H}  {x : Nat} : gm_Go E d 99 40 [.ref x] st h r ↔ gm_Go E d 99 41 [.ref x] (.ref x :: st) h r := gr_loc m99 f99_40 rfl rfl
theorem r99_40n {E : Nat → Value} {d : Nat} {st : List Value} {h : gm_H} {r : gm_R × gm_H}   : gm_Go E d 99 40 [.null] st h r ↔ gm_Go E d 99 41 [.null] (.null :: st) h r := gr_loc m99 f99_40 rfl rfl
theorem f99_41 : gm_ft 99 41 = some (.getfield 148, 3) := by decide +kernel
theorem r99_41 {E : Nat → Value} {d : Nat} {st : List Value} {h : gm_H} {r : gm_R × gm_H} {lv : List Value} {a : Nat} {vs : List Value} {v : Value} (hr : gm_rd h a = some (5, vs)) (hv : vs[6]? = some v) : gm_Go E d 99 41 lv (.ref a :: st) h r ↔ gm_Go E d 99 44 lv (v :: st) h r := gr_rd m99 f99_41 rfl rfl rfl rfl (gf_get k5_148 hr hv)
theorem f99_44 : gm_ft 99 44 = some (.iconst 1, 1) := by decide +kernel
theorem r99_44 {E : Nat → Value} {d : Nat} {st : List Value} {h : gm_H} {r : gm_R × gm_H} {lv : List Value} : gm_Go E d 99 44 lv st h r ↔ gm_Go E d 99 45 lv (.int (1 : Int32) :: st) h r := gr_pure m99 f99_44 rfl
theorem f99_45 : gm_ft 99 45 = some (.isub, 1) := by decide +kernel
theorem r99_45 {E : Nat → Value} {d : Nat} {st : List Value} {h : gm_H} {r : gm_R × gm_H} {lv : List Value} {x y : Int32} : gm_Go E d 99 45 lv (.int y :: .int x :: st) h r ↔ gm_Go E d 99 46 lv (.int (x - y) :: st) h r := gr_pure m99 f99_45 rfl
theorem f99_46 : gm_ft 99 46 = some (.iaload, 1) := by decide +kernel
theorem r99_46 {E : Nat → Value} {d : Nat} {st : List Value} {h : gm_H} {r : gm_R × gm_H} {lv : List Value} {a k j : Nat} {vs : List Value} {v : Value} (hr : gm_rd h a = some (k, vs)) (hk : 100 ≤ k ∧ (fun t => t == 0) (k % 100) = true) (hj : j < 2 ^ 31) (hv : vs[j]? = some v) : gm_Go E d 99 46 lv (.int (nI j) :: .ref a :: st) h r ↔ gm_Go E d 99 47 lv (v :: st) h r := gr_rd m99 f99_46 rfl rfl rfl rfl (ga_ld (P := fun t => t == 0) hr hk hj hv)
theorem f99_47 : gm_ft 99 47 = some (.ireturn, 1) := by decide +kernel
theorem r99_47 {E : Nat → Value} {d : Nat} {h : gm_H} {r : gm_R × gm_H} {lv : List Value} {x : Int32} : gm_Go E d 99 47 lv [.int x] h r ↔ r = (.inl (some (.int x)), h) := gr_ret m99 f99_47 rfl rfl rfl rfl rfl rfl rfl rfl (by unfold gm_rt; dsimp only; rw [if_pos ⟨rfl, rfl⟩])
/-! GraphReaderModel.read()I -/
theorem m100 : gm_mt[100]? = some (⟨"GraphReaderModel", "read", "()I"⟩, prog_7_method_45_code, 7, (some .int), [], 5, 2) := rfl
theorem f100_0 : gm_ft 100 0 = some (.aload_n 0, 1) := by decide +kernel
theorem r100_0 {E : Nat → Value} {d : Nat} {st : List Value} {h : gm_H} {r : gm_R × gm_H} {a1 a2 a3 a4 a5 a6 : Value} {x : Nat} : gm_Go E d 100 0 [.ref x, a1, a2, a3, a4, a5, a6] st h r ↔ gm_Go E d 100 1 [.ref x, a1, a2, a3, a4, a5, a6] (.ref x :: st) h r := gr_loc m100 f100_0 rfl rfl
theorem r100_0n {E : Nat → Value} {d : Nat} {st : List Value} {h : gm_H} {r : gm_R × gm_H} {a1 a2 a3 a4 a5 a6 : Value}  : gm_Go E d 100 0 [.null, a1, a2, a3, a4, a5, a6] st h r ↔ gm_Go E d 100 1 [.null, a1, a2, a3, a4, a5, a6] (.null :: st) h r := gr_loc m100 f100_0 rfl rfl
theorem f100_1 : gm_ft 100 1 = some (.getfield 172, 3) := by decide +kernel
theorem r100_1 {E : Nat → Value} {d : Nat} {st : List Value} {h : gm_H} {r : gm_R × gm_H} {lv : List Value} {a : Nat} {vs : List Value} {v : Value} (hr : gm_rd h a = some (5, vs)) (hv : vs[7]? = some v) : gm_Go E d 100 1 lv (.ref a :: st) h r ↔ gm_Go E d 100 4 lv (v :: st) h r := gr_rd m100 f100_1 rfl rfl rfl rfl (gf_get k5_172 hr hv)
theorem f100_4 : gm_ft 100 4 = some (.ifCond .eq 8, 3) := by decide +kernel
theorem r100_4 {E : Nat → Value} {d : Nat} {st : List Value} {h : gm_H} {r : gm_R × gm_H} {lv : List Value} {x : Int32} : gm_Go E d 100 4 lv (.int x :: st) h r ↔ (if x = 0 then gm_Go E d 100 12 lv st h r else gm_Go E d 100 7 lv st h r) := (gr_br m100 f100_4 rfl rfl rfl rfl).trans gr_if
theorem f100_7 : gm_ft 100 7 = some (.aload_n 0, 1) := by decide +kernel
theorem r100_7 {E : Nat → Value} {d : Nat} {st : List Value} {h : gm_H} {r : gm_R × gm_H} {a1 a2 a3 a4 a5 a6 : Value} {x : Nat} : gm_Go E d 100 7 [.ref x, a1, a2, a3, a4, a5, a6] st h r ↔ gm_Go E d 100 8 [.ref x, a1, a2, a3, a4, a5, a6] (.ref x :: st) h r := gr_loc m100 f100_7 rfl rfl
theorem r100_7n {E : Nat → Value} {d : Nat} {st : List Value} {h : gm_H} {r : gm_R × gm_H} {a1 a2 a3 a4 a5 a6 : Value}  : gm_Go E d 100 7 [.null, a1, a2, a3, a4, a5, a6] st h r ↔ gm_Go E d 100 8 [.null, a1, a2, a3, a4, a5, a6] (.null :: st) h r := gr_loc m100 f100_7 rfl rfl
theorem f100_8 : gm_ft 100 8 = some (.getfield 172, 3) := by decide +kernel
theorem r100_8 {E : Nat → Value} {d : Nat} {st : List Value} {h : gm_H} {r : gm_R × gm_H} {lv : List Value} {a : Nat} {vs : List Value} {v : Value} (hr : gm_rd h a = some (5, vs)) (hv : vs[7]? = some v) : gm_Go E d 100 8 lv (.ref a :: st) h r ↔ gm_Go E d 100 11 lv (v :: st) h r := gr_rd m100 f100_8 rfl rfl rfl rfl (gf_get k5_172 hr hv)
theorem f100_11 : gm_ft 100 11 = some (.ireturn, 1) := by decide +kernel
theorem r100_11 {E : Nat → Value} {d : Nat} {h : gm_H} {r : gm_R × gm_H} {lv : List Value} {x : Int32} : gm_Go E d 100 11 lv [.int x] h r ↔ r = (.inl (some (.int x)), h) := gr_ret m100 f100_11 rfl rfl rfl rfl rfl rfl rfl rfl (by unfold gm_rt; dsimp only; rw [if_pos ⟨rfl, rfl⟩])
theorem f100_12 : gm_ft 100 12 = some (.aload_n 0, 1) := by decide +kernel
theorem r100_12 {E : Nat → Value} {d : Nat} {st : List Value} {h : gm_H} {r : gm_R × gm_H} {a1 a2 a3 a4 a5 a6 : Value} {x : Nat} : gm_Go E d 100 12 [.ref x, a1, a2, a3, a4, a5, a6] st h r ↔ gm_Go E d 100 13 [.ref x, a1, a2, a3, a4, a5, a6] (.ref x :: st) h r := gr_loc m100 f100_12 rfl rfl
theorem r100_12n {E : Nat → Value} {d : Nat} {st : List Value} {h : gm_H} {r : gm_R × gm_H} {a1 a2 a3 a4 a5 a6 : Value}  : gm_Go E d 100 12 [.null, a1, a2, a3, a4, a5, a6] st h r ↔ gm_Go E d 100 13 [.null, a1, a2, a3, a4, a5, a6] (.null :: st) h r := gr_loc m100 f100_12 rfl rfl
theorem f100_13 : gm_ft 100 13 = some (.getfield 148, 3) := by decide +kernel
theorem r100_13 {E : Nat → Value} {d : Nat} {st : List Value} {h : gm_H} {r : gm_R × gm_H} {lv : List Value} {a : Nat} {vs : List Value} {v : Value} (hr : gm_rd h a = some (5, vs)) (hv : vs[6]? = some v) : gm_Go E d 100 13 lv (.ref a :: st) h r ↔ gm_Go E d 100 16 lv (v :: st) h r := gr_rd m100 f100_13 rfl rfl rfl rfl (gf_get k5_148 hr hv)
theorem f100_16 : gm_ft 100 16 = some (.istore_n 1, 1) := by decide +kernel
theorem r100_16 {E : Nat → Value} {d : Nat} {st : List Value} {h : gm_H} {r : gm_R × gm_H} {a0 a1 a2 a3 a4 a5 a6 : Value} {x : Int32} : gm_Go E d 100 16 [a0, a1, a2, a3, a4, a5, a6] (.int x :: st) h r ↔ gm_Go E d 100 17 [gm_k a0, .int x, a2, a3, a4, a5, a6] st h r := gr_loc m100 f100_16 rfl rfl
theorem f100_17 : gm_ft 100 17 = some (.aload_n 0, 1) := by decide +kernel
theorem r100_17 {E : Nat → Value} {d : Nat} {st : List Value} {h : gm_H} {r : gm_R × gm_H} {a1 a2 a3 a4 a5 a6 : Value} {x : Nat} : gm_Go E d 100 17 [.ref x, a1, a2, a3, a4, a5, a6] st h r ↔ gm_Go E d 100 18 [.ref x, a1, a2, a3, a4, a5, a6] (.ref x :: st) h r := gr_loc m100 f100_17 rfl rfl
theorem r100_17n {E : Nat → Value} {d : Nat} {st : List Value} {h : gm_H} {r : gm_R × gm_H} {a1 a2 a3 a4 a5 a6 : Value}  : gm_Go E d 100 17 [.null, a1, a2, a3, a4, a5, a6] st h r ↔ gm_Go E d 100 18 [.null, a1, a2, a3, a4, a5, a6] (.null :: st) h r := gr_loc m100 f100_17 rfl rfl
theorem f100_18 : gm_ft 100 18 = some (.getfield 139, 3) := by decide +kernel
theorem r100_18 {E : Nat → Value} {d : Nat} {st : List Value} {h : gm_H} {r : gm_R × gm_H} {lv : List Value} {a : Nat} {vs : List Value} {v : Value} (hr : gm_rd h a = some (5, vs)) (hv : vs[23]? = some v) : gm_Go E d 100 18 lv (.ref a :: st) h r ↔ gm_Go E d 100 21 lv (v :: st) h r := gr_rd m100 f100_18 rfl rfl rfl rfl (gf_get k5_139 hr hv)
theorem f100_21 : gm_ft 100 21 = some (.istore_n 2, 1) := by decide +kernel
theorem r100_21 {E : Nat → Value} {d : Nat} {st : List Value} {h : gm_H} {r : gm_R × gm_H} {a0 a1 a2 a3 a4 a5 a6 : Value} {x : Int32} : gm_Go E d 100 21 [a0, a1, a2, a3, a4, a5, a6] (.int x :: st) h r ↔ gm_Go E d 100 22 [a0, gm_k a1, .int x, a3, a4, a5, a6] st h r := gr_loc m100 f100_21 rfl rfl
theorem f100_22 : gm_ft 100 22 = some (.aload_n 0, 1) := by decide +kernel
theorem r100_22 {E : Nat → Value} {d : Nat} {st : List Value} {h : gm_H} {r : gm_R × gm_H} {a1 a2 a3 a4 a5 a6 : Value} {x : Nat} : gm_Go E d 100 22 [.ref x, a1, a2, a3, a4, a5, a6] st h r ↔ gm_Go E d 100 23 [.ref x, a1, a2, a3, a4, a5, a6] (.ref x :: st) h r := gr_loc m100 f100_22 rfl rfl
theorem r100_22n {E : Nat → Value} {d : Nat} {st : List Value} {h : gm_H} {r : gm_R × gm_H} {a1 a2 a3 a4 a5 a6 : Value}  : gm_Go E d 100 22 [.null, a1, a2, a3, a4, a5, a6] st h r ↔ gm_Go E d 100 23 [.null, a1, a2, a3, a4, a5, a6] (.null :: st) h r := gr_loc m100 f100_22 rfl rfl
theorem f100_23 : gm_ft 100 23 = some (.getfield 163, 3) := by decide +kernel
theorem r100_23 {E : Nat → Value} {d : Nat} {st : List Value} {h : gm_H} {r : gm_R × gm_H} {lv : List Value} {a : Nat} {vs : List Value} {v : Value} (hr : gm_rd h a = some (5, vs)) (hv : vs[25]? = some v) : gm_Go E d 100 23 lv (.ref a :: st) h r ↔ gm_Go E d 100 26 lv (v :: st) h r := gr_rd m100 f100_23 rfl rfl rfl rfl (gf_get k5_163 hr hv)
theorem f100_26 : gm_ft 100 26 = some (.istore_n 3, 1) := by decide +kernel
theorem r100_26 {E : Nat → Value} {d : Nat} {st : List Value} {h : gm_H} {r : gm_R × gm_H} {a0 a1 a2 a3 a4 a5 a6 : Value} {x : Int32} : gm_Go E d 100 26 [a0, a1, a2, a3, a4, a5, a6] (.int x :: st) h r ↔ gm_Go E d 100 27 [a0, a1, gm_k a2, .int x, a4, a5, a6] st h r := gr_loc m100 f100_26 rfl rfl
theorem f100_27 : gm_ft 100 27 = some (.aload_n 0, 1) := by decide +kernel
theorem r100_27 {E : Nat → Value} {d : Nat} {st : List Value} {h : gm_H} {r : gm_R × gm_H} {a1 a2 a3 a4 a5 a6 : Value} {x : Nat} : gm_Go E d 100 27 [.ref x, a1, a2, a3, a4, a5, a6] st h r ↔ gm_Go E d 100 28 [.ref x, a1, a2, a3, a4, a5, a6] (.ref x :: st) h r := gr_loc m100 f100_27 rfl rfl
theorem r100_27n {E : Nat → Value} {d : Nat} {st : List Value} {h : gm_H} {r : gm_R × gm_H} {a1 a2 a3 a4 a5 a6 : Value}  : gm_Go E d 100 27 [.null, a1, a2, a3, a4, a5, a6] st h r ↔ gm_Go E d 100 28 [.null, a1, a2, a3, a4, a5, a6] (.null :: st) h r := gr_loc m100 f100_27 rfl rfl
theorem f100_28 : gm_ft 100 28 = some (.getfield 166, 3) := by decide +kernel
theorem r100_28 {E : Nat → Value} {d : Nat} {st : List Value} {h : gm_H} {r : gm_R × gm_H} {lv : List Value} {a : Nat} {vs : List Value} {v : Value} (hr : gm_rd h a = some (5, vs)) (hv : vs[28]? = some v) : gm_Go E d 100 28 lv (.ref a :: st) h r ↔ gm_Go E d 100 31 lv (v :: st) h r := gr_rd m100 f100_28 rfl rfl rfl rfl (gf_get k5_166 hr hv)
theorem f100_31 : gm_ft 100 31 = some (.istore 4, 2) := by decide +kernel
theorem r100_31 {E : Nat → Value} {d : Nat} {st : List Value} {h : gm_H} {r : gm_R × gm_H} {a0 a1 a2 a3 a4 a5 a6 : Value} {x : Int32} : gm_Go E d 100 31 [a0, a1, a2, a3, a4, a5, a6] (.int x :: st) h r ↔ gm_Go E d 100 33 [a0, a1, a2, gm_k a3, .int x, a5, a6] st h r := gr_loc m100 f100_31 rfl rfl
theorem f100_33 : gm_ft 100 33 = some (.aload_n 0, 1) := by decide +kernel
theorem r100_33 {E : Nat → Value} {d : Nat} {st : List Value} {h : gm_H} {r : gm_R × gm_H} {a1 a2 a3 a4 a5 a6 : Value} {x : Nat} : gm_Go E d 100 33 [.ref x, a1, a2, a3, a4, a5, a6] st h r ↔ gm_Go E d 100 34 [.ref x, a1, a2, a3, a4, a5, a6] (.ref x :: st) h r := gr_loc m100 f100_33 rfl rfl
theorem r100_33n {E : Nat → Value} {d : Nat} {st : List Value} {h : gm_H} {r : gm_R × gm_H} {a1 a2 a3 a4 a5 a6 : Value}  : gm_Go E d 100 33 [.null, a1, a2, a3, a4, a5, a6] st h r ↔ gm_Go E d 100 34 [.null, a1, a2, a3, a4, a5, a6] (.null :: st) h r := gr_loc m100 f100_33 rfl rfl
theorem f100_34 : gm_ft 100 34 = some (.getfield 169, 3) := by decide +kernel
theorem r100_34 {E : Nat → Value} {d : Nat} {st : List Value} {h : gm_H} {r : gm_R × gm_H} {lv : List Value} {a : Nat} {vs : List Value} {v : Value} (hr : gm_rd h a = some (5, vs)) (hv : vs[39]? = some v) : gm_Go E d 100 34 lv (.ref a :: st) h r ↔ gm_Go E d 100 37 lv (v :: st) h r := gr_rd m100 f100_34 rfl rfl rfl rfl (gf_get k5_169 hr hv)
theorem f100_37 : gm_ft 100 37 = some (.istore 5, 2) := by decide +kernel
theorem r100_37 {E : Nat → Value} {d : Nat} {st : List Value} {h : gm_H} {r : gm_R × gm_H} {a0 a1 a2 a3 a4 a5 a6 : Value} {x : Int32} : gm_Go E d 100 37 [a0, a1, a2, a3, a4, a5, a6] (.int x :: st) h r ↔ gm_Go E d 100 39 [a0, a1, a2, a3, gm_k a4, .int x, a6] st h r := gr_loc m100 f100_37 rfl rfl
theorem f100_39 : gm_ft 100 39 = some (.iconst 0, 1) := by decide +kernel
theorem r100_39 {E : Nat → Value} {d : Nat} {st : List Value} {h : gm_H} {r : gm_R × gm_H} {lv : List Value} : gm_Go E d 100 39 lv st h r ↔ gm_Go E d 100 40 lv (.int (0 : Int32) :: st) h r := gr_pure m100 f100_39 rfl
theorem f100_40 : gm_ft 100 40 = some (.istore 6, 2) := by decide +kernel
theorem r100_40 {E : Nat → Value} {d : Nat} {st : List Value} {h : gm_H} {r : gm_R × gm_H} {a0 a1 a2 a3 a4 a5 a6 : Value} {x : Int32} : gm_Go E d 100 40 [a0, a1, a2, a3, a4, a5, a6] (.int x :: st) h r ↔ gm_Go E d 100 42 [a0, a1, a2, a3, a4, gm_k a5, .int x] st h r := gr_loc m100 f100_40 rfl rfl
theorem f100_42 : gm_ft 100 42 = some (.iload 6, 2) := by decide +kernel
theorem r100_42 {E : Nat → Value} {d : Nat} {st : List Value} {h : gm_H} {r : gm_R × gm_H} {a0 a1 a2 a3 a4 a5 : Value} {x : Int32} : gm_Go E d 100 42 [a0, a1, a2, a3, a4, a5, .int x] st h r ↔ gm_Go E d 100 44 [a0, a1, a2, a3, a4, a5, .int x] (.int x :: st) h r := gr_loc m100 f100_42 rfl rfl
theorem f100_44 : gm_ft 100 44 = some (.aload_n 0, 1) := by decide +kernel
theorem r100_44 {E : Nat → Value} {d : Nat} {st : List Value} {h : gm_H} {r : gm_R × gm_H} {a1 a2 a3 a4 a5 a6 : Value} {x : Nat} : gm_Go E d 100 44 [.ref x, a1, a2, a3, a4, a5, a6] st h r ↔ gm_Go E d 100 45 [.ref x, a1, a2, a3, a4, a5, a6] (.ref x :: st) h r := gr_loc m100 f100_44 rfl rfl
theorem r100_44n {E : Nat → Value} {d : Nat} {st : List Value} {h : gm_H} {r : gm_R × gm_H} {a1 a2 a3 a4 a5 a6 : Value}  : gm_Go E d 100 44 [.null, a1, a2, a3, a4, a5, a6] st h r ↔ gm_Go E d 100 45 [.null, a1, a2, a3, a4, a5, a6] (.null :: st) h r := gr_loc m100 f100_44 rfl rfl
theorem f100_45 : gm_ft 100 45 = some (.getfield 166, 3) := by decide +kernel
theorem r100_45 {E : Nat → Value} {d : Nat} {st : List Value} {h : gm_H} {r : gm_R × gm_H} {lv : List Value} {a : Nat} {vs : List Value} {v : Value} (hr : gm_rd h a = some (5, vs)) (hv : vs[28]? = some v) : gm_Go E d 100 45 lv (.ref a :: st) h r ↔ gm_Go E d 100 48 lv (v :: st) h r := gr_rd m100 f100_45 rfl rfl rfl rfl (gf_get k5_166 hr hv)
theorem f100_48 : gm_ft 100 48 = some (.if_icmp .ge 37, 3) := by decide +kernel
theorem r100_48 {E : Nat → Value} {d : Nat} {st : List Value} {h : gm_H} {r : gm_R × gm_H} {lv : List Value} {x y : Int32} : gm_Go E d 100 48 lv (.int y :: .int x :: st) h r ↔ (if y ≤ x then gm_Go E d 100 85 lv st h r else gm_Go E d 100 51 lv st h r) := (gr_br m100 f100_48 rfl rfl rfl rfl).trans gr_if
theorem f100_51 : gm_ft 100 51 = some (.aload_n 0, 1) := by decide +kernel
theorem r100_51 {E : Nat → Value} {d : Nat} {st : List Value} {h : gm_H} {r : gm_R × gm_H} {a1 a2 a3 a4 a5 a6 : Value} {x : Nat} : gm_Go E d 100 51 [.ref x, a1, a2, a3, a4, a5, a6] st h r ↔ gm_Go E d 100 52 [.ref x, a1, a2, a3, a4, a5, a6] (.ref x :: st) h r := gr_loc m100 f100_51 rfl rfl
theorem r100_51n {E : Nat → Value} {d : Nat} {st : List Value} {h : gm_H} {r : gm_R × gm_H} {a1 a2 a3 a4 a5 a6 : Value}  : gm_Go E d 100 51 [.null, a1, a2, a3, a4, a5, a6] st h r ↔ gm_Go E d 100 52 [.null, a1, a2, a3, a4, a5, a6] (.null :: st) h r := gr_loc m100 f100_51 rfl rfl
theorem f100_52 : gm_ft 100 52 = some (.getfield 63, 3) := by decide +kernel
theorem r100_52 {E : Nat → Value} {d : Nat} {st : List Value} {h : gm_H} {r : gm_R × gm_H} {lv : List Value} {a : Nat} {vs : List Value} {v : Value} (hr : gm_rd h a = some (5, vs)) (hv : vs[29]? = some v) : gm_Go E d 100 52 lv (.ref a :: st) h r ↔ gm_Go E d 100 55 lv (v :: st) h r := gr_rd m100 f100_52 rfl rfl rfl rfl (gf_get k5_63 hr hv)
theorem f100_55 : gm_ft 100 55 = some (.iload 6, 2) := by decide +kernel
theorem r100_55 {E : Nat → Value} {d : Nat} {st : List Value} {h : gm_H} {r : gm_R × gm_H} {a0 a1 a2 a3 a4 a5 : Value} {x : Int32} : gm_Go E d 100 55 [a0, a1, a2, a3, a4, a5, .int x] st h r ↔ gm_Go E d 100 57 [a0, a1, a2, a3, a4, a5, .int x] (.int x :: st) h r := gr_loc m100 f100_55 rfl rfl
theorem f100_57 : gm_ft 100 57 = some (.aload_n 0, 1) := by decide +kernel
theorem r100_57 {E : Nat → Value} {d : Nat} {st : List Value} {h : gm_H} {r : gm_R × gm_H} {a1 a2 a3 a4 a5 a6 : Value} {x : Nat} : gm_Go E d 100 57 [.ref x, a1, a2, a3, a4, a5, a6] st h r ↔ gm_Go E d 100 58 [.ref x, a1, a2, a3, a4, a5, a6] (.ref x :: st) h r := gr_loc m100 f100_57 rfl rfl
theorem r100_57n {E : Nat → Value} {d : Nat} {st : List Value} {h : gm_H} {r : gm_R × gm_H} {a1 a2 a3 a4 a5 a6 : Value}  : gm_Go E d 100 57 [.null, a1, a2, a3, a4, a5, a6] st h r ↔ gm_Go E d 100 58 [.null, a1, a2, a3, a4, a5, a6] (.null :: st) h r := gr_loc m100 f100_57 rfl rfl
theorem f100_58 : gm_ft 100 58 = some (.getfield 57, 3) := by decide +kernel
theorem r100_58 {E : Nat → Value} {d : Nat} {st : List Value} {h : gm_H} {r : gm_R × gm_H} {lv : List Value} {a : Nat} {vs : List Value} {v : Value} (hr : gm_rd h a = some (5, vs)) (hv : vs[26]? = some v) : gm_Go E d 100 58 lv (.ref a :: st) h r ↔ gm_Go E d 100 61 lv (v :: st) h r := gr_rd m100 f100_58 rfl rfl rfl rfl (gf_get k5_57 hr hv)
theorem f100_61 : gm_ft 100 61 = some (.iload 6, 2) := by decide +kernel
theorem r100_61 {E : Nat → Value} {d : Nat} {st : List Value} {h : gm_H} {r : gm_R × gm_H} {a0 a1 a2 a3 a4 a5 : Value} {x : Int32} : gm_Go E d 100 61 [a0, a1, a2, a3, a4, a5, .int x] st h r ↔ gm_Go E d 100 63 [a0, a1, a2, a3, a4, a5, .int x] (.int x :: st) h r := gr_loc m100 f100_61 rfl rfl
theorem f100_63 : gm_ft 100 63 = some (.iaload, 1) := by decide +kernel
theorem r100_63 {E : Nat → Value} {d : Nat} {st : List Value} {h : gm_H} {r : gm_R × gm_H} {lv : List Value} {a k j : Nat} {vs : List Value} {v : Value} (hr : gm_rd h a = some (k, vs)) (hk : 100 ≤ k ∧ (fun t => t == 0) (k % 100) = true) (hj : j < 2 ^ 31) (hv : vs[j]? = some v) : gm_Go E d 100 63 lv (.int (nI j) :: .ref a :: st) h r ↔ gm_Go E d 100 64 lv (v :: st) h r := gr_rd m100 f100_63 rfl rfl rfl rfl (ga_ld (P := fun t => t == 0) hr hk hj hv)
theorem f100_64 : gm_ft 100 64 = some (.iastore, 1) := by decide +kernel
theorem r100_64 {E : Nat → Value} {d : Nat} {st : List Value} {h : gm_H} {r : gm_R × gm_H} {lv : List Value} {a k j : Nat} {vs : List Value} {x : Int32} (hr : gm_rd h a = some (k, vs)) (hk : 100 ≤ k ∧ k % 100 = 0 ∧ gm_ko k = 2 ∧ 2 < 3) (hj : j < 2 ^ 31) (hl : j < vs.length) : gm_Go E d 100 64 lv (.int x :: .int (nI j) :: .ref a :: st) h r ↔ gm_Go E d 100 65 lv st (gm_wr h a (k, vs.set j (.int x))) r := gr_wr m100 f100_64 rfl rfl rfl rfl rfl (ga_st hr hk hj hl)
theorem f100_65 : gm_ft 100 65 = some (.aload_n 0, 1) := by decide +kernel
theorem r100_65 {E : Nat → Value} {d : Nat} {st : List Value} {h : gm_H} {r : gm_R × gm_H} {a1 a2 a3 a4 a5 a6 : Value} {x : Nat} : gm_Go E d 100 65 [.ref x, a1, a2, a3, a4, a5, a6] st h r ↔ gm_Go E d 100 66 [.ref x, a1, a2, a3, a4, a5, a6] (.ref x :: st) h r := gr_loc m100 f100_65 rfl rfl
theorem r100_65n {E : Nat → Value} {d : Nat} {st : List Value} {h : gm_H} {r : gm_R × gm_H} {a1 a2 a3 a4 a5 a6 : Value}  : gm_Go E d 100 65 [.null, a1, a2, a3, a4, a5, a6] st h r ↔ gm_Go E d 100 66 [.null, a1, a2, a3, a4, a5, a6] (.null :: st) h r := gr_loc m100 f100_65 rfl rfl
theorem f100_66 : gm_ft 100 66 = some (.getfield 66, 3) := by decide +kernel
theorem r100_66 {E : Nat → Value} {d : Nat} {st : List Value} {h : gm_H} {r : gm_R × gm_H} {lv : List Value} {a : Nat} {vs : List Value} {v : Value} (hr : gm_rd h a = some (5, vs)) (hv : vs[30]? = some v) : gm_Go E d 100 66 lv (.ref a :: st) h r ↔ gm_Go E d 100 69 lv (v :: st) h r := gr_rd m100 f100_66 rfl rfl rfl rfl (gf_get k5_66 hr hv)
theorem f100_69 : gm_ft 100 69 = some (.iload 6, 2) := by decide +kernel
theorem r100_69 {E : Nat → Value} {d : Nat} {st : List Value} {h : gm_H} {r : gm_R × gm_H} {a0 a1 a2 a3 a4 a5 : Value} {x : Int32} : gm_Go E d 100 69 [a0, a1, a2, a3, a4, a5, .int x] st h r ↔ gm_Go E d 100 71 [a0, a1, a2, a3, a4, a5, .int x] (.int x :: st) h r := gr_loc m100 f100_69 rfl rfl
theorem f100_71 : gm_ft 100 71 = some (.aload_n 0, 1) := by decide +kernel
theorem r100_71 {E : Nat → Value} {d : Nat} {st : List Value} {h : gm_H} {r : gm_R × gm_H} {a1 a2 a3 a4 a5 a6 : Value} {x : Nat} : gm_Go E d 100 71 [.ref x, a1, a2, a3, a4, a5, a6] st h r ↔ gm_Go E d 100 72 [.ref x, a1, a2, a3, a4, a5, a6] (.ref x :: st) h r := gr_loc m100 f100_71 rfl rfl
theorem r100_71n {E : Nat → Value} {d : Nat} {st : List Value} {h : gm_H} {r : gm_R × gm_H} {a1 a2 a3 a4 a5 a6 : Value}  : gm_Go E d 100 71 [.null, a1, a2, a3, a4, a5, a6] st h r ↔ gm_Go E d 100 72 [.null, a1, a2, a3, a4, a5, a6] (.null :: st) h r := gr_loc m100 f100_71 rfl rfl
theorem f100_72 : gm_ft 100 72 = some (.getfield 60, 3) := by decide +kernel
theorem r100_72 {E : Nat → Value} {d : Nat} {st : List Value} {h : gm_H} {r : gm_R × gm_H} {lv : List Value} {a : Nat} {vs : List Value} {v : Value} (hr : gm_rd h a = some (5, vs)) (hv : vs[27]? = some v) : gm_Go E d 100 72 lv (.ref a :: st) h r ↔ gm_Go E d 100 75 lv (v :: st) h r := gr_rd m100 f100_72 rfl rfl rfl rfl (gf_get k5_60 hr hv)
theorem f100_75 : gm_ft 100 75 = some (.iload 6, 2) := by decide +kernel
theorem r100_75 {E : Nat → Value} {d : Nat} {st : List Value} {h : gm_H} {r : gm_R × gm_H} {a0 a1 a2 a3 a4 a5 : Value} {x : Int32} : gm_Go E d 100 75 [a0, a1, a2, a3, a4, a5, .int x] st h r ↔ gm_Go E d 100 77 [a0, a1, a2, a3, a4, a5, .int x] (.int x :: st) h r := gr_loc m100 f100_75 rfl rfl
theorem f100_77 : gm_ft 100 77 = some (.iaload, 1) := by decide +kernel
theorem r100_77 {E : Nat → Value} {d : Nat} {st : List Value} {h : gm_H} {r : gm_R × gm_H} {lv : List Value} {a k j : Nat} {vs : List Value} {v : Value} (hr : gm_rd h a = some (k, vs)) (hk : 100 ≤ k ∧ (fun t => t == 0) (k % 100) = true) (hj : j < 2 ^ 31) (hv : vs[j]? = some v) : gm_Go E d 100 77 lv (.int (nI j) :: .ref a :: st) h r ↔ gm_Go E d 100 78 lv (v :: st) h r := gr_rd m100 f100_77 rfl rfl rfl rfl (ga_ld (P := fun t => t == 0) hr hk hj hv)
theorem f100_78 : gm_ft 100 78 = some (.iastore, 1) := by decide +kernel
theorem r100_78 {E : Nat → Value} {d : Nat} {st : List Value} {h : gm_H} {r : gm_R × gm_H} {lv : List Value} {a k j : Nat} {vs : List Value} {x : Int32} (hr : gm_rd h a = some (k, vs)) (hk : 100 ≤ k ∧ k % 100 = 0 ∧ gm_ko k = 2 ∧ 2 < 3) (hj : j < 2 ^ 31) (hl : j < vs.length) : gm_Go E d 100 78 lv (.int x :: .int (nI j) :: .ref a :: st) h r ↔ gm_Go E d 100 79 lv st (gm_wr h a (k, vs.set j (.int x))) r := gr_wr m100 f100_78 rfl rfl rfl rfl rfl (ga_st hr hk hj hl)
theorem f100_79 : gm_ft 100 79 = some (.iinc 6 1, 3) := by decide +kernel
theorem r100_79 {E : Nat → Value} {d : Nat} {st : List Value} {h : gm_H} {r : gm_R × gm_H} {a0 a1 a2 a3 a4 a5 : Value} {x : Int32} : gm_Go E d 100 79 [a0, a1, a2, a3, a4, a5, .int x] st h r ↔ gm_Go E d 100 82 [a0, a1, a2, a3, a4, gm_k a5, .int (x + (1 : Int32))] st h r := gr_loc m100 f100_79 rfl rfl
theorem f100_82 : gm_ft 100 82 = some (.goto (-40), 3) := by decide +kernel
theorem r100_82 {E : Nat → Value} {d : Nat} {st : List Value} {h : gm_H} {r : gm_R × gm_H} {lv : List Value} : gm_Go E d 100 82 lv st h r ↔ gm_Go E d 100 42 lv st h r := gr_brT m100 f100_82 rfl rfl rfl rfl
theorem f100_85 : gm_ft 100 85 = some (.aload_n 0, 1) := by decide +kernel
theorem r100_85 {E : Nat → Value} {d : Nat} {st : List Value} {h : gm_H} {r : gm_R × gm_H} {a1 a2 a3 a4 a5 a6 : Value} {x : Nat} : gm_Go E d 100 85 [.ref x, a1, a2, a3, a4, a5, a6] st h r ↔ gm_Go E d 100 86 [.ref x, a1, a2, a3, a4, a5, a6] (.ref x :: st) h r := gr_loc m100 f100_85 rfl rfl
theorem r100_85n {E : Nat → Value} {d : Nat} {st : List Value} {h : gm_H} {r : gm_R × gm_H} {a1 a2 a3 a4 a5 a6 : Value}  : gm_Go E d 100 85 [.null, a1, a2, a3, a4, a5, a6] st h r ↔ gm_Go E d 100 86 [.null, a1, a2, a3, a4, a5, a6] (.null :: st) h r := gr_loc m100 f100_85 rfl rfl
theorem f100_86 : gm_ft 100 86 = some (.iconst 0, 1) := by decide +kernel
theorem r100_86 {E : Nat → Value} {d : Nat} {st : List Value} {h : gm_H} {r : gm_R × gm_H} {lv : List Value} : gm_Go E d 100 86 lv st h r ↔ gm_Go E d 100 87 lv (.int (0 : Int32) :: st) h r := gr_pure m100 f100_86 rfl
theorem f100_87 : gm_ft 100 87 = some (.putfield 145, 3) := by decide +kernel
theorem r100_87 {E : Nat → Value} {d : Nat} {st : List Value} {h : gm_H} {r : gm_R × gm_H} {lv : List Value} {a : Nat} {vs : List Value} {v : Value} (hr : gm_rd h a = some (5, vs)) (hk : 8 < vs.length) (hn : narrow (gm_ty 5 8) v = v ∧ fits (gm_ty 5 8) v = true) : gm_Go E d 100 87 lv (v :: .ref a :: st) h r ↔ gm_Go E d 100 90 lv st (gm_wr h a (5, vs.set 8 v)) r := gr_wr m100 f100_87 rfl rfl rfl rfl rfl (gf_put k5_145 hr (by decide) hk hn (by decide))
theorem f100_90 : gm_ft 100 90 = some (.aload_n 0, 1) := by decide +kernel
theorem r100_90 {E : Nat → Value} {d : Nat} {st : List Value} {h : gm_H} {r : gm_R × gm_H} {a1 a2 a3 a4 a5 a6 : Value} {x : Nat} : gm_Go E d 100 90 [.ref x, a1, a2, a3, a4, a5, a6] st h r ↔ gm_Go E d 100 91 [.ref x, a1, a2, a3, a4, a5, a6] (.ref x :: st) h r := gr_loc m100 f100_90 rfl rfl
theorem r100_90n {E : Nat → Value} {d : Nat} {st : List Value} {h : gm_H} {r : gm_R × gm_H} {a1 a2 a3 a4 a5 a6 : Value}  : gm_Go E d 100 90 [.null, a1, a2, a3, a4, a5, a6] st h r ↔ gm_Go E d 100 91 [.null, a1, a2, a3, a4, a5, a6] (.null :: st) h r := gr_loc m100 f100_90 rfl rfl
theorem f100_91 : gm_ft 100 91 = some (.iconst 0, 1) := by decide +kernel
theorem r100_91 {E : Nat → Value} {d : Nat} {st : List Value} {h : gm_H} {r : gm_R × gm_H} {lv : List Value} : gm_Go E d 100 91 lv st h r ↔ gm_Go E d 100 92 lv (.int (0 : Int32) :: st) h r := gr_pure m100 f100_91 rfl
theorem f100_92 : gm_ft 100 92 = some (.putfield 175, 3) := by decide +kernel
theorem r100_92 {E : Nat → Value} {d : Nat} {st : List Value} {h : gm_H} {r : gm_R × gm_H} {lv : List Value} {a : Nat} {vs : List Value} {v : Value} (hr : gm_rd h a = some (5, vs)) (hk : 47 < vs.length) (hn : narrow (gm_ty 5 47) v = v ∧ fits (gm_ty 5 47) v = true) : gm_Go E d 100 92 lv (v :: .ref a :: st) h r ↔ gm_Go E d 100 95 lv st (gm_wr h a (5, vs.set 47 v)) r := gr_wr m100 f100_92 rfl rfl rfl rfl rfl (gf_put k5_175 hr (by decide) hk hn (by decide))
theorem f100_95 : gm_ft 100 95 = some (.aload_n 0, 1) := by decide +kernel
theorem r100_95 {E : Nat → Value} {d : Nat} {st : List Value} {h : gm_H} {r : gm_R × gm_H} {a1 a2 a3 a4 a5 a6 : Value} {x : Nat} : gm_Go E d 100 95 [.ref x, a1, a2, a3, a4, a5, a6] st h r ↔ gm_Go E d 100 96 [.ref x, a1, a2, a3, a4, a5, a6] (.ref x :: st) h r := gr_loc m100 f100_95 rfl rfl
theorem r100_95n {E : Nat → Value} {d : Nat} {st : List Value} {h : gm_H} {r : gm_R × gm_H} {a1 a2 a3 a4 a5 a6 : Value}  : gm_Go E d 100 95 [.null, a1, a2, a3, a4, a5, a6] st h r ↔ gm_Go E d 100 96 [.null, a1, a2, a3, a4, a5, a6] (.null :: st) h r := gr_loc m100 f100_95 rfl rfl
theorem f100_96 : gm_ft 100 96 = some (.iconst 1, 1) := by decide +kernel
theorem r100_96 {E : Nat → Value} {d : Nat} {st : List Value} {h : gm_H} {r : gm_R × gm_H} {lv : List Value} : gm_Go E d 100 96 lv st h r ↔ gm_Go E d 100 97 lv (.int (1 : Int32) :: st) h r := gr_pure m100 f100_96 rfl
theorem f100_97 : gm_ft 100 97 = some (.iconst 1, 1) := by decide +kernel
theorem r100_97 {E : Nat → Value} {d : Nat} {st : List Value} {h : gm_H} {r : gm_R × gm_H} {lv : List Value} : gm_Go E d 100 97 lv st h r ↔ gm_Go E d 100 98 lv (.int (1 : Int32) :: st) h r := gr_pure m100 f100_97 rfl
theorem f100_98 : gm_ft 100 98 = some (.iconst 0, 1) := by decide +kernel
theorem r100_98 {E : Nat → Value} {d : Nat} {st : List Value} {h : gm_H} {r : gm_R × gm_H} {lv : List Value} : gm_Go E d 100 98 lv st h r ↔ gm_Go E d 100 99 lv (.int (0 : Int32) :: st) h r := gr_pure m100 f100_98 rfl
theorem f100_99 : gm_ft 100 99 = some (.iconst 0, 1) := by decide +kernel
theorem r100_99 {E : Nat → Value} {d : Nat} {st : List Value} {h : gm_H} {r : gm_R × gm_H} {lv : List Value} : gm_Go E d 100 99 lv st h r ↔ gm_Go E d 100 100 lv (.int (0 : Int32) :: st) h r := gr_pure m100 f100_99 rfl
theorem f100_100 : gm_ft 100 100 = some (.invokevirtual 200, 3) := by decide +kernel
theorem n100_100 {st : List Value} {h : gm_H} {E : Nat → Value} {lv : List Value} {b0 b1 b2 b3 : Value} {a : Nat} (hs : (st.map fun v => v.category).sum ≤ 8) (he : (gm_en1 [.ref a, b0, b1, b2, b3]).length ≤ 5) {vs : List Value} (hr : gm_rd h a = some (5, vs)) : gm_next E 100 100 lv (b3 :: b2 :: b1 :: b0 :: .ref a :: st) h = some (.inr (.inl (0, 101, [.ref a, b0, b1, b2, b3], st))) := gn_call m100 f100_100 rfl rfl rfl rfl rfl rfl rfl (gc_virt (bs := [b3, b2, b1, b0]) (w := 856) rfl rfl rfl rfl hs he hr) (by decide)
theorem f100_103 : gm_ft 100 103 = some (.aload_n 0, 1) := by decide +kernel
theorem r100_103 {E : Nat → Value} {d : Nat} {st : List Value} {h : gm_H} {r : gm_R × gm_H} {a1 a2 a3 a4 a5 a6 : Value} {x : Nat} : gm_Go E d 100 103 [.ref x, a1, a2, a3, a4, a5, a6] st h r ↔ gm_Go E d 100 104 [.ref x, a1, a2, a3, a4, a5, a6] (.ref x :: st) h r := gr_loc m100 f100_103 rfl rfl
theorem r100_103n {E : Nat → Value} {d : Nat} {st : List Value} {h : gm_H} {r : gm_R × gm_H} {a1 a2 a3 a4 a5 a6 : Value}  : gm_Go E d 100 103 [.null, a1, a2, a3, a4, a5, a6] st h r ↔ gm_Go E d 100 104 [.null, a1, a2, a3, a4, a5, a6] (.null :: st) h r := gr_loc m100 f100_103 rfl rfl
theorem f100_104 : gm_ft 100 104 = some (.getfield 175, 3) := by decide +kernel
theorem r100_104 {E : Nat → Value} {d : Nat} {st : List Value} {h : gm_H} {r : gm_R × gm_H} {lv : List Value} {a : Nat} {vs : List Value} {v : Value} (hr : gm_rd h a = some (5, vs)) (hv : vs[47]? = some v) : gm_Go E d 100 104 lv (.ref a :: st) h r ↔ gm_Go E d 100 107 lv (v :: st) h r := gr_rd m100 f100_104 rfl rfl rfl rfl (gf_get k5_175 hr hv)
theorem f100_107 : gm_ft 100 107 = some (.ifCond .le 17, 3) := by decide +kernel
theorem r100_107 {E : Nat → Value} {d : Nat} {st : List Value} {h : gm_H} {r : gm_R × gm_H} {lv : List Value} {x : Int32} : gm_Go E d 100 107 lv (.int x :: st) h r ↔ (if x ≤ 0 then gm_Go E d 100 124 lv st h r else gm_Go E d 100 110 lv st h r) := (gr_br m100 f100_107 rfl rfl rfl rfl).trans gr_if
theorem f100_110 : gm_ft 100 110 = some (.aload_n 0, 1) := by decide +kernel
theorem r100_110 {E : Nat → Value} {d : Nat} {st : List Value} {h : gm_H} {r : gm_R × gm_H} {a1 a2 a3 a4 a5 a6 : Value} {x : Nat} : gm_Go E d 100 110 [.ref x, a1, a2, a3, a4, a5, a6] st h r ↔ gm_Go E d 100 111 [.ref x, a1, a2, a3, a4, a5, a6] (.ref x :: st) h r := gr_loc m100 f100_110 rfl rfl
theorem r100_110n {E : Nat → Value} {d : Nat} {st : List Value} {h : gm_H} {r : gm_R × gm_H} {a1 a2 a3 a4 a5 a6 : Value}  : gm_Go E d 100 110 [.null, a1, a2, a3, a4, a5, a6] st h r ↔ gm_Go E d 100 111 [.null, a1, a2, a3, a4, a5, a6] (.null :: st) h r := gr_loc m100 f100_110 rfl rfl
theorem f100_111 : gm_ft 100 111 = some (.getfield 145, 3) := by decide +kernel
theorem r100_111 {E : Nat → Value} {d : Nat} {st : List Value} {h : gm_H} {r : gm_R × gm_H} {lv : List Value} {a : Nat} {vs : List Value} {v : Value} (hr : gm_rd h a = some (5, vs)) (hv : vs[8]? = some v) : gm_Go E d 100 111 lv (.ref a :: st) h r ↔ gm_Go E d 100 114 lv (v :: st) h r := gr_rd m100 f100_111 rfl rfl rfl rfl (gf_get k5_145 hr hv)
theorem f100_114 : gm_ft 100 114 = some (.ifCond .ne 10, 3) := by decide +kernel
theorem r100_114 {E : Nat → Value} {d : Nat} {st : List Value} {h : gm_H} {r : gm_R × gm_H} {lv : List Value} {x : Int32} : gm_Go E d 100 114 lv (.int x :: st) h r ↔ (if x = 0 then gm_Go E d 100 117 lv st h r else gm_Go E d 100 124 lv st h r) := (gr_br m100 f100_114 rfl rfl rfl rfl).trans gr_ifn
theorem f100_117 : gm_ft 100 117 = some (.aload_n 0, 1) := by decide +kernel
theorem r100_117 {E : Nat → Value} {d : Nat} {st : List Value} {h : gm_H} {r : gm_R × gm_H} {a1 a2 a3 a4 a5 a6 : Value} {x : Nat} : gm_Go E d 100 117 [.ref x, a1, a2, a3, a4, a5, a6] st h r ↔ gm_Go E d 100 118 [.ref x, a1, a2, a3, a4, a5, a6] (.ref x :: st) h r := gr_loc m100 f100_117 rfl rfl
theorem r100_117n {E : Nat → Value} {d : Nat} {st : List Value} {h : gm_H} {r : gm_R × gm_H} {a1 a2 a3 a4 a5 a6 : Value}  : gm_Go E d 100 117 [.null, a1, a2, a3, a4, a5, a6] st h r ↔ gm_Go E d 100 118 [.null, a1, a2, a3, a4, a5, a6] (.null :: st) h r := gr_loc m100 f100_117 rfl rfl
theorem f100_118 : gm_ft 100 118 = some (.invokevirtual 292, 3) := by decide +kernel
theorem n100_118 {st : List Value} {h : gm_H} {E : Nat → Value} {lv : List Value} {a : Nat} (hs : (st.map fun v => v.category).sum ≤ 8) (he : (gm_en1 [.ref a]).length ≤ 2) {vs : List Value} (hr : gm_rd h a = some (5, vs)) : gm_next E 100 118 lv (.ref a :: st) h = some (.inr (.inl (0, 102, [.ref a], st))) := gn_call m100 f100_118 rfl rfl rfl rfl rfl rfl rfl (gc_virt (bs := []) (w := 860) rfl rfl rfl rfl hs he hr) (by decide)
theorem f100_121 : gm_ft 100 121 = some (.goto (-18), 3) := by decide +kernel
theorem r100_121 {E : Nat → Value} {d : Nat} {st : List Value} {h : gm_H} {r : gm_R × gm_H} {lv : List Value} : gm_Go E d 100 121 lv st h r ↔ gm_Go E d 100 103 lv st h r := gr_brT m100 f100_121 rfl rfl rfl rfl
theorem f100_124 : gm_ft 100 124 = some (.aload_n 0, 1) := by decide +kernel
theorem r100_124 {E : Nat → Value} {d : Nat} {st : List Value} {h : gm_H} {r : gm_R × gm_H} {a1 a2 a3 a4 a5 a6 : Value} {x : Nat} : gm_Go E d 100 124 [.ref x, a1, a2, a3, a4, a5, a6] st h r ↔ gm_Go E d 100 125 [.ref x, a1, a2, a3, a4, a5, a6] (.ref x :: st) h r := gr_loc m100 f100_124 rfl rfl
theorem r100_124n {E : Nat → Value} {d : Nat} {st : List Value} {h : gm_H} {r : gm_R × gm_H} {a1 a2 a3 a4 a5 a6 : Value}  : gm_Go E d 100 124 [.null, a1, a2, a3, a4, a5, a6] st h r ↔ gm_Go E d 100 125 [.null, a1, a2, a3, a4, a5, a6] (.null :: st) h r := gr_loc m100 f100_124 rfl rfl
theorem f100_125 : gm_ft 100 125 = some (.getfield 145, 3) := by decide +kernel
theorem r100_125 {E : Nat → Value} {d : Nat} {st : List Value} {h : gm_H} {r : gm_R × gm_H} {lv : List Value} {a : Nat} {vs : List Value} {v : Value} (hr : gm_rd h a = some (5, vs)) (hv : vs[8]? = some v) : gm_Go E d 100 125 lv (.ref a :: st) h r ↔ gm_Go E d 100 128 lv (v :: st) h r := gr_rd m100 f100_125 rfl rfl rfl rfl (gf_get k5_145 hr hv)
theorem f100_128 : gm_ft 100 128 = some (.ifCond .ne 8, 3) := by decide +kernel
theorem r100_128 {E : Nat → Value} {d : Nat} {st : List Value} {h : gm_H} {r : gm_R × gm_H} {lv : List Value} {x : Int32} : gm_Go E d 100 128 lv (.int x :: st) h r ↔ (if x = 0 then gm_Go E d 100 131 lv st h r else gm_Go E d 100 136 lv st h r) := (gr_br m100 f100_128 rfl rfl rfl rfl).trans gr_ifn
theorem f100_131 : gm_ft 100 131 = some (.aload_n 0, 1) := by decide +kernel
theorem r100_131 {E : Nat → Value} {d : Nat} {st : List Value} {h : gm_H} {r : gm_R × gm_H} {a1 a2 a3 a4 a5 a6 : Value} {x : Nat} : gm_Go E d 100 131 [.ref x, a1, a2, a3, a4, a5, a6] st h r ↔ gm_Go E d 100 132 [.ref x, a1, a2, a3, a4, a5, a6] (.ref x :: st) h r := gr_loc m100 f100_131 rfl rfl
theorem r100_131n {E : Nat → Value} {d : Nat} {st : List Value} {h : gm_H} {r : gm_R × gm_H} {a1 a2 a3 a4 a5 a6 : Value}  : gm_Go E d 100 131 [.null, a1, a2, a3, a4, a5, a6] st h r ↔ gm_Go E d 100 132 [.null, a1, a2, a3, a4, a5, a6] (.null :: st) h r := gr_loc m100 f100_131 rfl rfl
theorem f100_132 : gm_ft 100 132 = some (.getfield 178, 3) := by decide +kernel
theorem r100_132 {E : Nat → Value} {d : Nat} {st : List Value} {h : gm_H} {r : gm_R × gm_H} {lv : List Value} {a : Nat} {vs : List Value} {v : Value} (hr : gm_rd h a = some (5, vs)) (hv : vs[9]? = some v) : gm_Go E d 100 132 lv (.ref a :: st) h r ↔ gm_Go E d 100 135 lv (v :: st) h r := gr_rd m100 f100_132 rfl rfl rfl rfl (gf_get k5_178 hr hv)
theorem f100_135 : gm_ft 100 135 = some (.ireturn, 1) := by decide +kernel
theorem r100_135 {E : Nat → Value} {d : Nat} {h : gm_H} {r : gm_R × gm_H} {lv : List Value} {x : Int32} : gm_Go E d 100 135 lv [.int x] h r ↔ r = (.inl (some (.int x)), h) := gr_ret m100 f100_135 rfl rfl rfl rfl rfl rfl rfl rfl (by unfold gm_rt; dsimp only; rw [if_pos ⟨rfl, rfl⟩])
theorem f100_136 : gm_ft 100 136 = some (.aload_n 0, 1) := by decide +kernel
theorem r100_136 {E : Nat → Value} {d : Nat} {st : List Value} {h : gm_H} {r : gm_R × gm_H} {a1 a2 a3 a4 a5 a6 : Value} {x : Nat} : gm_Go E d 100 136 [.ref x, a1, a2, a3, a4, a5, a6] st h r ↔ gm_Go E d 100 137 [.ref x, a1, a2, a3, a4, a5, a6] (.ref x :: st) h r := gr_loc m100 f100_136 rfl rfl
theorem r100_136n {E : Nat → Value} {d : Nat} {st : List Value} {h : gm_H} {r : gm_R × gm_H} {a1 a2 a3 a4 a5 a6 : Value}  : gm_Go E d 100 136 [.null, a1, a2, a3, a4, a5, a6] st h r ↔ gm_Go E d 100 137 [.null, a1, a2, a3, a4, a5, a6] (.null :: st) h r := gr_loc m100 f100_136 rfl rfl
theorem f100_137 : gm_ft 100 137 = some (.iload_n 1, 1) := by decide +kernel
theorem r100_137 {E : Nat → Value} {d : Nat} {st : List Value} {h : gm_H} {r : gm_R × gm_H} {a0 a2 a3 a4 a5 a6 : Value} {x : Int32} : gm_Go E d 100 137 [a0, .int x, a2, a3, a4, a5, a6] st h r ↔ gm_Go E d 100 138 [a0, .int x, a2, a3, a4, a5, a6] (.int x :: st) h r := gr_loc m100 f100_137 rfl rfl
theorem f100_138 : gm_ft 100 138 = some (.putfield 148, 3) := by decide +kernel
theorem r100_138 {E : Nat → Value} {d : Nat} {st : List Value} {h : gm_H} {r : gm_R × gm_H} {lv : List Value} {a : Nat} {vs : List Value} {v : Value} (hr : gm_rd h a = some (5, vs)) (hk : 6 < vs.length) (hn : narrow (gm_ty 5 6) v = v ∧ fits (gm_ty 5 6) v = true) : gm_Go E d 100 138 lv (v :: .ref a :: st) h r ↔ gm_Go E d 100 141 lv st (gm_wr h a (5, vs.set 6 v)) r := gr_wr m100 f100_138 rfl rfl rfl rfl rfl (gf_put k5_148 hr (by decide) hk hn (by decide))
theorem f100_141 : gm_ft 100 141 = some (.aload_n 0, 1) := by decide +kernel
theorem r100_141 {E : Nat → Value} {d : Nat} {st : List Value} {h : gm_H} {r : gm_R × gm_H} {a1 a2 a3 a4 a5 a6 : Value} {x : Nat} : gm_Go E d 100 141 [.ref x, a1, a2, a3, a4, a5, a6] st h r ↔ gm_Go E d 100 142 [.ref x, a1, a2, a3, a4, a5, a6] (.ref x :: st) h r := gr_loc m100 f100_141 rfl rfl
theorem r100_141n {E : Nat → Value} {d : Nat} {st : List Value} {h : gm_H} {r : gm_R × gm_H} {a1 a2 a3 a4 a5 a6 : Value}  : gm_Go E d 100 141 [.null, a1, a2, a3, a4, a5, a6] st h r ↔ gm_Go E d 100 142 [.null, a1, a2, a3, a4, a5, a6] (.null :: st) h r := gr_loc m100 f100_141 rfl rfl
theorem f100_142 : gm_ft 100 142 = some (.iload_n 2, 1) := by decide +kernel
theorem r100_142 {E : Nat → Value} {d : Nat} {st : List Value} {h : gm_H} {r : gm_R × gm_H} {a0 a1 a3 a4 a5 a6 : Value} {x : Int32} : gm_Go E d 100 142 [a0, a1, .int x, a3, a4, a5, a6] st h r ↔ gm_Go E d 100 143 [a0, a1, .int x, a3, a4, a5, a6] (.int x :: st) h r := gr_loc m100 f100_142 rfl rfl
theorem f100_143 : gm_ft 100 143 = some (.putfield 139, 3) := by decide +kernel
theorem r100_143 {E : Nat → Value} {d : Nat} {st : List Value} {h : gm_H} {r : gm_R × gm_H} {lv : List Value} {a : Nat} {vs : List Value} {v : Value} (hr : gm_rd h a = some (5, vs)) (hk : 23 < vs.length) (hn : narrow (gm_ty 5 23) v = v ∧ fits (gm_ty 5 23) v = true) : gm_Go E d 100 143 lv (v :: .ref a :: st) h r ↔ gm_Go E d 100 146 lv st (gm_wr h a (5, vs.set 23 v)) r := gr_wr m100 f100_143 rfl rfl rfl rfl rfl (gf_put k5_139 hr (by decide) hk hn (by decide))
theorem f100_146 : gm_ft 100 146 = some (.aload_n 0, 1) := by decide +kernel
theorem r100_146 {E : Nat → Value} {d : Nat} {st : List Value} {h : gm_H} {r : gm_R × gm_H} {a1 a2 a3 a4 a5 a6 : Value} {x : Nat} : gm_Go E d 100 146 [.ref x, a1, a2, a3, a4, a5, a6] st h r ↔ gm_Go E d 100 147 [.ref x, a1, a2, a3, a4, a5, a6] (.ref x :: st) h r := gr_loc m100 f100_146 rfl rfl
theorem r100_146n {E : Nat → Value} {d : Nat} {st : List Value} {h : gm_H} {r : gm_R × gm_H} {a1 a2 a3 a4 a5 a6 : Value}  : gm_Go E d 100 146 [.null, a1, a2, a3, a4, a5, a6] st h r ↔ gm_Go E d 100 147 [.null, a1, a2, a3, a4, a5, a6] (.null :: st) h r := gr_loc m100 f100_146 rfl rfl
theorem f100_147 : gm_ft 100 147 = some (.iload_n 3, 1) := by decide +kernel
theorem r100_147 {E : Nat → Value} {d : Nat} {st : List Value} {h : gm_H} {r : gm_R × gm_H} {a0 a1 a2 a4 a5 a6 : Value} {x : Int32} : gm_Go E d 100 147 [a0, a1, a2, .int x, a4, a5, a6] st h r ↔ gm_Go E d 100 148 [a0, a1, a2, .int x, a4, a5, a6] (.int x :: st) h r := gr_loc m100 f100_147 rfl rfl
theorem f100_148 : gm_ft 100 148 = some (.putfield 163, 3) := by decide +kernel
theorem r100_148 {E : Nat → Value} {d : Nat} {st : List Value} {h : gm_H} {r : gm_R × gm_H} {lv : List Value} {a : Nat} {vs : List Value} {v : Value} (hr : gm_rd h a = some (5, vs)) (hk : 25 < vs.length) (hn : narrow (gm_ty 5 25) v = v ∧ fits (gm_ty 5 25) v = true) : gm_Go E d 100 148 lv (v :: .ref a :: st) h r ↔ gm_Go E d 100 151 lv st (gm_wr h a (5, vs.set 25 v)) r := gr_wr m100 f100_148 rfl rfl rfl rfl rfl (gf_put k5_163 hr (by decide) hk hn (by decide))
theorem f100_151 : gm_ft 100 151 = some (.aload_n 0, 1) := by decide +kernel
theorem r100_151 {E : Nat → Value} {d : Nat} {st : List Value} {h : gm_H} {r : gm_R × gm_H} {a1 a2 a3 a4 a5 a6 : Value} {x : Nat} : gm_Go E d 100 151 [.ref x, a1, a2, a3, a4, a5, a6] st h r ↔ gm_Go E d 100 152 [.ref x, a1, a2, a3, a4, a5, a6] (.ref x :: st) h r := gr_loc m100 f100_151 rfl rfl
theorem r100_151n {E : Nat → Value} {d : Nat} {st : List Value} {h : gm_H} {r : gm_R × gm_H} {a1 a2 a3 a4 a5 a6 : Value}  : gm_Go E d 100 151 [.null, a1, a2, a3, a4, a5, a6] st h r ↔ gm_Go E d 100 152 [.null, a1, a2, a3, a4, a5, a6] (.null :: st) h r := gr_loc m100 f100_151 rfl rfl
theorem f100_152 : gm_ft 100 152 = some (.iload 4, 2) := by decide +kernel
theorem r100_152 {E : Nat → Value} {d : Nat} {st : List Value} {h : gm_H} {r : gm_R × gm_H} {a0 a1 a2 a3 a5 a6 : Value} {x : Int32} : gm_Go E d 100 152 [a0, a1, a2, a3, .int x, a5, a6] st h r ↔ gm_Go E d 100 154 [a0, a1, a2, a3, .int x, a5, a6] (.int x :: st) h r := gr_loc m100 f100_152 rfl rfl
theorem f100_154 : gm_ft 100 154 = some (.putfield 166, 3) := by decide +kernel
theorem r100_154 {E : Nat → Value} {d : Nat} {st : List Value} {h : gm_H} {r : gm_R × gm_H} {lv : List Value} {a : Nat} {vs : List Value} {v : Value} (hr : gm_rd h a = some (5, vs)) (hk : 28 < vs.length) (hn : narrow (gm_ty 5 28) v = v ∧ fits (gm_ty 5 28) v = true) : gm_Go E d 100 154 lv (v :: .ref a :: st) h r ↔ gm_Go E d 100 157 lv st (gm_wr h a (5, vs.set 28 v)) r := gr_wr m100 f100_154 rfl rfl rfl rfl rfl (gf_put k5_166 hr (by decide) hk hn (by decide))
theorem f100_157 : gm_ft 100 157 = some (.aload_n 0, 1) := by decide +kernel
theorem r100_157 {E : Nat → Value} {d : Nat} {st : List Value} {h : gm_H} {r : gm_R × gm_H} {a1 a2 a3 a4 a5 a6 : Value} {x : Nat} : gm_Go E d 100 157 [.ref x, a1, a2, a3, a4, a5, a6] st h r ↔ gm_Go E d 100 158 [.ref x, a1, a2, a3, a4, a5, a6] (.ref x :: st) h r := gr_loc m100 f100_157 rfl rfl
theorem r100_157n {E : Nat → Value} {d : Nat} {st : List Value} {h : gm_H} {r : gm_R × gm_H} {a1 a2 a3 a4 a5 a6 : Value}  : gm_Go E d 100 157 [.null, a1, a2, a3, a4, a5, a6] st h r ↔ gm_Go E d 100 158 [.null, a1, a2, a3, a4, a5, a6] (.null :: st) h r := gr_loc m100 f100_157 rfl rfl
theorem f100_158 : gm_ft 100 158 = some (.iload 5, 2) := by decide +kernel
theorem r100_158 {E : Nat → Value} {d : Nat} {st : List Value} {h : gm_H} {r : gm_R × gm_H} {a0 a1 a2 a3 a4 a6 : Value} {x : Int32} : gm_Go E d 100 158 [a0, a1, a2, a3, a4, .int x, a6] st h r ↔ gm_Go E d 100 160 [a0, a1, a2, a3, a4, .int x, a6] (.int x :: st) h r := gr_loc m100 f100_158 rfl rfl
theorem f100_160 : gm_ft 100 160 = some (.putfield 169, 3) := by decide +kernel
theorem r100_160 {E : Nat → Value} {d : Nat} {st : List Value} {h : gm_H} {r : gm_R × gm_H} {lv : List Value} {a : Nat} {vs : List Value} {v : Value} (hr : gm_rd h a = some (5, vs)) (hk : 39 < vs.length) (hn : narrow (gm_ty 5 39) v = v ∧ fits (gm_ty 5 39) v = true) : gm_Go E d 100 160 lv (v :: .ref a :: st) h r ↔ gm_Go E d 100 163 lv st (gm_wr h a (5, vs.set 39 v)) r := gr_wr m100 f100_160 rfl rfl rfl rfl rfl (gf_put k5_169 hr (by decide) hk hn (by decide))
theorem f100_163 : gm_ft 100 163 = some (.iconst 0, 1) := by decide +kernel
theorem r100_163 {E : Nat → Value} {d : Nat} {st : List Value} {h : gm_H} {r : gm_R × gm_H} {lv : List Value} : gm_Go E d 100 163 lv st h r ↔ gm_Go E d 100 164 lv (.int (0 : Int32) :: st) h r := gr_pure m100 f100_163 rfl
theorem f100_164 : gm_ft 100 164 = some (.istore 6, 2) := by decide +kernel
theorem r100_164 {E : Nat → Value} {d : Nat} {st : List Value} {h : gm_H} {r : gm_R × gm_H} {a0 a1 a2 a3 a4 a5 a6 : Value} {x : Int32} : gm_Go E d 100 164 [a0, a1, a2, a3, a4, a5, a6] (.int x :: st) h r ↔ gm_Go E d 100 166 [a0, a1, a2, a3, a4, gm_k a5, .int x] st h r := gr_loc m100 f100_164 rfl rfl
theorem f100_166 : gm_ft 100 166 = some (.iload 6, 2) := by decide +kernel
theorem r100_166 {E : Nat → Value} {d : Nat} {st : List Value} {h : gm_H} {r : gm_R × gm_H} {a0 a1 a2 a3 a4 a5 : Value} {x : Int32} : gm_Go E d 100 166 [a0, a1, a2, a3, a4, a5, .int x] st h r ↔ gm_Go E d 100 168 [a0, a1, a2, a3, a4, a5, .int x] (.int x :: st) h r := gr_loc m100 f100_166 rfl rfl
theorem f100_168 : gm_ft 100 168 = some (.aload_n 0, 1) := by decide +kernel
theorem r100_168 {E : Nat → Value} {d : Nat} {st : List Value} {h : gm_H} {r : gm_R × gm_H} {a1 a2 a3 a4 a5 a6 : Value} {x : Nat} : gm_Go E d 100 168 [.ref x, a1, a2, a3, a4, a5, a6] st h r ↔ gm_Go E d 100 169 [.ref x, a1, a2, a3, a4, a5, a6] (.ref x :: st) h r := gr_loc m100 f100_168 rfl rfl
theorem r100_168n {E : Nat → Value} {d : Nat} {st : List Value} {h : gm_H} {r : gm_R × gm_H} {a1 a2 a3 a4 a5 a6 : Value}  : gm_Go E d 100 168 [.null, a1, a2, a3, a4, a5, a6] st h r ↔ gm_Go E d 100 169 [.null, a1, a2, a3, a4, a5, a6] (.null :: st) h r := gr_loc m100 f100_168 rfl rfl
theorem f100_169 : gm_ft 100 169 = some (.getfield 166, 3) := by decide +kernel
theorem r100_169 {E : Nat → Value} {d : Nat} {st : List Value} {h : gm_H} {r : gm_R × gm_H} {lv : List Value} {a : Nat} {vs : List Value} {v : Value} (hr : gm_rd h a = some (5, vs)) (hv : vs[28]? = some v) : gm_Go E d 100 169 lv (.ref a :: st) h r ↔ gm_Go E d 100 172 lv (v :: st) h r := gr_rd m100 f100_169 rfl rfl rfl rfl (gf_get k5_166 hr hv)
theorem f100_172 : gm_ft 100 172 = some (.if_icmp .ge 37, 3) := by decide +kernel
theorem r100_172 {E : Nat → Value} {d : Nat} {st : List Value} {h : gm_H} {r : gm_R × gm_H} {lv : List Value} {x y : Int32} : gm_Go E d 100 172 lv (.int y :: .int x :: st) h r ↔ (if y ≤ x then gm_Go E d 100 209 lv st h r else gm_Go E d 100 175 lv st h r) := (gr_br m100 f100_172 rfl rfl rfl rfl).trans gr_if
theorem f100_175 : gm_ft 100 175 = some (.aload_n 0, 1) := by decide +kernel
theorem r100_175 {E : Nat → Value} {d : Nat} {st : List Value} {h : gm_H} {r : gm_R × gm_H} {a1 a2 a3 a4 a5 a6 : Value} {x : Nat} : gm_Go E d 100 175 [.ref x, a1, a2, a3, a4, a5, a6] st h r ↔ gm_Go E d 100 176 [.ref x, a1, a2, a3, a4, a5, a6] (.ref x :: st) h r := gr_loc m100 f100_175 rfl rfl
theorem r100_175n {E : Nat → Value} {d : Nat} {st : List Value} {h : gm_H} {r : gm_R × gm_H} {a1 a2 a3 a4 a5 a6 : Value}  : gm_Go E d 100 175 [.null, a1, a2, a3, a4, a5, a6] st h r ↔ gm_Go E d 100 176 [.null, a1, a2, a3, a4, a5, a6] (.null :: st) h r := gr_loc m100 f100_175 rfl rfl
theorem f100_176 : gm_ft 100 176 = some (.getfield 57, 3) := by decide +kernel
theorem r100_176 {E : Nat → Value} {d : Nat} {st : List Value} {h : gm_H} {r : gm_R × gm_H} {lv : List Value} {a : Nat} {vs : List Value} {v : Value} (hr : gm_rd h a = some (5, vs)) (hv : vs[26]? = some v) : gm_Go E d 100 176 lv (.ref a :: st) h r ↔ gm_Go E d 100 179 lv (v :: st) h r := gr_rd m100 f100_176 rfl rfl rfl rfl (gf_get k5_57 hr hv)
theorem f100_179 : gm_ft 100 179 = some (.iload 6, 2) := by decide +kernel
theorem r100_179 {E : Nat → Value} {d : Nat} {st : List Value} {h : gm_H} {r : gm_R × gm_H} {a0 a1 a2 a3 a4 a5 : Value} {x : Int32} : gm_Go E d 100 179 [a0, a1, a2, a3, a4, a5, .int x] st h r ↔ gm_Go E d 100 181 [a0, a1, a2, a3, a4, a5, .int x] (.int x :: st) h r := gr_loc m100 f100_179 rfl rfl
theorem f100_181 : gm_ft 100 181 = some (.aload_n 0, 1) := by decide +kernel
theorem r100_181 {E : Nat → Value} {d : Nat} {st : List Value} {h : gm_H} {r : gm_R × gm_H} {a1 a2 a3 a4 a5 a6 : Value} {x : Nat} : gm_Go E d 100 181 [.ref x, a1, a2, a3, a4, a5, a6] st h r ↔ gm_Go E d 100 182 [.ref x, a1, a2, a3, a4, a5, a6] (.ref x :: st) h r := gr_loc m100 f100_181 rfl rfl
theorem r100_181n {E : Nat → Value} {d : Nat} {st : List Value} {h : gm_H} {r : gm_R × gm_H} {a1 a2 a3 a4 a5 a6 : Value}  : gm_Go E d 100 181 [.null, a1, a2, a3, a4, a5, a6] st h r ↔ gm_Go E d 100 182 [.null, a1, a2, a3, a4, a5, a6] (.null :: st) h r := gr_loc m100 f100_181 rfl rfl
theorem f100_182 : gm_ft 100 182 = some (.getfield 63, 3) := by decide +kernel
theorem r100_182 {E : Nat → Value} {d : Nat} {st : List Value} {h : gm_H} {r : gm_R × gm_H} {lv : List Value} {a : Nat} {vs : List Value} {v : Value} (hr : gm_rd h a = some (5, vs)) (hv : vs[29]? = some v) : gm_Go E d 100 182 lv (.ref a :: st) h r ↔ gm_Go E d 100 185 lv (v :: st) h r := gr_rd m100 f100_182 rfl rfl rfl rfl (gf_get k5_63 hr hv)
theorem f100_185 : gm_ft 100 185 = some (.iload 6, 2) := by decide +kernel
theorem r100_185 {E : Nat → Value} {d : Nat} {st : List Value} {h : gm_H} {r : gm_R × gm_H} {a0 a1 a2 a3 a4 a5 : Value} {x : Int32} : gm_Go E d 100 185 [a0, a1, a2, a3, a4, a5, .int x] st h r ↔ gm_Go E d 100 187 [a0, a1, a2, a3, a4, a5, .int x] (.int x :: st) h r := gr_loc m100 f100_185 rfl rfl
theorem f100_187 : gm_ft 100 187 = some (.iaload, 1) := by decide +kernel
theorem r100_187 {E : Nat → Value} {d : Nat} {st : List Value} {h : gm_H} {r : gm_R × gm_H} {lv : List Value} {a k j : Nat} {vs : List Value} {v : Value} (hr : gm_rd h a = some (k, vs)) (hk : 100 ≤ k ∧ (fun t => t == 0) (k % 100) = true) (hj : j < 2 ^ 31) (hv : vs[j]? = some v) : gm_Go E d 100 187 lv (.int (nI j) :: .ref a :: st) h r ↔ gm_Go E d 100 188 lv (v :: st) h r := gr_rd m100 f100_187 rfl rfl rfl rfl (ga_ld (P := fun t => t == 0) hr hk hj hv)
theorem f100_188 : gm_ft 100 188 = some (.iastore, 1) := by decide +kernel
theorem r100_188 {E : Nat → Value} {d : Nat} {st : List Value} {h : gm_H} {r : gm_R × gm_H} {lv : List Value} {a k j : Nat} {vs : List Value} {x : Int32} (hr : gm_rd h a = some (k, vs)) (hk : 100 ≤ k ∧ k % 100 = 0 ∧ gm_ko k = 2 ∧ 2 < 3) (hj : j < 2 ^ 31) (hl : j < vs.length) : gm_Go E d 100 188 lv (.int x :: .int (nI j) :: .ref a :: st) h r ↔ gm_Go E d 100 189 lv st (gm_wr h a (k, vs.set j (.int x))) r := gr_wr m100 f100_188 rfl rfl rfl rfl rfl (ga_st hr hk hj hl)
theorem f100_189 : gm_ft 100 189 = some (.aload_n 0, 1) := by decide +kernel
theorem r100_189 {E : Nat → Value} {d : Nat} {st : List Value} {h : gm_H} {r : gm_R × gm_H} {a1 a2 a3 a4 a5 a6 : Value} {x : Nat} : gm_Go E d 100 189 [.ref x, a1, a2, a3, a4, a5, a6] st h r ↔ gm_Go E d 100 190 [.ref x, a1, a2, a3, a4, a5, a6] (.ref x :: st) h r := gr_loc m100 f100_189 rfl rfl
theorem r100_189n {E : Nat → Value} {d : Nat} {st : List Value} {h : gm_H} {r : gm_R × gm_H} {a1 a2 a3 a4 a5 a6 : Value}  : gm_Go E d 100 189 [.null, a1, a2, a3, a4, a5, a6] st h r ↔ gm_Go E d 100 190 [.null, a1, a2, a3, a4, a5, a6] (.null :: st) h r := gr_loc m100 f100_189 rfl rfl
theorem f100_190 : gm_ft 100 190 = some (.getfield 60, 3) := by decide +kernel
theorem r100_190 {E : Nat → Value} {d : Nat} {st : List Value} {h : gm_H} {r : gm_R × gm_H} {lv : List Value} {a : Nat} {vs : List Value} {v : Value} (hr : gm_rd h a = some (5, vs)) (hv : vs[27]? = some v) : gm_Go E d 100 190 lv (.ref a :: st) h r ↔ gm_Go E d 100 193 lv (v :: st) h r := gr_rd m100 f100_190 rfl rfl rfl rfl (gf_get k5_60 hr hv)
theorem f100_193 : gm_ft 100 193 = some (.iload 6, 2) := by decide +kernel
theorem r100_193 {E : Nat → Value} {d : Nat} {st : List Value} {h : gm_H} {r : gm_R × gm_H} {a0 a1 a2 a3 a4 a5 : Value} {x : Int32} : gm_Go E d 100 193 [a0, a1, a2, a3, a4, a5, .int x] st h r ↔ gm_Go E d 100 195 [a0, a1, a2, a3, a4, a5, .int x] (.int x :: st) h r := gr_loc m100 f100_193 rfl rfl
theorem f100_195 : gm_ft 100 195 = some (.aload_n 0, 1) := by decide +kernel
theorem r100_195 {E : Nat → Value} {d : Nat} {st : List Value} {h : gm_H} {r : gm_R × gm_H} {a1 a2 a3 a4 a5 a6 : Value} {x : Nat} : gm_Go E d 100 195 [.ref x, a1, a2, a3, a4, a5, a6] st h r ↔ gm_Go E d 100 196 [.ref x, a1, a2, a3, a4, a5, a6] (.ref x :: st) h r := gr_loc m100 f100_195 rfl rfl
theorem r100_195n {E : Nat → Value} {d : Nat} {st : List Value} {h : gm_H} {r : gm_R × gm_H} {a1 a2 a3 a4 a5 a6 : Value}  : gm_Go E d 100 195 [.null, a1, a2, a3, a4, a5, a6] st h r ↔ gm_Go E d 100 196 [.null, a1, a2, a3, a4, a5, a6] (.null :: st) h r := gr_loc m100 f100_195 rfl rfl
theorem f100_196 : gm_ft 100 196 = some (.getfield 66, 3) := by decide +kernel
theorem r100_196 {E : Nat → Value} {d : Nat} {st : List Value} {h : gm_H} {r : gm_R × gm_H} {lv : List Value} {a : Nat} {vs : List Value} {v : Value} (hr : gm_rd h a = some (5, vs)) (hv : vs[30]? = some v) : gm_Go E d 100 196 lv (.ref a :: st) h r ↔ gm_Go E d 100 199 lv (v :: st) h r := gr_rd m100 f100_196 rfl rfl rfl rfl (gf_get k5_66 hr hv)
theorem f100_199 : gm_ft 100 199 = some (.iload 6, 2) := by decide +kernel
theorem r100_199 {E : Nat → Value} {d : Nat} {st : List Value} {h : gm_H} {r : gm_R × gm_H} {a0 a1 a2 a3 a4 a5 : Value} {x : Int32} : gm_Go E d 100 199 [a0, a1, a2, a3, a4, a5, .int x] st h r ↔ gm_Go E d 100 201 [a0, a1, a2, a3, a4, a5, .int x] (.int x :: st) h r := gr_loc m100 f100_199 rfl rfl
theorem f100_201 : gm_ft 100 201 = some (.iaload, 1) := by decide +kernel
theorem r100_201 {E : Nat → Value} {d : Nat} {st : List Value} {h : gm_H} {r : gm_R × gm_H} {lv : List Value} {a k j : Nat} {vs : List Value} {v : Value} (hr : gm_rd h a = some (k, vs)) (hk : 100 ≤ k ∧ (fun t => t == 0) (k % 100) = true) (hj : j < 2 ^ 31) (hv : vs[j]? = some v) : gm_Go E d 100 201 lv (.int (nI j) :: .ref a :: st) h r ↔ gm_Go E d 100 202 lv (v :: st) h r := gr_rd m100 f100_201 rfl rfl rfl rfl (ga_ld (P := fun t => t == 0) hr hk hj hv)
theorem f100_202 : gm_ft 100 202 = some (.iastore, 1) := by decide +kernel
theorem r100_202 {E : Nat → Value} {d : Nat} {st : List Value} {h : gm_H} {r : gm_R × gm_H} {lv : List Value} {a k j : Nat} {vs : List Value} {x : Int32} (hr : gm_rd h a = some (k, vs)) (hk : 100 ≤ k ∧ k % 100 = 0 ∧ gm_ko k = 2 ∧ 2 < 3) (hj : j < 2 ^ 31) (hl : j < vs.length) : gm_Go E d 100 202 lv (.int x :: .int (nI j) :: .ref a :: st) h r ↔ gm_Go E d 100 203 lv st (gm_wr h a (k, vs.set j (.int x))) r := gr_wr m100 f100_202 rfl rfl rfl rfl rfl (ga_st hr hk hj hl)
theorem f100_203 : gm_ft 100 203 = some (.iinc 6 1, 3) := by decide +kernel
theorem r100_203 {E : Nat → Value} {d : Nat} {st : List Value} {h : gm_H} {r : gm_R × gm_H} {a0 a1 a2 a3 a4 a5 : Value} {x : Int32} : gm_Go E d 100 203 [a0, a1, a2, a3, a4, a5, .int x] st h r ↔ gm_Go E d 100 206 [a0, a1, a2, a3, a4, gm_k a5, .int (x + (1 : Int32))] st h r := gr_loc m100 f100_203 rfl rfl
theorem f100_206 : gm_ft 100 206 = some (.goto (-40), 3) := by decide +kernel
theorem r100_206 {E : Nat → Value} {d : Nat} {st : List Value} {h : gm_H} {r : gm_R × gm_H} {lv : List Value} : gm_Go E d 100 206 lv st h r ↔ gm_Go E d 100 166 lv st h r := gr_brT m100 f100_206 rfl rfl rfl rfl
theorem f100_209 : gm_ft 100 209 = some (.aload_n 0, 1) := by decide +kernel
theorem r100_209 {E : Nat → Value} {d : Nat} {st : List Value} {h : gm_H} {r : gm_R × gm_H} {a1 a2 a3 a4 a5 a6 : Value} {x : Nat} : gm_Go E d 100 209 [.ref x, a1, a2, a3, a4, a5, a6] st h r ↔ gm_Go E d 100 210 [.ref x, a1, a2, a3, a4, a5, a6] (.ref x :: st) h r := gr_loc m100 f100_209 rfl rfl
theorem r100_209n {E : Nat → Value} {d : Nat} {st : List Value} {h : gm_H} {r : gm_R × gm_H} {a1 a2 a3 a4 a5 a6 : Value}  : gm_Go E d 100 209 [.null, a1, a2, a3, a4, a5, a6] st h r ↔ gm_Go E d 100 210 [.null, a1, a2, a3, a4, a5, a6] (.null :: st) h r := gr_loc m100 f100_209 rfl rfl
theorem f100_210 : gm_ft 100 210 = some (.getfield 145, 3) := by decide +kernel
theorem r100_210 {E : Nat → Value} {d : Nat} {st : List Value} {h : gm_H} {r : gm_R × gm_H} {lv : List Value} {a : Nat} {vs : List Value} {v : Value} (hr : gm_rd h a = some (5, vs)) (hv : vs[8]? = some v) : gm_Go E d 100 210 lv (.ref a :: st) h r ↔ gm_Go E d 100 213 lv (v :: st) h r := gr_rd m100 f100_210 rfl rfl rfl rfl (gf_get k5_145 hr hv)
theorem f100_213 : gm_ft 100 213 = some (.bipush (-7), 2) := by decide +kernel
theorem r100_213 {E : Nat → Value} {d : Nat} {st : List Value} {h : gm_H} {r : gm_R × gm_H} {lv : List Value} : gm_Go E d 100 213 lv st h r ↔ gm_Go E d 100 215 lv (.int (-7 : Int32) :: st) h r := gr_pure m100 f100_213 rfl
theorem f100_215 : gm_ft 100 215 = some (.if_icmp .eq 11, 3) := by decide +kernel
theorem r100_215 {E : Nat → Value} {d : Nat} {st : List Value} {h : gm_H} {r : gm_R × gm_H} {lv : List Value} {x y : Int32} : gm_Go E d 100 215 lv (.int y :: .int x :: st) h r ↔ (if x = y then gm_Go E d 100 226 lv st h r else gm_Go E d 100 218 lv st h r) := (gr_br m100 f100_215 rfl rfl rfl rfl).trans gr_if
theorem f100_218 : gm_ft 100 218 = some (.aload_n 0, 1) := by decide +kernel
theorem r100_218 {E : Nat → Value} {d : Nat} {st : List Value} {h : gm_H} {r : gm_R × gm_H} {a1 a2 a3 a4 a5 a6 : Value} {x : Nat} : gm_Go E d 100 218 [.ref x, a1, a2, a3, a4, a5, a6] st h r ↔ gm_Go E d 100 219 [.ref x, a1, a2, a3, a4, a5, a6] (.ref x :: st) h r := gr_loc m100 f100_218 rfl rfl
theorem r100_218n {E : Nat → Value} {d : Nat} {st : List Value} {h : gm_H} {r : gm_R × gm_H} {a1 a2 a3 a4 a5 a6 : Value}  : gm_Go E d 100 218 [.null, a1, a2, a3, a4, a5, a6] st h r ↔ gm_Go E d 100 219 [.null, a1, a2, a3, a4, a5, a6] (.null :: st) h r := gr_loc m100 f100_218 rfl rfl
theorem f100_219 : gm_ft 100 219 = some (.aload_n 0, 1) := by decide +kernel
theorem r100_219 {E : Nat → Value} {d : Nat} {st : List Value} {h : gm_H} {r : gm_R × gm_H} {a1 a2 a3 a4 a5 a6 : Value} {x : Nat} : gm_Go E d 100 219 [.ref x, a1, a2, a3, a4, a5, a6] st h r ↔ gm_Go E d 100 220 [.ref x, a1, a2, a3, a4, a5, a6] (.ref x :: st) h r := gr_loc m100 f100_219 rfl rfl
theorem r100_219n {E : Nat → Value} {d : Nat} {st : List Value} {h : gm_H} {r : gm_R × gm_H} {a1 a2 a3 a4 a5 a6 : Value}  : gm_Go E d 100 219 [.null, a1, a2, a3, a4, a5, a6] st h r ↔ gm_Go E d 100 220 [.null, a1, a2, a3, a4, a5, a6] (.null :: st) h r := gr_loc m100 f100_219 rfl rfl
theorem f100_220 : gm_ft 100 220 = some (.getfield 145, 3) := by decide +kernel
theorem r100_220 {E : Nat → Value} {d : Nat} {st : List Value} {h : gm_H} {r : gm_R × gm_H} {lv : List Value} {a : Nat} {vs : List Value} {v : Value} (hr : gm_rd h a = some (5, vs)) (hv : vs[8]? = some v) : gm_Go E d 100 220 lv (.ref a :: st) h r ↔ gm_Go E d 100 223 lv (v :: st) h r := gr_rd m100 f100_220 rfl rfl rfl rfl (gf_get k5_145 hr hv)
theorem f100_223 : gm_ft 100 223 = some (.putfield 172, 3) := by decide +kernel
theorem r100_223 {E : Nat → Value} {d : Nat} {st : List Value} {h : gm_H} {r : gm_R × gm_H} {lv : List Value} {a : Nat} {vs : List Value} {v : Value} (hr : gm_rd h a = some (5, vs)) (hk : 7 < vs.length) (hn : narrow (gm_ty 5 7) v = v ∧ fits (gm_ty 5 7) v = true) : gm_Go E d 100 223 lv (v :: .ref a :: st) h r ↔ gm_Go E d 100 226 lv st (gm_wr h a (5, vs.set 7 v)) r := gr_wr m100 f100_223 rfl rfl rfl rfl rfl (gf_put k5_172 hr (by decide) hk hn (by decide))
theorem f100_226 : gm_ft 100 226 = some (.aload_n 0, 1) := by decide +kernel
theorem r100_226 {E : Nat → Value} {d : Nat} {st : List Value} {h : gm_H} {r : gm_R × gm_H} {a1 a2 a3 a4 a5 a6 : Value} {x : Nat} : gm_Go E d 100 226 [.ref x, a1, a2, a3, a4, a5, a6] st h r ↔ gm_Go E d 100 227 [.ref x, a1, a2, a3, a4, a5, a6] (.ref x :: st) h r := gr_loc m100 f100_226 rfl rfl
theorem r100_226n {E : Nat → Value} {d : Nat} {st : List Value} {h : gm_H} {r : gm_R × gm_H} {a1 a2 a3 a4 a5 a6 : Value}  : gm_Go E d 100 226 [.null, a1, a2, a3, a4, a5, a6] st h r ↔ gm_Go E d 100 227 [.null, a1, a2, a3, a4, a5, a6] (.null :: st) h r := gr_loc m100 f100_226 rfl rfl
theorem f100_227 : gm_ft 100 227 = some (.getfield 145, 3) := by decide +kernel
theorem r100_227 {E : Nat → Value} {d : Nat} {st : List Value} {h : gm_H} {r : gm_R × gm_H} {lv : List Value} {a : Nat} {vs : List Value} {v : Value} (hr : gm_rd h a = some (5, vs)) (hv : vs[8]? = some v) : gm_Go E d 100 227 lv (.ref a :: st) h r ↔ gm_Go E d 100 230 lv (v :: st) h r := gr_rd m100 f100_227 rfl rfl rfl rfl (gf_get k5_145 hr hv)
theorem f100_230 : gm_ft 100 230 = some (.ireturn, 1) := by decide +kernel
theorem r100_230 {E : Nat → Value} {d : Nat} {h : gm_H} {r : gm_R × gm_H} {lv : List Value} {x : Int32} : gm_Go E d 100 230 lv [.int x] h r ↔ r = (.inl (some (.int x)), h) := gr_ret m100 f100_230 rfl rfl rfl rfl rfl rfl rfl rfl (by unfold gm_rt; dsimp only; rw [if_pos ⟨rfl, rfl⟩])
/-! GraphReaderModel.push(IIII)V -/
theorem m101 : gm_mt[101]? = some (⟨"GraphReaderModel", "push", "(IIII)V"⟩, prog_7_method_14_code, 5, none, [], 5, 2) := rfl
theorem f101_0 : gm_ft 101 0 = some (.aload_n 0, 1) := by decide +kernel
theorem r101_0 {E : Nat → Value} {d : Nat} {st : List Value} {h : gm_H} {r : gm_R × gm_H} {a1 a2 a3 a4 : Value} {x : Nat} : gm_Go E d 101 0 [.ref x, a1, a2, a3, a4] st h r ↔ gm_Go E d 101 1 [.ref x, a1, a2, a3, a4] (.ref x :: st) h r := gr_loc m101 f101_0 rfl rfl
theorem r101_0n {E : Nat → Value} {d : Nat} {st : List Value} {h : gm_H} {r : gm_R × gm_H} {a1 a2 a3 a4 : Value}  : gm_Go E d 101 0 [.null, a1, a2, a3, a4] st h r ↔ gm_Go E d 101 1 [.null, a1, a2, a3, a4] (.null :: st) h r := gr_loc m101 f101_0 rfl rfl
theorem f101_1 : gm_ft 101 1 = some (.getfield 93, 3) := by decide +kernel
theorem r101_1 {E : Nat → Value} {d : Nat} {st : List Value} {h : gm_H} {r : gm_R × gm_H} {lv : List Value} {a : Nat} {vs : List Value} {v : Value} (hr : gm_rd h a = some (5, vs)) (hv : vs[40]? = some v) : gm_Go E d 101 1 lv (.ref a :: st) h r ↔ gm_Go E d 101 4 lv (v :: st) h r := gr_rd m101 f101_1 rfl rfl rfl rfl (gf_get k5_93 hr hv)
theorem f101_4 : gm_ft 101 4 = some (.aload_n 0, 1) := by decide +kernel
theorem r101_4 {E : Nat → Value} {d : Nat} {st : List Value} {h : gm_H} {r : gm_R × gm_H} {a1 a2 a3 a4 : Value} {x : Nat} : gm_Go E d 101 4 [.ref x, a1, a2, a3, a4] st h r ↔ gm_Go E d 101 5 [.ref x, a1, a2, a3, a4] (.ref x :: st) h r := gr_loc m101 f101_4 rfl rfl
theorem r101_4n {E : Nat → Value} {d : Nat} {st : List Value} {h : gm_H} {r : gm_R × gm_H} {a1 a2 a3 a4 : Value}  : gm_Go E d 101 4 [.null, a1, a2, a3, a4] st h r ↔ gm_Go E d 101 5 [.null, a1, a2, a3, a4] (.null :: st) h r := gr_loc m101 f101_4 rfl rfl
theorem f101_5 : gm_ft 101 5 = some (.getfield 175, 3) := by decide +kernel
theorem r101_5 {E : Nat → Value} {d : Nat} {st : List Value} {h : gm_H} {r : gm_R × gm_H} {lv : List Value} {a : Nat} {vs : List Value} {v : Value} (hr : gm_rd h a = some (5, vs)) (hv : vs[47]? = some v) : gm_Go E d 101 5 lv (.ref a :: st) h r ↔ gm_Go E d 101 8 lv (v :: st) h r := gr_rd m101 f101_5 rfl rfl rfl rfl (gf_get k5_175 hr hv)
theorem f101_8 : gm_ft 101 8 = some (.iload_n 1, 1) := by decide +kernel
theorem r101_8 {E : Nat → Value} {d : Nat} {st : List Value} {h : gm_H} {r : gm_R × gm_H} {a0 a2 a3 a4 : Value} {x : Int32} : gm_Go E d 101 8 [a0, .int x, a2, a3, a4] st h r ↔ gm_Go E d 101 9 [a0, .int x, a2, a3, a4] (.int x :: st) h r := gr_loc m101 f101_8 rfl rfl
theorem f101_9 : gm_ft 101 9 = some (.iastore, 1) := by decide +kernel
theorem r101_9 {E : Nat → Value} {d : Nat} {st : List Value} {h : gm_H} {r : gm_R × gm_H} {lv : List Value} {a k j : Nat} {vs : List Value} {x : Int32} (hr : gm_rd h a = some (k, vs)) (hk : 100 ≤ k ∧ k % 100 = 0 ∧ gm_ko k = 2 ∧ 2 < 3) (hj : j < 2 ^ 31) (hl : j < vs.length) : gm_Go E d 101 9 lv (.int x :: .int (nI j) :: .ref a :: st) h r ↔ gm_Go E d 101 10 lv st (gm_wr h a (k, vs.set j (.int x))) r := gr_wr m101 f101_9 rfl rfl rfl rfl rfl (ga_st hr hk hj hl)
theorem f101_10 : gm_ft 101 10 = some (.aload_n 0, 1) := by decide +kernel
theorem r101_10 {E : Nat → Value} {d : Nat} {st : List Value} {h : gm_H} {r : gm_R × gm_H} {a1 a2 a3 a4 : Value} {x : Nat} : gm_Go E d 101 10 [.ref x, a1, a2, a3, a4] st h r ↔ gm_Go E d 101 11 [.ref x, a1, a2, a3, a4] (.ref x :: st) h r := gr_loc m101 f101_10 rfl rfl
theorem r101_10n {E : Nat → Value} {d : Nat} {st : List Value} {h : gm_H} {r : gm_R × gm_H} {a1 a2 a3 a4 : Value}  : gm_Go E d 101 10 [.null, a1, a2, a3, a4] st h r ↔ gm_Go E d 101 11 [.null, a1, a2, a3, a4] (.null :: st) h r := gr_loc m101 f101_10 rfl rfl
theorem f101_11 : gm_ft 101 11 = some (.getfield 96, 3) := by decide +kernel
theorem r101_11 {E : Nat → Value} {d : Nat} {st : List Value} {h : gm_H} {r : gm_R × gm_H} {lv : List Value} {a : Nat} {vs : List Value} {v : Value} (hr : gm_rd h a = some (5, vs)) (hv : vs[41]? = some v) : gm_Go E d 101 11 lv (.ref a :: st) h r ↔ gm_Go E d 101 14 lv (v :: st) h r := gr_rd m101 f101_11 rfl rfl rfl rfl (gf_get k5_96 hr hv)
theorem f101_14 : gm_ft 101 14 = some (.aload_n 0, 1) := by decide +kernel
theorem r101_14 {E : Nat → Value} {d : Nat} {st : List Value} {h : gm_H} {r : gm_R × gm_H} {a1 a2 a3 a4 : Value} {x : Nat} : gm_Go E d 101 14 [.ref x, a1, a2, a3, a4] st h r ↔ gm_Go E d 101 15 [.ref x, a1, a2, a3, a4] (.ref x :: st) h r := gr_loc m101 f101_14 rfl rfl
theorem r101_14n {E : Nat → Value} {d : Nat} {st : List Value} {h : gm_H} {r : gm_R × gm_H} {a1 a2 a3 a4 : Value}  : gm_Go E d 101 14 [.null, a1, a2, a3, a4] st h r ↔ gm_Go E d 101 15 [.null, a1, a2, a3, a4] (.null :: st) h r := gr_loc m101 f101_14 rfl rfl
theorem f101_15 : gm_ft 101 15 = some (.getfield 175, 3) := by decide +kernel
theorem r101_15 {E : Nat → Value} {d : Nat} {st : List Value} {h : gm_H} {r : gm_R × gm_H} {lv : List Value} {a : Nat} {vs : List Value} {v : Value} (hr : gm_rd h a = some (5, vs)) (hv : vs[47]? = some v) : gm_Go E d 101 15 lv (.ref a :: st) h r ↔ gm_Go E d 101 18 lv (v :: st) h r := gr_rd m101 f101_15 rfl rfl rfl rfl (gf_get k5_175 hr hv)
theorem f101_18 : gm_ft 101 18 = some (.iconst 0, 1) := by decide +kernel
theorem r101_18 {E : Nat → Value} {d : Nat} {st : List Value} {h : gm_H} {r : gm_R × gm_H} {lv : List Value} : gm_Go E d 101 18 lv st h r ↔ gm_Go E d 101 19 lv (.int (0 : Int32) :: st) h r := gr_pure m101 f101_18 rfl
theorem f101_19 : gm_ft 101 19 = some (.iastore, 1) := by decide +kernel
theorem r101_19 {E : Nat → Value} {d : Nat} {st : List Value} {h : gm_H} {r : gm_R × gm_H} {lv : List Value} {a k j : Nat} {vs : List Value} {x : Int32} (hr : gm_rd h a = some (k, vs)) (hk : 100 ≤ k ∧ k % 100 = 0 ∧ gm_ko k = 2 ∧ 2 < 3) (hj : j < 2 ^ 31) (hl : j < vs.length) : gm_Go E d 101 19 lv (.int x :: .int (nI j) :: .ref a :: st) h r ↔ gm_Go E d 101 20 lv st (gm_wr h a (k, vs.set j (.int x))) r := gr_wr m101 f101_19 rfl rfl rfl rfl rfl (ga_st hr hk hj hl)
theorem f101_20 : gm_ft 101 20 = some (.aload_n 0, 1) := by decide +kernel
theorem r101_20 {E : Nat → Value} {d : Nat} {st : List Value} {h : gm_H} {r : gm_R × gm_H} {a1 a2 a3 a4 : Value} {x : Nat} : gm_Go E d 101 20 [.ref x, a1, a2, a3, a4] st h r ↔ gm_Go E d 101 21 [.ref x, a1, a2, a3, a4] (.ref x :: st) h r := gr_loc m101 f101_20 rfl rfl
theorem r101_20n {E : Nat → Value} {d : Nat} {st : List Value} {h : gm_H} {r : gm_R × gm_H} {a1 a2 a3 a4 : Value}  : gm_Go E d 101 20 [.null, a1, a2, a3, a4] st h r ↔ gm_Go E d 101 21 [.null, a1, a2, a3, a4] (.null :: st) h r := gr_loc m101 f101_20 rfl rfl
theorem f101_21 : gm_ft 101 21 = some (.getfield 99, 3) := by decide +kernel
theorem r101_21 {E : Nat → Value} {d : Nat} {st : List Value} {h : gm_H} {r : gm_R × gm_H} {lv : List Value} {a : Nat} {vs : List Value} {v : Value} (hr : gm_rd h a = some (5, vs)) (hv : vs[42]? = some v) : gm_Go E d 101 21 lv (.ref a :: st) h r ↔ gm_Go E d 101 24 lv (v :: st) h r := gr_rd m101 f101_21 rfl rfl rfl rfl (gf_get k5_99 hr hv)
theorem f101_24 : gm_ft 101 24 = some (.aload_n 0, 1) := by decide +kernel
theorem r101_24 {E : Nat → Value} {d : Nat} {st : List Value} {h : gm_H} {r : gm_R × gm_H} {a1 a2 a3 a4 : Value} {x : Nat} : gm_Go E d 101 24 [.ref x, a1, a2, a3, a4] st h r ↔ gm_Go E d 101 25 [.ref x, a1, a2, a3, a4] (.ref x :: st) h r := gr_loc m101 f101_24 rfl rfl
theorem r101_24n {E : Nat → Value} {d : Nat} {st : List Value} {h : gm_H} {r : gm_R × gm_H} {a1 a2 a3 a4 : Value}  : gm_Go E d 101 24 [.null, a1, a2, a3, a4] st h r ↔ gm_Go E d 101 25 [.null, a1, a2, a3, a4] (.null :: st) h r := gr_loc m101 f101_24 rfl rfl
theorem f101_25 : gm_ft 101 25 = some (.getfield 175, 3) := by decide +kernel
theorem r101_25 {E : Nat → Value} {d : Nat} {st : List Value} {h : gm_H} {r : gm_R × gm_H} {lv : List Value} {a : Nat} {vs : List Value} {v : Value} (hr : gm_rd h a = some (5, vs)) (hv : vs[47]? = some v) : gm_Go E d 101 25 lv (.ref a :: st) h r ↔ gm_Go E d 101 28 lv (v :: st) h r := gr_rd m101 f101_25 rfl rfl rfl rfl (gf_get k5_175 hr hv)
theorem f101_28 : gm_ft 101 28 = some (.iload_n 2, 1) := by decide +kernel
theorem r101_28 {E : Nat → Value} {d : Nat} {st : List Value} {h : gm_H} {r : gm_R × gm_H} {a0 a1 a3 a4 : Value} {x : Int32} : gm_Go E d 101 28 [a0, a1, .int x, a3, a4] st h r ↔ gm_Go E d 101 29 [a0, a1, .int x, a3, a4] (.int x :: st) h r := gr_loc m101 f101_28 rfl rfl
theorem f101_29 : gm_ft 101 29 = some (.iastore, 1) := by decide +kernel
theorem r101_29 {E : Nat → Value} {d : Nat} {st : List Value} {h : gm_H} {r : gm_R × gm_H} {lv : List Value} {a k j : Nat} {vs : List Value} {x : Int32} (hr : gm_rd h a = some (k, vs)) (hk : 100 ≤ k ∧ k % 100 = 0 ∧ gm_ko k = 2 ∧ 2 < 3) (hj : j < 2 ^ 31) (hl : j < vs.length) : gm_Go E d 101 29 lv (.int x :: .int (nI j) :: .ref a :: st) h r ↔ gm_Go E d 101 30 lv st (gm_wr h a (k, vs.set j (.int x))) r := gr_wr m101 f101_29 rfl rfl rfl rfl rfl (ga_st hr hk hj hl)
theorem f101_30 : gm_ft 101 30 = some (.aload_n 0, 1) := by decide +kernel
theorem r101_30 {E : Nat → Value} {d : Nat} {st : List Value} {h : gm_H} {r : gm_R × gm_H} {a1 a2 a3 a4 : Value} {x : Nat} : gm_Go E d 101 30 [.ref x, a1, a2, a3, a4] st h r ↔ gm_Go E d 101 31 [.ref x, a1, a2, a3, a4] (.ref x :: st) h r := gr_loc m101 f101_30 rfl rfl
theorem r101_30n {E : Nat → Value} {d : Nat} {st : List Value} {h : gm_H} {r : gm_R × gm_H} {a1 a2 a3 a4 : Value}  : gm_Go E d 101 30 [.null, a1, a2, a3, a4] st h r ↔ gm_Go E d 101 31 [.null, a1, a2, a3, a4] (.null :: st) h r := gr_loc m101 f101_30 rfl rfl
theorem f101_31 : gm_ft 101 31 = some (.getfield 102, 3) := by decide +kernel
theorem r101_31 {E : Nat → Value} {d : Nat} {st : List Value} {h : gm_H} {r : gm_R × gm_H} {lv : List Value} {a : Nat} {vs : List Value} {v : Value} (hr : gm_rd h a = some (5, vs)) (hv : vs[43]? = some v) : gm_Go E d 101 31 lv (.ref a :: st) h r ↔ gm_Go E d 101 34 lv (v :: st) h r := gr_rd m101 f101_31 rfl rfl rfl rfl (gf_get k5_102 hr hv)
theorem f101_34 : gm_ft 101 34 = some (.aload_n 0, 1) := by decide +kernel
theorem r101_34 {E : Nat → Value} {d : Nat} {st : List Value} {h : gm_H} {r : gm_R × gm_H} {a1 a2 a3 a4 : Value} {x : Nat} : gm_Go E d 101 34 [.ref x, a1, a2, a3, a4] st h r ↔ gm_Go E d 101 35 [.ref x, a1, a2, a3, a4] (.ref x :: st) h r := gr_loc m101 f101_34 rfl rfl
theorem r101_34n {E : Nat → Value} {d : Nat} {st : List Value} {h : gm_H} {r : gm_R × gm_H} {a1 a2 a3 a4 : Value}  : gm_Go E d 101 34 [.null, a1, a2, a3, a4] st h r ↔ gm_Go E d 101 35 [.null, a1, a2, a3, a4] (.null :: st) h r := gr_loc m101 f101_34 rfl rfl
theorem f101_35 : gm_ft 101 35 = some (.getfield 175, 3) := by decide +kernel
theorem r101_35 {E : Nat → Value} {d : Nat} {st : List Value} {h : gm_H} {r : gm_R × gm_H} {lv : List Value} {a : Nat} {vs : List Value} {v : Value} (hr : gm_rd h a = some (5, vs)) (hv : vs[47]? = some v) : gm_Go E d 101 35 lv (.ref a :: st) h r ↔ gm_Go E d 101 38 lv (v :: st) h r := gr_rd m101 f101_35 rfl rfl rfl rfl (gf_get k5_175 hr hv)
theorem f101_38 : gm_ft 101 38 = some (.iload_n 3, 1) := by decide +kernel
theorem r101_38 {E : Nat → Value} {d : Nat} {st : List Value} {h : gm_H} {r : gm_R × gm_H} {a0 a1 a2 a4 : Value} {x : Int32} : gm_Go E d 101 38 [a0, a1, a2, .int x, a4] st h r ↔ gm_Go E d 101 39 [a0, a1, a2, .int x, a4] (.int x :: st) h r := gr_loc m101 f101_38 rfl rfl
theorem f101_39 : gm_ft 101 39 = some (.iastore, 1) := by decide +kernel
theorem r101_39 {E : Nat → Value} {d : Nat} {st : List Value} {h : gm_H} {r : gm_R × gm_H} {lv : List Value} {a k j : Nat} {vs : List Value} {x : Int32} (hr : gm_rd h a = some (k, vs)) (hk : 100 ≤ k ∧ k % 100 = 0 ∧ gm_ko k = 2 ∧ 2 < 3) (hj : j < 2 ^ 31) (hl : j < vs.length) : gm_Go E d 101 39 lv (.int x :: .int (nI j) :: .ref a :: st) h r ↔ gm_Go E d 101 40 lv st (gm_wr h a (k, vs.set j (.int x))) r := gr_wr m101 f101_39 rfl rfl rfl rfl rfl (ga_st hr hk hj hl)
theorem f101_40 : gm_ft 101 40 = some (.aload_n 0, 1) := by decide +kernel
theorem r101_40 {E : Nat → Value} {d : Nat} {st : List Value} {h : gm_H} {r : gm_R × gm_H} {a1 a2 a3 a4 : Value} {x : Nat} : gm_Go E d 101 40 [.ref x, a1, a2, a3, a4] st h r ↔ gm_Go E d 101 41 [.ref x, a1, a2, a3, a4] (.ref x :: st) h r := gr_loc m101 f101_40 rfl rfl
theorem r101_40n {E : Nat → Value} {d : Nat} {st : List Value} {h : gm_H} {r : gm_R × gm_H} {a1 a2 a3 a4 : Value}  : gm_Go E d 101 40 [.null, a1, a2, a3, a4] st h r ↔ gm_Go E d 101 41 [.null, a1, a2, a3, a4] (.null :: st) h r := gr_loc m101 f101_40 rfl rfl
theorem f101_41 : gm_ft 101 41 = some (.getfield 105, 3) := by decide +kernel
theorem r101_41 {E : Nat → Value} {d : Nat} {st : List Value} {h : gm_H} {r : gm_R × gm_H} {lv : List Value} {a : Nat} {vs : List Value} {v : Value} (hr : gm_rd h a = some (5, vs)) (hv : vs[44]? = some v) : gm_Go E d 101 41 lv (.ref a :: st) h r ↔ gm_Go E d 101 44 lv (v :: st) h r := gr_rd m101 f101_41 rfl rfl rfl rfl (gf_get k5_105 hr hv)
theorem f101_44 : gm_ft 101 44 = some (.aload_n 0, 1) := by decide +kernel
theorem r101_44 {E : Nat → Value} {d : Nat} {st : List Value} {h : gm_H} {r : gm_R × gm_H} {a1 a2 a3 a4 : Value} {x : Nat} : gm_Go E d 101 44 [.ref x, a1, a2, a3, a4] st h r ↔ gm_Go E d 101 45 [.ref x, a1, a2, a3, a4] (.ref x :: st) h r := gr_loc m101 f101_44 rfl rfl
theorem r101_44n {E : Nat → Value} {d : Nat} {st : List Value} {h : gm_H} {r : gm_R × gm_H} {a1 a2 a3 a4 : Value}  : gm_Go E d 101 44 [.null, a1, a2, a3, a4] st h r ↔ gm_Go E d 101 45 [.null, a1, a2, a3, a4] (.null :: st) h r := gr_loc m101 f101_44 rfl rfl
theorem f101_45 : gm_ft 101 45 = some (.getfield 175, 3) := by decide +kernel
theorem r101_45 {E : Nat → Value} {d : Nat} {st : List Value} {h : gm_H} {r : gm_R × gm_H} {lv : List Value} {a : Nat} {vs : List Value} {v : Value} (hr : gm_rd h a = some (5, vs)) (hv : vs[47]? = some v) : gm_Go E d 101 45 lv (.ref a :: st) h r ↔ gm_Go E d 101 48 lv (v :: st) h r := gr_rd m101 f101_45 rfl rfl rfl rfl (gf_get k5_175 hr hv)
theorem f101_48 : gm_ft 101 48 = some (.iload 4, 2) := by decide +kernel
theorem r101_48 {E : Nat → Value} {d : Nat} {st : List Value} {h : gm_H} {r : gm_R × gm_H} {a0 a1 a2 a3 : Value} {x : Int32} : gm_Go E d 101 48 [a0, a1, a2, a3, .int x] st h r ↔ gm_Go E d 101 50 [a0, a1, a2, a3, .int x] (.int x :: st) h r := gr_loc m101 f101_48 rfl rfl
theorem f101_50 : gm_ft 101 50 = some (.iastore, 1) := by decide +kernel
theorem r101_50 {E : Nat → Value} {d : Nat} {st : List Value} {h : gm_H} {r : gm_R × gm_H} {lv : List Value} {a k j : Nat} {vs : List Value} {x : Int32} (hr : gm_rd h a = some (k, vs)) (hk : 100 ≤ k ∧ k % 100 = 0 ∧ gm_ko k = 2 ∧ 2 < 3) (hj : j < 2 ^ 31) (hl : j < vs.length) : gm_Go E d 101 50 lv (.int x :: .int (nI j) :: .ref a :: st) h r ↔ gm_Go E d 101 51 lv st (gm_wr h a (k, vs.set j (.int x))) r := gr_wr m101 f101_50 rfl rfl rfl rfl rfl (ga_st hr hk hj hl)
theorem f101_51 : gm_ft 101 51 = some (.aload_n 0, 1) := by decide +kernel
theorem r101_51 {E : Nat → Value} {d : Nat} {st : List Value} {h : gm_H} {r : gm_R × gm_H} {a1 a2 a3 a4 : Value} {x : Nat} : gm_Go E d 101 51 [.ref x, a1, a2, a3, a4] st h r ↔ gm_Go E d 101 52 [.ref x, a1, a2, a3, a4] (.ref x :: st) h r := gr_loc m101 f101_51 rfl rfl
theorem r101_51n {E : Nat → Value} {d : Nat} {st : List Value} {h : gm_H} {r : gm_R × gm_H} {a1 a2 a3 a4 : Value}  : gm_Go E d 101 51 [.null, a1, a2, a3, a4] st h r ↔ gm_Go E d 101 52 [.null, a1, a2, a3, a4] (.null :: st) h r := gr_loc m101 f101_51 rfl rfl
theorem f101_52 : gm_ft 101 52 = some (.getfield 108, 3) := by decide +kernel
theorem r101_52 {E : Nat → Value} {d : Nat} {st : List Value} {h : gm_H} {r : gm_R × gm_H} {lv : List Value} {a : Nat} {vs : List Value} {v : Value} (hr : gm_rd h a = some (5, vs)) (hv : vs[45]? = some v) : gm_Go E d 101 52 lv (.ref a :: st) h r ↔ gm_Go E d 101 55 lv (v :: st) h r := gr_rd m101 f101_52 rfl rfl rfl rfl (gf_get k5_108 hr hv)
theorem f101_55 : gm_ft 101 55 = some (.aload_n 0, 1) := by decide +kernel
theorem r101_55 {E : Nat → Value} {d : Nat} {st : List Value} {h : gm_H} {r : gm_R × gm_H} {a1 a2 a3 a4 : Value} {x : Nat} : gm_Go E d 101 55 [.ref x, a1, a2, a3, a4] st h r ↔ gm_Go E d 101 56 [.ref x, a1, a2, a3, a4] (.ref x :: st) h r := gr_loc m101 f101_55 rfl rfl
theorem r101_55n {E : Nat → Value} {d : Nat} {st : List Value} {h : gm_H} {r : gm_R × gm_H} {a1 a2 a3 a4 : Value}  : gm_Go E d 101 55 [.null, a1, a2, a3, a4] st h r ↔ gm_Go E d 101 56 [.null, a1, a2, a3, a4] (.null :: st) h r := gr_loc m101 f101_55 rfl rfl
theorem f101_56 : gm_ft 101 56 = some (.getfield 175, 3) := by decide +kernel
theorem r101_56 {E : Nat → Value} {d : Nat} {st : List Value} {h : gm_H} {r : gm_R × gm_H} {lv : List Value} {a : Nat} {vs : List Value} {v : Value} (hr : gm_rd h a = some (5, vs)) (hv : vs[47]? = some v) : gm_Go E d 101 56 lv (.ref a :: st) h r ↔ gm_Go E d 101 59 lv (v :: st) h r := gr_rd m101 f101_56 rfl rfl rfl rfl (gf_get k5_175 hr hv)
theorem f101_59 : gm_ft 101 59 = some (.iconst 0, 1) := by decide +kernel
theorem r101_59 {E : Nat → Value} {d : Nat} {st : List Value} {h : gm_H} {r : gm_R × gm_H} {lv : List Value} : gm_Go E d 101 59 lv st h r ↔ gm_Go E d 101 60 lv (.int (0 : Int32) :: st) h r := gr_pure m101 f101_59 rfl
theorem f101_60 : gm_ft 101 60 = some (.iastore, 1) := by decide +kernel
theorem r101_60 {E : Nat → Value} {d : Nat} {st : List Value} {h : gm_H} {r : gm_R × gm_H} {lv : List Value} {a k j : Nat} {vs : List Value} {x : Int32} (hr : gm_rd h a = some (k, vs)) (hk : 100 ≤ k ∧ k % 100 = 0 ∧ gm_ko k = 2 ∧ 2 < 3) (hj : j < 2 ^ 31) (hl : j < vs.length) : gm_Go E d 101 60 lv (.int x :: .int (nI j) :: .ref a :: st) h r ↔ gm_Go E d 101 61 lv st (gm_wr h a (k, vs.set j (.int x))) r := gr_wr m101 f101_60 rfl rfl rfl rfl rfl (ga_st hr hk hj hl)
theorem f101_61 : gm_ft 101 61 = some (.aload_n 0, 1) := by decide +kernel
theorem r101_61 {E : Nat → Value} {d : Nat} {st : List Value} {h : gm_H} {r : gm_R × gm_H} {a1 a2 a3 a4 : Value} {x : Nat} : gm_Go E d 101 61 [.ref x, a1, a2, a3, a4] st h r ↔ gm_Go E d 101 62 [.ref x, a1, a2, a3, a4] (.ref x :: st) h r := gr_loc m101 f101_61 rfl rfl
theorem r101_61n {E : Nat → Value} {d : Nat} {st : List Value} {h : gm_H} {r : gm_R × gm_H} {a1 a2 a3 a4 : Value}  : gm_Go E d 101 61 [.null, a1, a2, a3, a4] st h r ↔ gm_Go E d 101 62 [.null, a1, a2, a3, a4] (.null :: st) h r := gr_loc m101 f101_61 rfl rfl
theorem f101_62 : gm_ft 101 62 = some (.getfield 111, 3) := by decide +kernel
theorem r101_62 {E : Nat → Value} {d : Nat} {st : List Value} {h : gm_H} {r : gm_R × gm_H} {lv : List Value} {a : Nat} {vs : List Value} {v : Value} (hr : gm_rd h a = some (5, vs)) (hv : vs[46]? = some v) : gm_Go E d 101 62 lv (.ref a :: st) h r ↔ gm_Go E d 101 65 lv (v :: st) h r := gr_rd m101 f101_62 rfl rfl rfl rfl (gf_get k5_111 hr hv)
theorem f101_65 : gm_ft 101 65 = some (.aload_n 0, 1) := by decide +kernel
theorem r101_65 {E : Nat → Value} {d : Nat} {st : List Value} {h : gm_H} {r : gm_R × gm_H} {a1 a2 a3 a4 : Value} {x : Nat} : gm_Go E d 101 65 [.ref x, a1, a2, a3, a4] st h r ↔ gm_Go E d 101 66 [.ref x, a1, a2, a3, a4] (.ref x :: st) h r := gr_loc m101 f101_65 rfl rfl
theorem r101_65n {E : Nat → Value} {d : Nat} {st : List Value} {h : gm_H} {r : gm_R × gm_H} {a1 a2 a3 a4 : Value}  : gm_Go E d 101 65 [.null, a1, a2, a3, a4] st h r ↔ gm_Go E d 101 66 [.null, a1, a2, a3, a4] (.null :: st) h r := gr_loc m101 f101_65 rfl rfl
theorem f101_66 : gm_ft 101 66 = some (.getfield 175, 3) := by decide +kernel
theorem r101_66 {E : Nat → Value} {d : Nat} {st : List Value} {h : gm_H} {r : gm_R × gm_H} {lv : List Value} {a : Nat} {vs : List Value} {v : Value} (hr : gm_rd h a = some (5, vs)) (hv : vs[47]? = some v) : gm_Go E d 101 66 lv (.ref a :: st) h r ↔ gm_Go E d 101 69 lv (v :: st) h r := gr_rd m101 f101_66 rfl rfl rfl rfl (gf_get k5_175 hr hv)
theorem f101_69 : gm_ft 101 69 = some (.iconst 0, 1) := by decide +kernel
theorem r101_69 {E : Nat → Value} {d : Nat} {st : List Value} {h : gm_H} {r : gm_R × gm_H} {lv : List Value} : gm_Go E d 101 69 lv st h r ↔ gm_Go E d 101 70 lv (.int (0 : Int32) :: st) h r := gr_pure m101 f101_69 rfl
theorem f101_70 : gm_ft 101 70 = some (.iastore, 1) := by decide +kernel
theorem r101_70 {E : Nat → Value} {d : Nat} {st : List Value} {h : gm_H} {r : gm_R × gm_H} {lv : List Value} {a k j : Nat} {vs : List Value} {x : Int32} (hr : gm_rd h a = some (k, vs)) (hk : 100 ≤ k ∧ k % 100 = 0 ∧ gm_ko k = 2 ∧ 2 < 3) (hj : j < 2 ^ 31) (hl : j < vs.length) : gm_Go E d 101 70 lv (.int x :: .int (nI j) :: .ref a :: st) h r ↔ gm_Go E d 101 71 lv st (gm_wr h a (k, vs.set j (.int x))) r := gr_wr m101 f101_70 rfl rfl rfl rfl rfl (ga_st hr hk hj hl)
theorem f101_71 : gm_ft 101 71 = some (.aload_n 0, 1) := by decide +kernel
theorem r101_71 {E : Nat → Value} {d : Nat} {st : List Value} {h : gm_H} {r : gm_R × gm_H} {a1 a2 a3 a4 : Value} {x : Nat} : gm_Go E d 101 71 [.ref x, a1, a2, a3, a4] st h r ↔ gm_Go E d 101 72 [.ref x, a1, a2, a3, a4] (.ref x :: st) h r := gr_loc m101 f101_71 rfl rfl
theorem r101_71n {E : Nat → Value} {d : Nat} {st : List Value} {h : gm_H} {r : gm_R × gm_H} {a1 a2 a3 a4 : Value}  : gm_Go E d 101 71 [.null, a1, a2, a3, a4] st h r ↔ gm_Go E d 101 72 [.null, a1, a2, a3, a4] (.null :: st) h r := gr_loc m101 f101_71 rfl rfl
theorem f101_72 : gm_ft 101 72 = some (.dup, 1) := by decide +kernel
theorem r101_72 {E : Nat → Value} {d : Nat} {st : List Value} {h : gm_H} {r : gm_R × gm_H} {lv : List Value} {a : Nat} : gm_Go E d 101 72 lv (.ref a :: st) h r ↔ gm_Go E d 101 73 lv (.ref a :: .ref a :: st) h r := gr_pure m101 f101_72 rfl
theorem r101_72i {E : Nat → Value} {d : Nat} {st : List Value} {h : gm_H} {r : gm_R × gm_H} {lv : List Value} {x : Int32} : gm_Go E d 101 72 lv (.int x :: st) h r ↔ gm_Go E d 101 73 lv (.int x :: .int x :: st) h r := gr_pure m101 f101_72 rfl
theorem f101_73 : gm_ft 101 73 = some (.getfield 175, 3) := by decide +kernel
theorem r101_73 {E : Nat → Value} {d : Nat} {st : List Value} {h : gm_H} {r : gm_R × gm_H} {lv : List Value} {a : Nat} {vs : List Value} {v : Value} (hr : gm_rd h a = some (5, vs)) (hv : vs[47]? = some v) : gm_Go E d 101 73 lv (.ref a :: st) h r ↔ gm_Go E d 101 76 lv (v :: st) h r := gr_rd m101 f101_73 rfl rfl rfl rfl (gf_get k5_175 hr hv)
theorem f101_76 : gm_ft 101 76 = some (.iconst 1, 1) := by decide +kernel
theorem r101_76 {E : Nat → Value} {d : Nat} {st : List Value} {h : gm_H} {r : gm_R × gm_H} {lv : List Value} : gm_Go E d 101 76 lv st h r ↔ gm_Go E d 101 77 lv (.int (1 : Int32) :: st) h r := gr_pure m101 f101_76 rfl
theorem f101_77 : gm_ft 101 77 = some (.iadd, 1) := by decide +kernel
theorem r101_77 {E : Nat → Value} {d : Nat} {st : List Value} {h : gm_H} {r : gm_R × gm_H} {lv : List Value} {x y : Int32} : gm_Go E d 101 77 lv (.int y :: .int x :: st) h r ↔ gm_Go E d 101 78 lv (.int (x + y) :: st) h r := gr_pure m101 f101_77 rfl
theorem f101_78 : gm_ft 101 78 = some (.putfield 175, 3) := by decide +kernel
theorem r101_78 {E : Nat → Value} {d : Nat} {st : List Value} {h : gm_H} {r : gm_R × gm_H} {lv : List Value} {a : Nat} {vs : List Value} {v : Value} (hr : gm_rd h a = some (5, vs)) (hk : 47 < vs.length) (hn : narrow (gm_ty 5 47) v = v ∧ fits (gm_ty 5 47) v = true) : gm_Go E d 101 78 lv (v :: .ref a :: st) h r ↔ gm_Go E d 101 81 lv st (gm_wr h a (5, vs.set 47 v)) r := gr_wr m101 f101_78 rfl rfl rfl rfl rfl (gf_put k5_175 hr (by decide) hk hn (by decide))
theorem f101_81 : gm_ft 101 81 = some (.return_, 1) := by decide +kernel
theorem r101_81 {E : Nat → Value} {d : Nat} {h : gm_H} {r : gm_R × gm_H} {lv : List Value} : gm_Go E d 101 81 lv [] h r ↔ r = (.inl none, h) := gr_ret m101 f101_81 rfl rfl rfl rfl rfl rfl rfl rfl rfl
/-! GraphReaderModel.step()V -/
theorem m102 : gm_mt[102]? = some (⟨"GraphReaderModel", "step", "()V"⟩, prog_7_method_44_code, 2, none, [], 5, 2) := rfl
theorem f102_0 : gm_ft 102 0 = some (.aload_n 0, 1) := by decide +kernel
theorem r102_0 {E : Nat → Value} {d : Nat} {st : List Value} {h : gm_H} {r : gm_R × gm_H} {a1 : Value} {x : Nat} : gm_Go E d 102 0 [.ref x, a1] st h r ↔ gm_Go E d 102 1 [.ref x, a1] (.ref x :: st) h r := gr_loc m102 f102_0 rfl rfl
theorem r102_0n {E : Nat → Value} {d : Nat} {st : List Value} {h : gm_H} {r : gm_R × gm_H} {a1 : Value}  : gm_Go E d 102 0 [.null, a1] st h r ↔ gm_Go E d 102 1 [.null, a1] (.null :: st) h r := gr_loc m102 f102_0 rfl rfl
theorem f102_1 : gm_ft 102 1 = some (.getfield 175, 3) := by decide +kernel
theorem r102_1 {E : Nat → Value} {d : Nat} {st : List Value} {h : gm_H} {r : gm_R × gm_H} {lv : List Value} {a : Nat} {vs : List Value} {v : Value} (hr : gm_rd h a = some (5, vs)) (hv : vs[47]? = some v) : gm_Go E d 102 1 lv (.ref a :: st) h r ↔ gm_Go E d 102 4 lv (v :: st) h r := gr_rd m102 f102_1 rfl rfl rfl rfl (gf_get k5_175 hr hv)
theorem f102_4 : gm_ft 102 4 = some (.iconst 1, 1) := by decide +kernel
theorem r102_4 {E : Nat → Value} {d : Nat} {st : List Value} {h : gm_H} {r : gm_R × gm_H} {lv : List Value} : gm_Go E d 102 4 lv st h r ↔ gm_Go E d 102 5 lv (.int (1 : Int32) :: st) h r := gr_pure m102 f102_4 rfl
theorem f102_5 : gm_ft 102 5 = some (.isub, 1) := by decide +kernel
theorem r102_5 {E : Nat → Value} {d : Nat} {st : List Value} {h : gm_H} {r : gm_R × gm_H} {lv : List Value} {x y : Int32} : gm_Go E d 102 5 lv (.int y :: .int x :: st) h r ↔ gm_Go E d 102 6 lv (.int (x - y) :: st) h r := gr_pure m102 f102_5 rfl
theorem f102_6 : gm_ft 102 6 = some (.istore_n 1, 1) := by decide +kernel
theorem r102_6 {E : Nat → Value} {d : Nat} {st : List Value} {h : gm_H} {r : gm_R × gm_H} {a0 a1 : Value} {x : Int32} : gm_Go E d 102 6 [a0, a1] (.int x :: st) h r ↔ gm_Go E d 102 7 [gm_k a0, .int x] st h r := gr_loc m102 f102_6 rfl rfl
theorem f102_7 : gm_ft 102 7 = some (.aload_n 0, 1) := by decide +kernel
theorem r102_7 {E : Nat → Value} {d : Nat} {st : List Value} {h : gm_H} {r : gm_R × gm_H} {a1 : Value} {x : Nat} : gm_Go E d 102 7 [.ref x, a1] st h r ↔ gm_Go E d 102 8 [.ref x, a1] (.ref x :: st) h r := gr_loc m102 f102_7 rfl rfl
theorem r102_7n {E : Nat → Value} {d : Nat} {st : List Value} {h : gm_H} {r : gm_R × gm_H} {a1 : Value}  : gm_Go E d 102 7 [.null, a1] st h r ↔ gm_Go E d 102 8 [.null, a1] (.null :: st) h r := gr_loc m102 f102_7 rfl rfl
theorem f102_8 : gm_ft 102 8 = some (.getfield 93, 3) := by decide +kernel
theorem r102_8 {E : Nat → Value} {d : Nat} {st : List Value} {h : gm_H} {r : gm_R × gm_H} {lv : List Value} {a : Nat} {vs : List Value} {v : Value} (hr : gm_rd h a = some (5, vs)) (hv : vs[40]? = some v) : gm_Go E d 102 8 lv (.ref a :: st) h r ↔ gm_Go E d 102 11 lv (v :: st) h r := gr_rd m102 f102_8 rfl rfl rfl rfl (gf_get k5_93 hr hv)
theorem f102_11 : gm_ft 102 11 = some (.iload_n 1, 1) := by decide +kernel
theorem r102_11 {E : Nat → Value} {d : Nat} {st : List Value} {h : gm_H} {r : gm_R × gm_H} {a0 : Value} {x : Int32} : gm_Go E d 102 11 [a0, .int x] st h r ↔ gm_Go E d 102 12 [a0, .int x] (.int x :: st) h r := gr_loc m102 f102_11 rfl rfl
theorem f102_12 : gm_ft 102 12 = some (.iaload, 1) := by decide +kernel
theorem r102_12 {E : Nat → Value} {d : Nat} {st : List Value} {h : gm_H} {r : gm_R × gm_H} {lv : List Value} {a k j : Nat} {vs : List Value} {v : Value} (hr : gm_rd h a = some (k, vs)) (hk : 100 ≤ k ∧ (fun t => t == 0) (k % 100) = true) (hj : j < 2 ^ 31) (hv : vs[j]? = some v) : gm_Go E d 102 12 lv (.int (nI j) :: .ref a :: st) h r ↔ gm_Go E d 102 13 lv (v :: st) h r := gr_rd m102 f102_12 rfl rfl rfl rfl (ga_ld (P := fun t => t == 0) hr hk hj hv)
theorem f102_13 : gm_ft 102 13 = some (.iconst 1, 1) := by decide +kernel
theorem r102_13 {E : Nat → Value} {d : Nat} {st : List Value} {h : gm_H} {r : gm_R × gm_H} {lv : List Value} : gm_Go E d 102 13 lv st h r ↔ gm_Go E d 102 14 lv (.int (1 : Int32) :: st) h r := gr_pure m102 f102_13 rfl
theorem f102_14 : gm_ft 102 14 = some (.if_icmp .ne 11, 3) := by decide +kernel
theorem r102_14 {E : Nat → Value} {d : Nat} {st : List Value} {h : gm_H} {r : gm_R × gm_H} {lv : List Value} {x y : Int32} : gm_Go E d 102 14 lv (.int y :: .int x :: st) h r ↔ (if x = y then gm_Go E d 102 17 lv st h r else gm_Go E d 102 25 lv st h r) := (gr_br m102 f102_14 rfl rfl rfl rfl).trans gr_ifn
theorem f102_17 : gm_ft 102 17 = some (.aload_n 0, 1) := by decide +kernel
theorem r102_17 {E : Nat → Value} {d : Nat} {st : List Value} {h : gm_H} {r : gm_R × gm_H} {a1 : Value} {x : Nat} : gm_Go E d 102 17 [.ref x, a1] st h r ↔ gm_Go E d 102 18 [.ref x, a1] (.ref x :: st) h r := gr_loc m102 f102_17 rfl rfl
theorem r102_17n {E : Nat → Value} {d : Nat} {st : List Value} {h : gm_H} {r : gm_R × gm_H} {a1 : Value}  : gm_Go E d 102 17 [.null, a1] st h r ↔ gm_Go E d 102 18 [.null, a1] (.null :: st) h r := gr_loc m102 f102_17 rfl rfl
theorem f102_18 : gm_ft 102 18 = some (.iload_n 1, 1) := by decide +kernel
theorem r102_18 {E : Nat → Value} {d : Nat} {st : List Value} {h : gm_H} {r : gm_R × gm_H} {a0 : Value} {x : Int32} : gm_Go E d 102 18 [a0, .int x] st h r ↔ gm_Go E d 102 19 [a0, .int x] (.int x :: st) h r := gr_loc m102 f102_18 rfl rfl
theorem f102_19 : gm_ft 102 19 = some (.invokevirtual 280, 3) := by decide +kernel
theorem n102_19 {st : List Value} {h : gm_H} {E : Nat → Value} {lv : List Value} {b0 : Value} {a : Nat} (hs : (st.map fun v => v.category).sum ≤ 8) (he : (gm_en1 [.ref a, b0]).length ≤ 2) {vs : List Value} (hr : gm_rd h a = some (5, vs)) : gm_next E 102 19 lv (b0 :: .ref a :: st) h = some (.inr (.inl (0, 103, [.ref a, b0], st))) := gn_call m102 f102_19 rfl rfl rfl rfl rfl rfl rfl (gc_virt (bs := [b0]) (w := 864) rfl rfl rfl rfl hs he hr) (by decide)
theorem f102_22 : gm_ft 102 22 = some (.goto 44, 3) := by decide +kernel
theorem r102_22 {E : Nat → Value} {d : Nat} {st : List Value} {h : gm_H} {r : gm_R × gm_H} {lv : List Value} : gm_Go E d 102 22 lv st h r ↔ gm_Go E d 102 66 lv st h r := gr_brT m102 f102_22 rfl rfl rfl rfl
theorem f102_25 : gm_ft 102 25 = some (.aload_n 0, 1) := by decide +kernel
theorem r102_25 {E : Nat → Value} {d : Nat} {st : List Value} {h : gm_H} {r : gm_R × gm_H} {a1 : Value} {x : Nat} : gm_Go E d 102 25 [.ref x, a1] st h r ↔ gm_Go E d 102 26 [.ref x, a1] (.ref x :: st) h r := gr_loc m102 f102_25 rfl rfl
theorem r102_25n {E : Nat → Value} {d : Nat} {st : List Value} {h : gm_H} {r : gm_R × gm_H} {a1 : Value}  : gm_Go E d 102 25 [.null, a1] st h r ↔ gm_Go E d 102 26 [.null, a1] (.null :: st) h r := gr_loc m102 f102_25 rfl rfl
theorem f102_26 : gm_ft 102 26 = some (.getfield 93, 3) := by decide +kernel
theorem r102_26 {E : Nat → Value} {d : Nat} {st : List Value} {h : gm_H} {r : gm_R × gm_H} {lv : List Value} {a : Nat} {vs : List Value} {v : Value} (hr : gm_rd h a = some (5, vs)) (hv : vs[40]? = some v) : gm_Go E d 102 26 lv (.ref a :: st) h r ↔ gm_Go E d 102 29 lv (v :: st) h r := gr_rd m102 f102_26 rfl rfl rfl rfl (gf_get k5_93 hr hv)
theorem f102_29 : gm_ft 102 29 = some (.iload_n 1, 1) := by decide +kernel
theorem r102_29 {E : Nat → Value} {d : Nat} {st : List Value} {h : gm_H} {r : gm_R × gm_H} {a0 : Value} {x : Int32} : gm_Go E d 102 29 [a0, .int x] st h r ↔ gm_Go E d 102 30 [a0, .int x] (.int x :: st) h r := gr_loc m102 f102_29 rfl rfl
theorem f102_30 : gm_ft 102 30 = some (.iaload, 1) := by decide +kernel
theorem r102_30 {E : Nat → Value} {d : Nat} {st : List Value} {h : gm_H} {r : gm_R × gm_H} {lv : List Value} {a k j : Nat} {vs : List Value} {v : Value} (hr : gm_rd h a = some (k, vs)) (hk : 100 ≤ k ∧ (fun t => t == 0) (k % 100) = true) (hj : j < 2 ^ 31) (hv : vs[j]? = some v) : gm_Go E d 102 30 lv (.int (nI j) :: .ref a :: st) h r ↔ gm_Go E d 102 31 lv (v :: st) h r := gr_rd m102 f102_30 rfl rfl rfl rfl (ga_ld (P := fun t => t == 0) hr hk hj hv)
theorem f102_31 : gm_ft 102 31 = some (.iconst 2, 1) := by decide +kernel
theorem r102_31 {E : Nat → Value} {d : Nat} {st : List Value} {h : gm_H} {r : gm_R × gm_H} {lv : List Value} : gm_Go E d 102 31 lv st h r ↔ gm_Go E d 102 32 lv (.int (2 : Int32) :: st) h r := gr_pure m102 f102_31 rfl
theorem f102_32 : gm_ft 102 32 = some (.if_icmp .ne 11, 3) := by decide +kernel
theorem r102_32 {E : Nat → Value} {d : Nat} {st : List Value} {h : gm_H} {r : gm_R × gm_H} {lv : List Value} {x y : Int32} : gm_Go E d 102 32 lv (.int y :: .int x :: st) h r ↔ (if x = y then gm_Go E d 102 35 lv st h r else gm_Go E d 102 43 lv st h r) := (gr_br m102 f102_32 rfl rfl rfl rfl).trans gr_ifn
theorem f102_35 : gm_ft 102 35 = some (.aload_n 0, 1) := by decide +kernel
theorem r102_35 {E : Nat → Value} {d : Nat} {st : List Value} {h : gm_H} {r : gm_R × gm_H} {a1 : Value} {x : Nat} : gm_Go E d 102 35 [.ref x, a1] st h r ↔ gm_Go E d 102 36 [.ref x, a1] (.ref x :: st) h r := gr_loc m102 f102_35 rfl rfl
theorem r102_35n {E : Nat → Value} {d : Nat} {st : List Value} {h : gm_H} {r : gm_R × gm_H} {a1 : Value}  : gm_Go E d 102 35 [.null, a1] st h r ↔ gm_Go E d 102 36 [.null, a1] (.null :: st) h r := gr_loc m102 f102_35 rfl rfl
theorem f102_36 : gm_ft 102 36 = some (.iload_n 1, 1) := by decide +kernel
theorem r102_36 {E : Nat → Value} {d : Nat} {st : List Value} {h : gm_H} {r : gm_R × gm_H} {a0 : Value} {x : Int32} : gm_Go E d 102 36 [a0, .int x] st h r ↔ gm_Go E d 102 37 [a0, .int x] (.int x :: st) h r := gr_loc m102 f102_36 rfl rfl
theorem f102_37 : gm_ft 102 37 = some (.invokevirtual 283, 3) := by decide +kernel
theorem n102_37 {st : List Value} {h : gm_H} {E : Nat → Value} {lv : List Value} {b0 : Value} {a : Nat} (hs : (st.map fun v => v.category).sum ≤ 8) (he : (gm_en1 [.ref a, b0]).length ≤ 2) {vs : List Value} (hr : gm_rd h a = some (5, vs)) : gm_next E 102 37 lv (b0 :: .ref a :: st) h = some (.inr (.inl (0, 119, [.ref a, b0], st))) := gn_call m102 f102_37 rfl rfl rfl rfl rfl rfl rfl (gc_virt (bs := [b0]) (w := 931) rfl rfl rfl rfl hs he hr) (by decide)
theorem f102_40 : gm_ft 102 40 = some (.goto 26, 3) := by decide +kernel
theorem r102_40 {E : Nat → Value} {d : Nat} {st : List Value} {h : gm_H} {r : gm_R × gm_H} {lv : List Value} : gm_Go E d 102 40 lv st h r ↔ gm_Go E d 102 66 lv st h r := gr_brT m102 f102_40 rfl rfl rfl rfl
theorem f102_43 : gm_ft 102 43 = some (.aload_n 0, 1) := by decide +kernel
theorem r102_43 {E : Nat → Value} {d : Nat} {st : List Value} {h : gm_H} {r : gm_R × gm_H} {a1 : Value} {x : Nat} : gm_Go E d 102 43 [.ref x, a1] st h r ↔ gm_Go E d 102 44 [.ref x, a1] (.ref x :: st) h r := gr_loc m102 f102_43 rfl rfl
theorem r102_43n {E : Nat → Value} {d : Nat} {st : List Value} {h : gm_H} {r : gm_R × gm_H} {a1 : Value}  : gm_Go E d 102 43 [.null, a1] st h r ↔ gm_Go E d 102 44 [.null, a1] (.null :: st) h r := gr_loc m102 f102_43 rfl rfl
theorem f102_44 : gm_ft 102 44 = some (.getfield 93, 3) := by decide +kernel
theorem r102_44 {E : Nat → Value} {d : Nat} {st : List Value} {h : gm_H} {r : gm_R × gm_H} {lv : List Value} {a : Nat} {vs : List Value} {v : Value} (hr : gm_rd h a = some (5, vs)) (hv : vs[40]? = some v) : gm_Go E d 102 44 lv (.ref a :: st) h r ↔ gm_Go E d 102 47 lv (v :: st) h r := gr_rd m102 f102_44 rfl rfl rfl rfl (gf_get k5_93 hr hv)
theorem f102_47 : gm_ft 102 47 = some (.iload_n 1, 1) := by decide +kernel
theorem r102_47 {E : Nat → Value} {d : Nat} {st : List Value} {h : gm_H} {r : gm_R × gm_H} {a0 : Value} {x : Int32} : gm_Go E d 102 47 [a0, .int x] st h r ↔ gm_Go E d 102 48 [a0, .int x] (.int x :: st) h r := gr_loc m102 f102_47 rfl rfl
theorem f102_48 : gm_ft 102 48 = some (.iaload, 1) := by decide +kernel
theorem r102_48 {E : Nat → Value} {d : Nat} {st : List Value} {h : gm_H} {r : gm_R × gm_H} {lv : List Value} {a k j : Nat} {vs : List Value} {v : Value} (hr : gm_rd h a = some (k, vs)) (hk : 100 ≤ k ∧ (fun t => t == 0) (k % 100) = true) (hj : j < 2 ^ 31) (hv : vs[j]? = some v) : gm_Go E d 102 48 lv (.int (nI j) :: .ref a :: st) h r ↔ gm_Go E d 102 49 lv (v :: st) h r := gr_rd m102 f102_48 rfl rfl rfl rfl (ga_ld (P := fun t => t == 0) hr hk hj hv)
theorem f102_49 : gm_ft 102 49 = some (.iconst 3, 1) := by decide +kernel
theorem r102_49 {E : Nat → Value} {d : Nat} {st : List Value} {h : gm_H} {r : gm_R × gm_H} {lv : List Value} : gm_Go E d 102 49 lv st h r ↔ gm_Go E d 102 50 lv (.int (3 : Int32) :: st) h r := gr_pure m102 f102_49 rfl
theorem f102_50 : gm_ft 102 50 = some (.if_icmp .ne 11, 3) := by decide +kernel
theorem r102_50 {E : Nat → Value} {d : Nat} {st : List Value} {h : gm_H} {r : gm_R × gm_H} {lv : List Value} {x y : Int32} : gm_Go E d 102 50 lv (.int y :: .int x :: st) h r ↔ (if x = y then gm_Go E d 102 53 lv st h r else gm_Go E d 102 61 lv st h r) := (gr_br m102 f102_50 rfl rfl rfl rfl).trans gr_ifn
theorem f102_53 : gm_ft 102 53 = some (.aload_n 0, 1) := by decide +kernel
theorem r102_53 {E : Nat → Value} {d : Nat} {st : List Value} {h : gm_H} {r : gm_R × gm_H} {a1 : Value} {x : Nat} : gm_Go E d 102 53 [.ref x, a1] st h r ↔ gm_Go E d 102 54 [.ref x, a1] (.ref x :: st) h r := gr_loc m102 f102_53 rfl rfl
theorem r102_53n {E : Nat → Value} {d : Nat} {st : List Value} {h : gm_H} {r : gm_R × gm_H} {a1 : Value}  : gm_Go E d 102 53 [.null, a1] st h r ↔ gm_Go E d 102 54 [.null, a1] (.null :: st) h r := gr_loc m102 f102_53 rfl rfl
theorem f102_54 : gm_ft 102 54 = some (.iload_n 1, 1) := by decide +kernel
theorem r102_54 {E : Nat → Value} {d : Nat} {st : List Value} {h : gm_H} {r : gm_R × gm_H} {a0 : Value} {x : Int32} : gm_Go E d 102 54 [a0, .int x] st h r ↔ gm_Go E d 102 55 [a0, .int x] (.int x :: st) h r := gr_loc m102 f102_54 rfl rfl
theorem f102_55 : gm_ft 102 55 = some (.invokevirtual 286, 3) := by decide +kernel
theorem n102_55 {st : List Value} {h : gm_H} {E : Nat → Value} {lv : List Value} {b0 : Value} {a : Nat} (hs : (st.map fun v => v.category).sum ≤ 8) (he : (gm_en1 [.ref a, b0]).length ≤ 7) {vs : List Value} (hr : gm_rd h a = some (5, vs)) : gm_next E 102 55 lv (b0 :: .ref a :: st) h = some (.inr (.inl (0, 126, [.ref a, b0], st))) := gn_call m102 f102_55 rfl rfl rfl rfl rfl rfl rfl (gc_virt (bs := [b0]) (w := 961) rfl rfl rfl rfl hs he hr) (by decide)
theorem f102_58 : gm_ft 102 58 = some (.goto 8, 3) := by decide +kernel
theorem r102_58 {E : Nat → Value} {d : Nat} {st : List Value} {h : gm_H} {r : gm_R × gm_H} {lv : List Value} : gm_Go E d 102 58 lv st h r ↔ gm_Go E d 102 66 lv st h r := gr_brT m102 f102_58 rfl rfl rfl rfl
theorem f102_61 : gm_ft 102 61 = some (.aload_n 0, 1) := by decide +kernel
theorem r102_61 {E : Nat → Value} {d : Nat} {st : List Value} {h : gm_H} {r : gm_R × gm_H} {a1 : Value} {x : Nat} : gm_Go E d 102 61 [.ref x, a1] st h r ↔ gm_Go E d 102 62 [.ref x, a1] (.ref x :: st) h r := gr_loc m102 f102_61 rfl rfl
theorem r102_61n {E : Nat → Value} {d : Nat} {st : List Value} {h : gm_H} {r : gm_R × gm_H} {a1 : Value}  : gm_Go E d 102 61 [.null, a1] st h r ↔ gm_Go E d 102 62 [.null, a1] (.null :: st) h r := gr_loc m102 f102_61 rfl rfl
theorem f102_62 : gm_ft 102 62 = some (.iload_n 1, 1) := by decide +kernel
theorem r102_62 {E : Nat → Value} {d : Nat} {st : List Value} {h : gm_H} {r : gm_R × gm_H} {a0 : Value} {x : Int32} : gm_Go E d 102 62 [a0, .int x] st h r ↔ gm_Go E d 102 63 [a0, .int x] (.int x :: st) h r := gr_loc m102 f102_62 rfl rfl
theorem f102_63 : gm_ft 102 63 = some (.invokevirtual 289, 3) := by decide +kernel
theorem n102_63 {st : List Value} {h : gm_H} {E : Nat → Value} {lv : List Value} {b0 : Value} {a : Nat} (hs : (st.map fun v => v.category).sum ≤ 8) (he : (gm_en1 [.ref a, b0]).length ≤ 4) {vs : List Value} (hr : gm_rd h a = some (5, vs)) : gm_next E 102 63 lv (b0 :: .ref a :: st) h = some (.inr (.inl (0, 132, [.ref a, b0], st))) := gn_call m102 f102_63 rfl rfl rfl rfl rfl rfl rfl (gc_virt (bs := [b0]) (w := 985) rfl rfl rfl rfl hs he hr) (by decide)
theorem f102_66 : gm_ft 102 66 = some (.return_, 1) := by decide +kernel
theorem r102_66 {E : Nat → Value} {d : Nat} {h : gm_H} {r : gm_R × gm_H} {lv : List Value} : gm_Go E d 102 66 lv [] h r ↔ r = (.inl none, h) := gr_ret m102 f102_66 rfl rfl rfl rfl rfl rfl rfl rfl rfl
/-! GraphReaderModel.stepRead(I)V -/
theorem m103 : gm_mt[103]? = some (⟨"GraphReaderModel", "stepRead", "(I)V"⟩, prog_7_method_29_code, 2, none, [], 5, 2) := rfl
theorem f103_0 : gm_ft 103 0 = some (.aload_n 0, 1) := by decide +kernel
theorem r103_0 {E : Nat → Value} {d : Nat} {st : List Value} {h : gm_H} {r : gm_R × gm_H} {a1 : Value} {x : Nat} : gm_Go E d 103 0 [.ref x, a1] st h r ↔ gm_Go E d 103 1 [.ref x, a1] (.ref x :: st) h r := gr_loc m103 f103_0 rfl rfl
theorem r103_0n {E : Nat → Value} {d : Nat} {st : List Value} {h : gm_H} {r : gm_R × gm_H} {a1 : Value}  : gm_Go E d 103 0 [.null, a1] st h r ↔ gm_Go E d 103 1 [.null, a1] (.null :: st) h r := gr_loc m103 f103_0 rfl rfl
theorem f103_1 : gm_ft 103 1 = some (.getfield 96, 3) := by decide +kernel
theorem r103_1 {E : Nat → Value} {d : Nat} {st : List Value} {h : gm_H} {r : gm_R × gm_H} {lv : List Value} {a : Nat} {vs : List Value} {v : Value} (hr : gm_rd h a = some (5, vs)) (hv : vs[41]? = some v) : gm_Go E d 103 1 lv (.ref a :: st) h r ↔ gm_Go E d 103 4 lv (v :: st) h r := gr_rd m103 f103_1 rfl rfl rfl rfl (gf_get k5_96 hr hv)
theorem f103_4 : gm_ft 103 4 = some (.iload_n 1, 1) := by decide +kernel
theorem r103_4 {E : Nat → Value} {d : Nat} {st : List Value} {h : gm_H} {r : gm_R × gm_H} {a0 : Value} {x : Int32} : gm_Go E d 103 4 [a0, .int x] st h r ↔ gm_Go E d 103 5 [a0, .int x] (.int x :: st) h r := gr_loc m103 f103_4 rfl rfl
theorem f103_5 : gm_ft 103 5 = some (.iaload, 1) := by decide +kernel
theorem r103_5 {E : Nat → Value} {d : Nat} {st : List Value} {h : gm_H} {r : gm_R × gm_H} {lv : List Value} {a k j : Nat} {vs : List Value} {v : Value} (hr : gm_rd h a = some (k, vs)) (hk : 100 ≤ k ∧ (fun t => t == 0) (k % 100) = true) (hj : j < 2 ^ 31) (hv : vs[j]? = some v) : gm_Go E d 103 5 lv (.int (nI j) :: .ref a :: st) h r ↔ gm_Go E d 103 6 lv (v :: st) h r := gr_rd m103 f103_5 rfl rfl rfl rfl (ga_ld (P := fun t => t == 0) hr hk hj hv)
theorem f103_6 : gm_ft 103 6 = some (.tableswitch 136 0 6 #[42, 50, 58, 66, 74, 120, 128], 42) := by decide +kernel
theorem r103_6d {E : Nat → Value} {d : Nat} {st : List Value} {h : gm_H} {r : gm_R × gm_H} {lv : List Value} {x : Int32} (hx : x.toInt < 0 ∨ 6 < x.toInt) : gm_Go E d 103 6 lv (.int x :: st) h r ↔ gm_Go E d 103 142 lv st h r := gr_sw m103 f103_6 rfl rfl rfl (by unfold gm_sw; dsimp only; rw [if_pos hx]) rfl
theorem r103_6_0 {E : Nat → Value} {d : Nat} {st : List Value} {h : gm_H} {r : gm_R × gm_H} {lv : List Value} : gm_Go E d 103 6 lv (.int (0 : Int32) :: st) h r ↔ gm_Go E d 103 48 lv st h r := gr_sw m103 f103_6 rfl rfl rfl rfl rfl
theorem r103_6_1 {E : Nat → Value} {d : Nat} {st : List Value} {h : gm_H} {r : gm_R × gm_H} {lv : List Value} : gm_Go E d 103 6 lv (.int (1 : Int32) :: st) h r ↔ gm_Go E d 103 56 lv st h r := gr_sw m103 f103_6 rfl rfl rfl rfl rfl
theorem r103_6_2 {E : Nat → Value} {d : Nat} {st : List Value} {h : gm_H} {r : gm_R × gm_H} {lv : List Value} : gm_Go E d 103 6 lv (.int (2 : Int32) :: st) h r ↔ gm_Go E d 103 64 lv st h r := gr_sw m103 f103_6 rfl rfl rfl rfl rfl
theorem r103_6_3 {E : Nat → Value} {d : Nat} {st : List Value} {h : gm_H} {r : gm_R × gm_H} {lv : List Value} : gm_Go E d 103 6 lv (.int (3 : Int32) :: st) h r ↔ gm_Go E d 103 72 lv st h r := gr_sw m103 f103_6 rfl rfl rfl rfl rfl
theorem r103_6_4 {E : Nat → Value} {d : Nat} {st : List Value} {h : gm_H} {r : gm_R × gm_H} {lv : List Value} : gm_Go E d 103 6 lv (.int (4 : Int32) :: st) h r ↔ gm_Go E d 103 80 lv st h r := gr_sw m103 f103_6 rfl rfl rfl rfl rfl
theorem r103_6_5 {E : Nat → Value} {d : Nat} {st : List Value} {h : gm_H} {r : gm_R × gm_H} {lv : List Value} : gm_Go E d 103 6 lv (.int (5 : Int32) :: st) h r ↔ gm_Go E d 103 126 lv st h r := gr_sw m103 f103_6 rfl rfl rfl rfl rfl
theorem r103_6_6 {E : Nat → Value} {d : Nat} {st : List Value} {h : gm_H} {r : gm_R × gm_H} {lv : List Value} : gm_Go E d 103 6 lv (.int (6 : Int32) :: st) h r ↔ gm_Go E d 103 134 lv st h r := gr_sw m103 f103_6 rfl rfl rfl rfl rfl
theorem f103_48 : gm_ft 103 48 = some (.aload_n 0, 1) := by decide +kernel
theorem r103_48 {E : Nat → Value} {d : Nat} {st : List Value} {h : gm_H} {r : gm_R × gm_H} {a1 : Value} {x : Nat} : gm_Go E d 103 48 [.ref x, a1] st h r ↔ gm_Go E d 103 49 [.ref x, a1] (.ref x :: st) h r := gr_loc m103 f103_48 rfl rfl
theorem r103_48n {E : Nat → Value} {d : Nat} {st : List Value} {h : gm_H} {r : gm_R × gm_H} {a1 : Value}  : gm_Go E d 103 48 [.null, a1] st h r ↔ gm_Go E d 103 49 [.null, a1] (.null :: st) h r := gr_loc m103 f103_48 rfl rfl
theorem f103_49 : gm_ft 103 49 = some (.iload_n 1, 1) := by decide +kernel
theorem r103_49 {E : Nat → Value} {d : Nat} {st : List Value} {h : gm_H} {r : gm_R × gm_H} {a0 : Value} {x : Int32} : gm_Go E d 103 49 [a0, .int x] st h r ↔ gm_Go E d 103 50 [a0, .int x] (.int x :: st) h r := gr_loc m103 f103_49 rfl rfl
theorem f103_50 : gm_ft 103 50 = some (.invokevirtual 219, 3) := by decide +kernel
theorem n103_50 {st : List Value} {h : gm_H} {E : Nat → Value} {lv : List Value} {b0 : Value} {a : Nat} (hs : (st.map fun v => v.category).sum ≤ 8) (he : (gm_en1 [.ref a, b0]).length ≤ 6) {vs : List Value} (hr : gm_rd h a = some (5, vs)) : gm_next E 103 50 lv (b0 :: .ref a :: st) h = some (.inr (.inl (0, 104, [.ref a, b0], st))) := gn_call m103 f103_50 rfl rfl rfl rfl rfl rfl rfl (gc_virt (bs := [b0]) (w := 868) rfl rfl rfl rfl hs he hr) (by decide)
theorem f103_53 : gm_ft 103 53 = some (.goto 95, 3) := by decide +kernel
theorem r103_53 {E : Nat → Value} {d : Nat} {st : List Value} {h : gm_H} {r : gm_R × gm_H} {lv : List Value} : gm_Go E d 103 53 lv st h r ↔ gm_Go E d 103 148 lv st h r := gr_brT m103 f103_53 rfl rfl rfl rfl
theorem f103_56 : gm_ft 103 56 = some (.aload_n 0, 1) := by decide +kernel
theorem r103_56 {E : Nat → Value} {d : Nat} {st : List Value} {h : gm_H} {r : gm_R × gm_H} {a1 : Value} {x : Nat} : gm_Go E d 103 56 [.ref x, a1] st h r ↔ gm_Go E d 103 57 [.ref x, a1] (.ref x :: st) h r := gr_loc m103 f103_56 rfl rfl
theorem r103_56n {E : Nat → Value} {d : Nat} {st : List Value} {h : gm_H} {r : gm_R × gm_H} {a1 : Value}  : gm_Go E d 103 56 [.null, a1] st h r ↔ gm_Go E d 103 57 [.null, a1] (.null :: st) h r := gr_loc m103 f103_56 rfl rfl
theorem f103_57 : gm_ft 103 57 = some (.iload_n 1, 1) := by decide +kernel
theorem r103_57 {E : Nat → Value} {d : Nat} {st : List Value} {h : gm_H} {r : gm_R × gm_H} {a0 : Value} {x : Int32} : gm_Go E d 103 57 [a0, .int x] st h r ↔ gm_Go E d 103 58 [a0, .int x] (.int x :: st) h r := gr_loc m103 f103_57 rfl rfl
theorem f103_58 : gm_ft 103 58 = some (.invokevirtual 222, 3) := by decide +kernel
theorem n103_58 {st : List Value} {h : gm_H} {E : Nat → Value} {lv : List Value} {b0 : Value} {a : Nat} (hs : (st.map fun v => v.category).sum ≤ 8) (he : (gm_en1 [.ref a, b0]).length ≤ 9) {vs : List Value} (hr : gm_rd h a = some (5, vs)) : gm_next E 103 58 lv (b0 :: .ref a :: st) h = some (.inr (.inl (0, 111, [.ref a, b0], st))) := gn_call m103 f103_58 rfl rfl rfl rfl rfl rfl rfl (gc_virt (bs := [b0]) (w := 897) rfl rfl rfl rfl hs he hr) (by decide)
theorem f103_61 : gm_ft 103 61 = some (.goto 87, 3) := by decide +kernel
theorem r103_61 {E : Nat → Value} {d : Nat} {st : List Value} {h : gm_H} {r : gm_R × gm_H} {lv : List Value} : gm_Go E d 103 61 lv st h r ↔ gm_Go E d 103 148 lv st h r := gr_brT m103 f103_61 rfl rfl rfl rfl
theorem f103_64 : gm_ft 103 64 = some (.aload_n 0, 1) := by decide +kernel
theorem r103_64 {E : Nat → Value} {d : Nat} {st : List Value} {h : gm_H} {r : gm_R × gm_H} {a1 : Value} {x : Nat} : gm_Go E d 103 64 [.ref x, a1] st h r ↔ gm_Go E d 103 65 [.ref x, a1] (.ref x :: st) h r := gr_loc m103 f103_64 rfl rfl
theorem r103_64n {E : Nat → Value} {d : Nat} {st : List Value} {h : gm_H} {r : gm_R × gm_H} {a1 : Value}  : gm_Go E d 103 64 [.null, a1] st h r ↔ gm_Go E d 103 65 [.null, a1] (.null :: st) h r := gr_loc m103 f103_64 rfl rfl
theorem f103_65 : gm_ft 103 65 = some (.iload_n 1, 1) := by decide +kernel
theorem r103_65 {E : Nat → Value} {d : Nat} {st : List Value} {h : gm_H} {r : gm_R × gm_H} {a0 : Value} {x : Int32} : gm_Go E d 103 65 [a0, .int x] st h r ↔ gm_Go E d 103 66 [a0, .int x] (.int x :: st) h r := gr_loc m103 f103_65 rfl rfl
theorem f103_66 : gm_ft 103 66 = some (.invokevirtual 225, 3) := by decide +kernel
theorem n103_66 {st : List Value} {h : gm_H} {E : Nat → Value} {lv : List Value} {b0 : Value} {a : Nat} (hs : (st.map fun v => v.category).sum ≤ 8) (he : (gm_en1 [.ref a, b0]).length ≤ 4) {vs : List Value} (hr : gm_rd h a = some (5, vs)) : gm_next E 103 66 lv (b0 :: .ref a :: st) h = some (.inr (.inl (0, 114, [.ref a, b0], st))) := gn_call m103 f103_66 rfl rfl rfl rfl rfl rfl rfl (gc_virt (bs := [b0]) (w := 911) rfl rfl rfl rfl hs he hr) (by decide)
theorem f103_69 : gm_ft 103 69 = some (.goto 79, 3) := by decide +kernel
theorem r103_69 {E : Nat → Value} {d : Nat} {st : List Value} {h : gm_H} {r : gm_R × gm_H} {lv : List Value} : gm_Go E d 103 69 lv st h r ↔ gm_Go E d 103 148 lv st h r := gr_brT m103 f103_69 rfl rfl rfl rfl
theorem f103_72 : gm_ft 103 72 = some (.aload_n 0, 1) := by decide +kernel
theorem r103_72 {E : Nat → Value} {d : Nat} {st : List Value} {h : gm_H} {r : gm_R × gm_H} {a1 : Value} {x : Nat} : gm_Go E d 103 72 [.ref x, a1] st h r ↔ gm_Go E d 103 73 [.ref x, a1] (.ref x :: st) h r := gr_loc m103 f103_72 rfl rfl
theorem r103_72n {E : Nat → Value} {d : Nat} {st : List Value} {h : gm_H} {r : gm_R × gm_H} {a1 : Value}  : gm_Go E d 103 72 [.null, a1] st h r ↔ gm_Go E d 103 73 [.null, a1] (.null :: st) h r := gr_loc m103 f103_72 rfl rfl
theorem f103_73 : gm_ft 103 73 = some (.iload_n 1, 1) := by decide +kernel
theorem r103_73 {E : Nat → Value} {d : Nat} {st : List Value} {h : gm_H} {r : gm_R × gm_H} {a0 : Value} {x : Int32} : gm_Go E d 103 73 [a0, .int x] st h r ↔ gm_Go E d 103 74 [a0, .int x] (.int x :: st) h r := gr_loc m103 f103_73 rfl rfl
theorem f103_74 : gm_ft 103 74 = some (.invokevirtual 228, 3) := by decide +kernel
theorem n103_74 {st : List Value} {h : gm_H} {E : Nat → Value} {lv : List Value} {b0 : Value} {a : Nat} (hs : (st.map fun v => v.category).sum ≤ 8) (he : (gm_en1 [.ref a, b0]).length ≤ 8) {vs : List Value} (hr : gm_rd h a = some (5, vs)) : gm_next E 103 74 lv (b0 :: .ref a :: st) h = some (.inr (.inl (0, 115, [.ref a, b0], st))) := gn_call m103 f103_74 rfl rfl rfl rfl rfl rfl rfl (gc_virt (bs := [b0]) (w := 915) rfl rfl rfl rfl hs he hr) (by decide)
theorem f103_77 : gm_ft 103 77 = some (.goto 71, 3) := by decide +kernel
theorem r103_77 {E : Nat → Value} {d : Nat} {st : List Value} {h : gm_H} {r : gm_R × gm_H} {lv : List Value} : gm_Go E d 103 77 lv st h r ↔ gm_Go E d 103 148 lv st h r := gr_brT m103 f103_77 rfl rfl rfl rfl
theorem f103_80 : gm_ft 103 80 = some (.aload_n 0, 1) := by decide +kernel
theorem r103_80 {E : Nat → Value} {d : Nat} {st : List Value} {h : gm_H} {r : gm_R × gm_H} {a1 : Value} {x : Nat} : gm_Go E d 103 80 [.ref x, a1] st h r ↔ gm_Go E d 103 81 [.ref x, a1] (.ref x :: st) h r := gr_loc m103 f103_80 rfl rfl
theorem r103_80n {E : Nat → Value} {d : Nat} {st : List Value} {h : gm_H} {r : gm_R × gm_H} {a1 : Value}  : gm_Go E d 103 80 [.null, a1] st h r ↔ gm_Go E d 103 81 [.null, a1] (.null :: st) h r := gr_loc m103 f103_80 rfl rfl
theorem f103_81 : gm_ft 103 81 = some (.getfield 54, 3) := by decide +kernel
theorem r103_81 {E : Nat → Value} {d : Nat} {st : List Value} {h : gm_H} {r : gm_R × gm_H} {lv : List Value} {a : Nat} {vs : List Value} {v : Value} (hr : gm_rd h a = some (5, vs)) (hv : vs[24]? = some v) : gm_Go E d 103 81 lv (.ref a :: st) h r ↔ gm_Go E d 103 84 lv (v :: st) h r := gr_rd m103 f103_81 rfl rfl rfl rfl (gf_get k5_54 hr hv)
theorem f103_84 : gm_ft 103 84 = some (.aload_n 0, 1) := by decide +kernel
theorem r103_84 {E : Nat → Value} {d : Nat} {st : List Value} {h : gm_H} {r : gm_R × gm_H} {a1 : Value} {x : Nat} : gm_Go E d 103 84 [.ref x, a1] st h r ↔ gm_Go E d 103 85 [.ref x, a1] (.ref x :: st) h r := gr_loc m103 f103_84 rfl rfl
theorem r103_84n {E : Nat → Value} {d : Nat} {st : List Value} {h : gm_H} {r : gm_R × gm_H} {a1 : Value}  : gm_Go E d 103 84 [.null, a1] st h r ↔ gm_Go E d 103 85 [.null, a1] (.null :: st) h r := gr_loc m103 f103_84 rfl rfl
theorem f103_85 : gm_ft 103 85 = some (.getfield 48, 3) := by decide +kernel
theorem r103_85 {E : Nat → Value} {d : Nat} {st : List Value} {h : gm_H} {r : gm_R × gm_H} {lv : List Value} {a : Nat} {vs : List Value} {v : Value} (hr : gm_rd h a = some (5, vs)) (hv : vs[21]? = some v) : gm_Go E d 103 85 lv (.ref a :: st) h r ↔ gm_Go E d 103 88 lv (v :: st) h r := gr_rd m103 f103_85 rfl rfl rfl rfl (gf_get k5_48 hr hv)
theorem f103_88 : gm_ft 103 88 = some (.aload_n 0, 1) := by decide +kernel
theorem r103_88 {E : Nat → Value} {d : Nat} {st : List Value} {h : gm_H} {r : gm_R × gm_H} {a1 : Value} {x : Nat} : gm_Go E d 103 88 [.ref x, a1] st h r ↔ gm_Go E d 103 89 [.ref x, a1] (.ref x :: st) h r := gr_loc m103 f103_88 rfl rfl
theorem r103_88n {E : Nat → Value} {d : Nat} {st : List Value} {h : gm_H} {r : gm_R × gm_H} {a1 : Value}  : gm_Go E d 103 88 [.null, a1] st h r ↔ gm_Go E d 103 89 [.null, a1] (.null :: st) h r := gr_loc m103 f103_88 rfl rfl
theorem f103_89 : gm_ft 103 89 = some (.getfield 102, 3) := by decide +kernel
theorem r103_89 {E : Nat → Value} {d : Nat} {st : List Value} {h : gm_H} {r : gm_R × gm_H} {lv : List Value} {a : Nat} {vs : List Value} {v : Value} (hr : gm_rd h a = some (5, vs)) (hv : vs[43]? = some v) : gm_Go E d 103 89 lv (.ref a :: st) h r ↔ gm_Go E d 103 92 lv (v :: st) h r := gr_rd m103 f103_89 rfl rfl rfl rfl (gf_get k5_102 hr hv)
theorem f103_92 : gm_ft 103 92 = some (.iload_n 1, 1) := by decide +kernel
theorem r103_92 {E : Nat → Value} {d : Nat} {st : List Value} {h : gm_H} {r : gm_R × gm_H} {a0 : Value} {x : Int32} : gm_Go E d 103 92 [a0, .int x] st h r ↔ gm_Go E d 103 93 [a0, .int x] (.int x :: st) h r := gr_loc m103 f103_92 rfl rfl
theorem f103_93 : gm_ft 103 93 = some (.iaload, 1) := by decide +kernel
theorem r103_93 {E : Nat → Value} {d : Nat} {st : List Value} {h : gm_H} {r : gm_R × gm_H} {lv : List Value} {a k j : Nat} {vs : List Value} {v : Value} (hr : gm_rd h a = some (k, vs)) (hk : 100 ≤ k ∧ (fun t => t == 0) (k % 100) = true) (hj : j < 2 ^ 31) (hv : vs[j]? = some v) : gm_Go E d 103 93 lv (.int (nI j) :: .ref a :: st) h r ↔ gm_Go E d 103 94 lv (v :: st) h r := gr_rd m103 f103_93 rfl rfl rfl rfl (ga_ld (P := fun t => t == 0) hr hk hj hv)
theorem f103_94 : gm_ft 103 94 = some (.iaload, 1) := by decide +kernel
theorem r103_94 {E : Nat → Value} {d : Nat} {st : List Value} {h : gm_H} {r : gm_R × gm_H} {lv : List Value} {a k j : Nat} {vs : List Value} {v : Value} (hr : gm_rd h a = some (k, vs)) (hk : 100 ≤ k ∧ (fun t => t == 0) (k % 100) = true) (hj : j < 2 ^ 31) (hv : vs[j]? = some v) : gm_Go E d 103 94 lv (.int (nI j) :: .ref a :: st) h r ↔ gm_Go E d 103 95 lv (v :: st) h r := gr_rd m103 f103_94 rfl rfl rfl rfl (ga_ld (P := fun t => t == 0) hr hk hj hv)
theorem f103_95 : gm_ft 103 95 = some (.aload_n 0, 1) := by decide +kernel
theorem r103_95 {E : Nat → Value} {d : Nat} {st : List Value} {h : gm_H} {r : gm_R × gm_H} {a1 : Value} {x : Nat} : gm_Go E d 103 95 [.ref x, a1] st h r ↔ gm_Go E d 103 96 [.ref x, a1] (.ref x :: st) h r := gr_loc m103 f103_95 rfl rfl
theorem r103_95n {E : Nat → Value} {d : Nat} {st : List Value} {h : gm_H} {r : gm_R × gm_H} {a1 : Value}  : gm_Go E d 103 95 [.null, a1] st h r ↔ gm_Go E d 103 96 [.null, a1] (.null :: st) h r := gr_loc m103 f103_95 rfl rfl
theorem f103_96 : gm_ft 103 96 = some (.getfield 105, 3) := by decide +kernel
theorem r103_96 {E : Nat → Value} {d : Nat} {st : List Value} {h : gm_H} {r : gm_R × gm_H} {lv : List Value} {a : Nat} {vs : List Value} {v : Value} (hr : gm_rd h a = some (5, vs)) (hv : vs[44]? = some v) : gm_Go E d 103 96 lv (.ref a :: st) h r ↔ gm_Go E d 103 99 lv (v :: st) h r := gr_rd m103 f103_96 rfl rfl rfl rfl (gf_get k5_105 hr hv)
theorem f103_99 : gm_ft 103 99 = some (.iload_n 1, 1) := by decide +kernel
theorem r103_99 {E : Nat → Value} {d : Nat} {st : List Value} {h : gm_H} {r : gm_R × gm_H} {a0 : Value} {x : Int32} : gm_Go E d 103 99 [a0, .int x] st h r ↔ gm_Go E d 103 100 [a0, .int x] (.int x :: st) h r := gr_loc m103 f103_99 rfl rfl
theorem f103_100 : gm_ft 103 100 = some (.iaload, 1) := by decide +kernel
theorem r103_100 {E : Nat → Value} {d : Nat} {st : List Value} {h : gm_H} {r : gm_R × gm_H} {lv : List Value} {a k j : Nat} {vs : List Value} {v : Value} (hr : gm_rd h a = some (k, vs)) (hk : 100 ≤ k ∧ (fun t => t == 0) (k % 100) = true) (hj : j < 2 ^ 31) (hv : vs[j]? = some v) : gm_Go E d 103 100 lv (.int (nI j) :: .ref a :: st) h r ↔ gm_Go E d 103 101 lv (v :: st) h r := gr_rd m103 f103_100 rfl rfl rfl rfl (ga_ld (P := fun t => t == 0) hr hk hj hv)
theorem f103_101 : gm_ft 103 101 = some (.iadd, 1) := by decide +kernel
theorem r103_101 {E : Nat → Value} {d : Nat} {st : List Value} {h : gm_H} {r : gm_R × gm_H} {lv : List Value} {x y : Int32} : gm_Go E d 103 101 lv (.int y :: .int x :: st) h r ↔ gm_Go E d 103 102 lv (.int (x + y) :: st) h r := gr_pure m103 f103_101 rfl
theorem f103_102 : gm_ft 103 102 = some (.aload_n 0, 1) := by decide +kernel
theorem r103_102 {E : Nat → Value} {d : Nat} {st : List Value} {h : gm_H} {r : gm_R × gm_H} {a1 : Value} {x : Nat} : gm_Go E d 103 102 [.ref x, a1] st h r ↔ gm_Go E d 103 103 [.ref x, a1] (.ref x :: st) h r := gr_loc m103 f103_102 rfl rfl
theorem r103_102n {E : Nat → Value} {d : Nat} {st : List Value} {h : gm_H} {r : gm_R × gm_H} {a1 : Value}  : gm_Go E d 103 102 [.null, a1] st h r ↔ gm_Go E d 103 103 [.null, a1] (.null :: st) h r := gr_loc m103 f103_102 rfl rfl
theorem f103_103 : gm_ft 103 103 = some (.getfield 178, 3) := by decide +kernel
theorem r103_103 {E : Nat → Value} {d : Nat} {st : List Value} {h : gm_H} {r : gm_R × gm_H} {lv : List Value} {a : Nat} {vs : List Value} {v : Value} (hr : gm_rd h a = some (5, vs)) (hv : vs[9]? = some v) : gm_Go E d 103 103 lv (.ref a :: st) h r ↔ gm_Go E d 103 106 lv (v :: st) h r := gr_rd m103 f103_103 rfl rfl rfl rfl (gf_get k5_178 hr hv)
theorem f103_106 : gm_ft 103 106 = some (.i2l, 1) := by decide +kernel
theorem r103_106 {E : Nat → Value} {d : Nat} {st : List Value} {h : gm_H} {r : gm_R × gm_H} {lv : List Value} {x : Int32} : gm_Go E d 103 106 lv (.int x :: st) h r ↔ gm_Go E d 103 107 lv (.long (x.toInt64) :: st) h r := gr_pure m103 f103_106 rfl
theorem f103_107 : gm_ft 103 107 = some (.lastore, 1) := by decide +kernel
theorem r103_107 {E : Nat → Value} {d : Nat} {st : List Value} {h : gm_H} {r : gm_R × gm_H} {lv : List Value} {a k j : Nat} {vs : List Value} {x : Int64} (hr : gm_rd h a = some (k, vs)) (hk : 100 ≤ k ∧ k % 100 = 1 ∧ gm_ko k = 2 ∧ 2 < 3) (hj : j < 2 ^ 31) (hl : j < vs.length) : gm_Go E d 103 107 lv (.long x :: .int (nI j) :: .ref a :: st) h r ↔ gm_Go E d 103 108 lv st (gm_wr h a (k, vs.set j (.long x))) r := gr_wr m103 f103_107 rfl rfl rfl rfl rfl (ga_st hr hk hj hl)
theorem f103_108 : gm_ft 103 108 = some (.aload_n 0, 1) := by decide +kernel
theorem r103_108 {E : Nat → Value} {d : Nat} {st : List Value} {h : gm_H} {r : gm_R × gm_H} {a1 : Value} {x : Nat} : gm_Go E d 103 108 [.ref x, a1] st h r ↔ gm_Go E d 103 109 [.ref x, a1] (.ref x :: st) h r := gr_loc m103 f103_108 rfl rfl
theorem r103_108n {E : Nat → Value} {d : Nat} {st : List Value} {h : gm_H} {r : gm_R × gm_H} {a1 : Value}  : gm_Go E d 103 108 [.null, a1] st h r ↔ gm_Go E d 103 109 [.null, a1] (.null :: st) h r := gr_loc m103 f103_108 rfl rfl
theorem f103_109 : gm_ft 103 109 = some (.getfield 105, 3) := by decide +kernel
theorem r103_109 {E : Nat → Value} {d : Nat} {st : List Value} {h : gm_H} {r : gm_R × gm_H} {lv : List Value} {a : Nat} {vs : List Value} {v : Value} (hr : gm_rd h a = some (5, vs)) (hv : vs[44]? = some v) : gm_Go E d 103 109 lv (.ref a :: st) h r ↔ gm_Go E d 103 112 lv (v :: st) h r := gr_rd m103 f103_109 rfl rfl rfl rfl (gf_get k5_105 hr hv)
theorem f103_112 : gm_ft 103 112 = some (.iload_n 1, 1) := by decide +kernel
theorem r103_112 {E : Nat → Value} {d : Nat} {st : List Value} {h : gm_H} {r : gm_R × gm_H} {a0 : Value} {x : Int32} : gm_Go E d 103 112 [a0, .int x] st h r ↔ gm_Go E d 103 113 [a0, .int x] (.int x :: st) h r := gr_loc m103 f103_112 rfl rfl
theorem f103_113 : gm_ft 103 113 = some (.dup2, 1) := by decide +kernel
theorem r103_113 {E : Nat → Value} {d : Nat} {st : List Value} {h : gm_H} {r : gm_R × gm_H} {lv : List Value} {x : Int32} {a : Nat} : gm_Go E d 103 113 lv (.int x :: .ref a :: st) h r ↔ gm_Go E d 103 114 lv (.int x :: .ref a :: .int x :: .ref a :: st) h r := gr_pure m103 f103_113 rfl
theorem f103_114 : gm_ft 103 114 = some (.iaload, 1) := by decide +kernel
theorem r103_114 {E : Nat → Value} {d : Nat} {st : List Value} {h : gm_H} {r : gm_R × gm_H} {lv : List Value} {a k j : Nat} {vs : List Value} {v : Value} (hr : gm_rd h a = some (k, vs)) (hk : 100 ≤ k ∧ (fun t => t == 0) (k % 100) = true) (hj : j < 2 ^ 31) (hv : vs[j]? = some v) : gm_Go E d 103 114 lv (.int (nI j) :: .ref a :: st) h r ↔ gm_Go E d 103 115 lv (v :: st) h r := gr_rd m103 f103_114 rfl rfl rfl rfl (ga_ld (P := fun t => t == 0) hr hk hj hv)
theorem f103_115 : gm_ft 103 115 = some (.iconst 1, 1) := by decide +kernel
theorem r103_115 {E : Nat → Value} {d : Nat} {st : List Value} {h : gm_H} {r : gm_R × gm_H} {lv : List Value} : gm_Go E d 103 115 lv st h r ↔ gm_Go E d 103 116 lv (.int (1 : Int32) :: st) h r := gr_pure m103 f103_115 rfl
theorem f103_116 : gm_ft 103 116 = some (.iadd, 1) := by decide +kernel
theorem r103_116 {E : Nat → Value} {d : Nat} {st : List Value} {h : gm_H} {r : gm_R × gm_H} {lv : List Value} {x y : Int32} : gm_Go E d 103 116 lv (.int y :: .int x :: st) h r ↔ gm_Go E d 103 117 lv (.int (x + y) :: st) h r := gr_pure m103 f103_116 rfl
theorem f103_117 : gm_ft 103 117 = some (.iastore, 1) := by decide +kernel
theorem r103_117 {E : Nat → Value} {d : Nat} {st : List Value} {h : gm_H} {r : gm_R × gm_H} {lv : List Value} {a k j : Nat} {vs : List Value} {x : Int32} (hr : gm_rd h a = some (k, vs)) (hk : 100 ≤ k ∧ k % 100 = 0 ∧ gm_ko k = 2 ∧ 2 < 3) (hj : j < 2 ^ 31) (hl : j < vs.length) : gm_Go E d 103 117 lv (.int x :: .int (nI j) :: .ref a :: st) h r ↔ gm_Go E d 103 118 lv st (gm_wr h a (k, vs.set j (.int x))) r := gr_wr m103 f103_117 rfl rfl rfl rfl rfl (ga_st hr hk hj hl)
theorem f103_118 : gm_ft 103 118 = some (.aload_n 0, 1) := by decide +kernel
theorem r103_118 {E : Nat → Value} {d : Nat} {st : List Value} {h : gm_H} {r : gm_R × gm_H} {a1 : Value} {x : Nat} : gm_Go E d 103 118 [.ref x, a1] st h r ↔ gm_Go E d 103 119 [.ref x, a1] (.ref x :: st) h r := gr_loc m103 f103_118 rfl rfl
theorem r103_118n {E : Nat → Value} {d : Nat} {st : List Value} {h : gm_H} {r : gm_R × gm_H} {a1 : Value}  : gm_Go E d 103 118 [.null, a1] st h r ↔ gm_Go E d 103 119 [.null, a1] (.null :: st) h r := gr_loc m103 f103_118 rfl rfl
theorem f103_119 : gm_ft 103 119 = some (.iload_n 1, 1) := by decide +kernel
theorem r103_119 {E : Nat → Value} {d : Nat} {st : List Value} {h : gm_H} {r : gm_R × gm_H} {a0 : Value} {x : Int32} : gm_Go E d 103 119 [a0, .int x] st h r ↔ gm_Go E d 103 120 [a0, .int x] (.int x :: st) h r := gr_loc m103 f103_119 rfl rfl
theorem f103_120 : gm_ft 103 120 = some (.invokevirtual 216, 3) := by decide +kernel
theorem n103_120 {st : List Value} {h : gm_H} {E : Nat → Value} {lv : List Value} {b0 : Value} {a : Nat} (hs : (st.map fun v => v.category).sum ≤ 8) (he : (gm_en1 [.ref a, b0]).length ≤ 2) {vs : List Value} (hr : gm_rd h a = some (5, vs)) : gm_next E 103 120 lv (b0 :: .ref a :: st) h = some (.inr (.inl (0, 116, [.ref a, b0], st))) := gn_call m103 f103_120 rfl rfl rfl rfl rfl rfl rfl (gc_virt (bs := [b0]) (w := 919) rfl rfl rfl rfl hs he hr) (by decide)
theorem f103_123 : gm_ft 103 123 = some (.goto 25, 3) := by decide +kernel
theorem r103_123 {E : Nat → Value} {d : Nat} {st : List Value} {h : gm_H} {r : gm_R × gm_H} {lv : List Value} : gm_Go E d 103 123 lv st h r ↔ gm_Go E d 103 148 lv st h r := gr_brT m103 f103_123 rfl rfl rfl rfl
theorem f103_126 : gm_ft 103 126 = some (.aload_n 0, 1) := by decide +kernel
theorem r103_126 {E : Nat → Value} {d : Nat} {st : List Value} {h : gm_H} {r : gm_R × gm_H} {a1 : Value} {x : Nat} : gm_Go E d 103 126 [.ref x, a1] st h r ↔ gm_Go E d 103 127 [.ref x, a1] (.ref x :: st) h r := gr_loc m103 f103_126 rfl rfl
theorem r103_126n {E : Nat → Value} {d : Nat} {st : List Value} {h : gm_H} {r : gm_R × gm_H} {a1 : Value}  : gm_Go E d 103 126 [.null, a1] st h r ↔ gm_Go E d 103 127 [.null, a1] (.null :: st) h r := gr_loc m103 f103_126 rfl rfl
theorem f103_127 : gm_ft 103 127 = some (.iload_n 1, 1) := by decide +kernel
theorem r103_127 {E : Nat → Value} {d : Nat} {st : List Value} {h : gm_H} {r : gm_R × gm_H} {a0 : Value} {x : Int32} : gm_Go E d 103 127 [a0, .int x] st h r ↔ gm_Go E d 103 128 [a0, .int x] (.int x :: st) h r := gr_loc m103 f103_127 rfl rfl
theorem f103_128 : gm_ft 103 128 = some (.invokevirtual 231, 3) := by decide +kernel
theorem n103_128 {st : List Value} {h : gm_H} {E : Nat → Value} {lv : List Value} {b0 : Value} {a : Nat} (hs : (st.map fun v => v.category).sum ≤ 8) (he : (gm_en1 [.ref a, b0]).length ≤ 3) {vs : List Value} (hr : gm_rd h a = some (5, vs)) : gm_next E 103 128 lv (b0 :: .ref a :: st) h = some (.inr (.inl (0, 117, [.ref a, b0], st))) := gn_call m103 f103_128 rfl rfl rfl rfl rfl rfl rfl (gc_virt (bs := [b0]) (w := 923) rfl rfl rfl rfl hs he hr) (by decide)
theorem f103_131 : gm_ft 103 131 = some (.goto 17, 3) := by decide +kernel
theorem r103_131 {E : Nat → Value} {d : Nat} {st : List Value} {h : gm_H} {r : gm_R × gm_H} {lv : List Value} : gm_Go E d 103 131 lv st h r ↔ gm_Go E d 103 148 lv st h r := gr_brT m103 f103_131 rfl rfl rfl rfl
theorem f103_134 : gm_ft 103 134 = some (.aload_n 0, 1) := by decide +kernel
theorem r103_134 {E : Nat → Value} {d : Nat} {st : List Value} {h : gm_H} {r : gm_R × gm_H} {a1 : Value} {x : Nat} : gm_Go E d 103 134 [.ref x, a1] st h r ↔ gm_Go E d 103 135 [.ref x, a1] (.ref x :: st) h r := gr_loc m103 f103_134 rfl rfl
theorem r103_134n {E : Nat → Value} {d : Nat} {st : List Value} {h : gm_H} {r : gm_R × gm_H} {a1 : Value}  : gm_Go E d 103 134 [.null, a1] st h r ↔ gm_Go E d 103 135 [.null, a1] (.null :: st) h r := gr_loc m103 f103_134 rfl rfl
theorem f103_135 : gm_ft 103 135 = some (.iload_n 1, 1) := by decide +kernel
theorem r103_135 {E : Nat → Value} {d : Nat} {st : List Value} {h : gm_H} {r : gm_R × gm_H} {a0 : Value} {x : Int32} : gm_Go E d 103 135 [a0, .int x] st h r ↔ gm_Go E d 103 136 [a0, .int x] (.int x :: st) h r := gr_loc m103 f103_135 rfl rfl
theorem f103_136 : gm_ft 103 136 = some (.invokevirtual 234, 3) := by decide +kernel
theorem n103_136 {st : List Value} {h : gm_H} {E : Nat → Value} {lv : List Value} {b0 : Value} {a : Nat} (hs : (st.map fun v => v.category).sum ≤ 8) (he : (gm_en1 [.ref a, b0]).length ≤ 8) {vs : List Value} (hr : gm_rd h a = some (5, vs)) : gm_next E 103 136 lv (b0 :: .ref a :: st) h = some (.inr (.inl (0, 118, [.ref a, b0], st))) := gn_call m103 f103_136 rfl rfl rfl rfl rfl rfl rfl (gc_virt (bs := [b0]) (w := 927) rfl rfl rfl rfl hs he hr) (by decide)
theorem f103_139 : gm_ft 103 139 = some (.goto 9, 3) := by decide +kernel
theorem r103_139 {E : Nat → Value} {d : Nat} {st : List Value} {h : gm_H} {r : gm_R × gm_H} {lv : List Value} : gm_Go E d 103 139 lv st h r ↔ gm_Go E d 103 148 lv st h r := gr_brT m103 f103_139 rfl rfl rfl rfl
theorem f103_142 : gm_ft 103 142 = some (.aload_n 0, 1) := by decide +kernel
theorem r103_142 {E : Nat → Value} {d : Nat} {st : List Value} {h : gm_H} {r : gm_R × gm_H} {a1 : Value} {x : Nat} : gm_Go E d 103 142 [.ref x, a1] st h r ↔ gm_Go E d 103 143 [.ref x, a1] (.ref x :: st) h r := gr_loc m103 f103_142 rfl rfl
theorem r103_142n {E : Nat → Value} {d : Nat} {st : List Value} {h : gm_H} {r : gm_R × gm_H} {a1 : Value}  : gm_Go E d 103 142 [.null, a1] st h r ↔ gm_Go E d 103 143 [.null, a1] (.null :: st) h r := gr_loc m103 f103_142 rfl rfl
theorem f103_143 : gm_ft 103 143 = some (.bipush (-2), 2) := by decide +kernel
theorem r103_143 {E : Nat → Value} {d : Nat} {st : List Value} {h : gm_H} {r : gm_R × gm_H} {lv : List Value} : gm_Go E d 103 143 lv st h r ↔ gm_Go E d 103 145 lv (.int (-2 : Int32) :: st) h r := gr_pure m103 f103_143 rfl
theorem f103_145 : gm_ft 103 145 = some (.invokevirtual 182, 3) := by decide +kernel
theorem n103_145 {st : List Value} {h : gm_H} {E : Nat → Value} {lv : List Value} {b0 : Value} {a : Nat} (hs : (st.map fun v => v.category).sum ≤ 8) (he : (gm_en1 [.ref a, b0]).length ≤ 2) {vs : List Value} (hr : gm_rd h a = some (5, vs)) : gm_next E 103 145 lv (b0 :: .ref a :: st) h = some (.inr (.inl (0, 105, [.ref a, b0], st))) := gn_call m103 f103_145 rfl rfl rfl rfl rfl rfl rfl (gc_virt (bs := [b0]) (w := 872) rfl rfl rfl rfl hs he hr) (by decide)
theorem f103_148 : gm_ft 103 148 = some (.return_, 1) := by decide +kernel
theorem r103_148 {E : Nat → Value} {d : Nat} {h : gm_H} {r : gm_R × gm_H} {lv : List Value} : gm_Go E d 103 148 lv [] h r ↔ r = (.inl none, h) := gr_ret m103 f103_148 rfl rfl rfl rfl rfl rfl rfl rfl rfl
