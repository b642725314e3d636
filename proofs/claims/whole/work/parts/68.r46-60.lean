/-! java/lang/StringLatin1.indexOfChar([BIII)I -/
theorem m46 : gm_mt[46]? = some (⟨"java/lang/StringLatin1", "indexOfChar", "([BIII)I"⟩, prog_14_method_23_code, 6, (some .int), [], 9, 3) := rfl
theorem f46_0 : gm_ft 46 0 = some (.iload_n 1, 1) := by decide +kernel
theorem r46_0 {E : Nat → Value} {d : Nat} {st : List Value} {h : gm_H} {r : gm_R × gm_H} {a0 a2 a3 a4 a5 : Value} {x : Int32} : gm_Go E d 46 0 [a0, .int x, a2, a3, a4, a5] st h r ↔ gm_Go E d 46 1 [a0, .int x, a2, a3, a4, a5] (.int x :: st) h r := gr_loc m46 f46_0 rfl rfl
theorem f46_1 : gm_ft 46 1 = some (.i2b, 1) := by decide +kernel
theorem r46_1 {E : Nat → Value} {d : Nat} {st : List Value} {h : gm_H} {r : gm_R × gm_H} {lv : List Value} {x : Int32} : gm_Go E d 46 1 lv (.int x :: st) h r ↔ gm_Go E d 46 2 lv (.int (x.toInt8.toInt32) :: st) h r := gr_pure m46 f46_1 rfl
theorem f46_2 : gm_ft 46 2 = some (.istore 4, 2) := by decide +kernel
theorem r46_2 {E : Nat → Value} {d : Nat} {st : List Value} {h : gm_H} {r : gm_R × gm_H} {a0 a1 a2 a3 a4 a5 : Value} {x : Int32} : gm_Go E d 46 2 [a0, a1, a2, a3, a4, a5] (.int x :: st) h r ↔ gm_Go E d 46 4 [a0, a1, a2, gm_k a3, .int x, a5] st h r := gr_loc m46 f46_2 rfl rfl
theorem f46_4 : gm_ft 46 4 = some (.iload_n 2, 1) := by decide +kernel
theorem r46_4 {E : Nat → Value} {d : Nat} {st : List Value} {h : gm_H} {r : gm_R × gm_H} {a0 a1 a3 a4 a5 : Value} {x : Int32} : gm_Go E d 46 4 [a0, a1, .int x, a3, a4, a5] st h r ↔ gm_Go E d 46 5 [a0, a1, .int x, a3, a4, a5] (.int x :: st) h r := gr_loc m46 f46_4 rfl rfl
theorem f46_5 : gm_ft 46 5 = some (.istore 5, 2) := by decide +kernel
theorem r46_5 {E : Nat → Value} {d : Nat} {st : List Value} {h : gm_H} {r : gm_R × gm_H} {a0 a1 a2 a3 a4 a5 : Value} {x : Int32} : gm_Go E d 46 5 [a0, a1, a2, a3, a4, a5] (.int x :: st) h r ↔ gm_Go E d 46 7 [a0, a1, a2, a3, gm_k a4, .int x] st h r := gr_loc m46 f46_5 rfl rfl
theorem f46_7 : gm_ft 46 7 = some (.iload 5, 2) := by decide +kernel
theorem r46_7 {E : Nat → Value} {d : Nat} {st : List Value} {h : gm_H} {r : gm_R × gm_H} {a0 a1 a2 a3 a4 : Value} {x : Int32} : gm_Go E d 46 7 [a0, a1, a2, a3, a4, .int x] st h r ↔ gm_Go E d 46 9 [a0, a1, a2, a3, a4, .int x] (.int x :: st) h r := gr_loc m46 f46_7 rfl rfl
theorem f46_9 : gm_ft 46 9 = some (.iload_n 3, 1) := by decide +kernel
theorem r46_9 {E : Nat → Value} {d : Nat} {st : List Value} {h : gm_H} {r : gm_R × gm_H} {a0 a1 a2 a4 a5 : Value} {x : Int32} : gm_Go E d 46 9 [a0, a1, a2, .int x, a4, a5] st h r ↔ gm_Go E d 46 10 [a0, a1, a2, .int x, a4, a5] (.int x :: st) h r := gr_loc m46 f46_9 rfl rfl
theorem f46_10 : gm_ft 46 10 = some (.if_icmp .ge 21, 3) := by decide +kernel
theorem r46_10 {E : Nat → Value} {d : Nat} {st : List Value} {h : gm_H} {r : gm_R × gm_H} {lv : List Value} {x y : Int32} : gm_Go E d 46 10 lv (.int y :: .int x :: st) h r ↔ (if y ≤ x then gm_Go E d 46 31 lv st h r else gm_Go E d 46 13 lv st h r) := (gr_br m46 f46_10 rfl rfl rfl rfl).trans gr_if
theorem f46_13 : gm_ft 46 13 = some (.aload_n 0, 1) := by decide +kernel
theorem r46_13 {E : Nat → Value} {d : Nat} {st : List Value} {h : gm_H} {r : gm_R × gm_H} {a1 a2 a3 a4 a5 : Value} {x : Nat} : gm_Go E d 46 13 [.ref x, a1, a2, a3, a4, a5] st h r ↔ gm_Go E d 46 14 [.ref x, a1, a2, a3, a4, a5] (.ref x :: st) h r := gr_loc m46 f46_13 rfl rfl
theorem r46_13n {E : Nat → Value} {d : Nat} {st : List Value} {h : gm_H} {r : gm_R × gm_H} {a1 a2 a3 a4 a5 : Value}  : gm_Go E d 46 13 [.null, a1, a2, a3, a4, a5] st h r ↔ gm_Go E d 46 14 [.null, a1, a2, a3, a4, a5] (.null :: st) h r := gr_loc m46 f46_13 rfl rfl
theorem f46_14 : gm_ft 46 14 = some (.iload 5, 2) := by decide +kernel
theorem r46_14 {E : Nat → Value} {d : Nat} {st : List Value} {h : gm_H} {r : gm_R × gm_H} {a0 a1 a2 a3 a4 : Value} {x : Int32} : gm_Go E d 46 14 [a0, a1, a2, a3, a4, .int x] st h r ↔ gm_Go E d 46 16 [a0, a1, a2, a3, a4, .int x] (.int x :: st) h r := gr_loc m46 f46_14 rfl rfl
theorem f46_16 : gm_ft 46 16 = some (.baload, 1) := by decide +kernel
theorem r46_16 {E : Nat → Value} {d : Nat} {st : List Value} {h : gm_H} {r : gm_R × gm_H} {lv : List Value} {a k j : Nat} {vs : List Value} {v : Value} (hr : gm_rd h a = some (k, vs)) (hk : 100 ≤ k ∧ (fun t => t == 2 || t == 3) (k % 100) = true) (hj : j < 2 ^ 31) (hv : vs[j]? = some v) : gm_Go E d 46 16 lv (.int (nI j) :: .ref a :: st) h r ↔ gm_Go E d 46 17 lv (v :: st) h r := gr_rd m46 f46_16 rfl rfl rfl rfl (ga_ld (P := fun t => t == 2 || t == 3) hr hk hj hv)
theorem f46_17 : gm_ft 46 17 = some (.iload 4, 2) := by decide +kernel
theorem r46_17 {E : Nat → Value} {d : Nat} {st : List Value} {h : gm_H} {r : gm_R × gm_H} {a0 a1 a2 a3 a5 : Value} {x : Int32} : gm_Go E d 46 17 [a0, a1, a2, a3, .int x, a5] st h r ↔ gm_Go E d 46 19 [a0, a1, a2, a3, .int x, a5] (.int x :: st) h r := gr_loc m46 f46_17 rfl rfl
theorem f46_19 : gm_ft 46 19 = some (.if_icmp .ne 6, 3) := by decide +kernel
theorem r46_19 {E : Nat → Value} {d : Nat} {st : List Value} {h : gm_H} {r : gm_R × gm_H} {lv : List Value} {x y : Int32} : gm_Go E d 46 19 lv (.int y :: .int x :: st) h r ↔ (if x = y then gm_Go E d 46 22 lv st h r else gm_Go E d 46 25 lv st h r) := (gr_br m46 f46_19 rfl rfl rfl rfl).trans gr_ifn
theorem f46_22 : gm_ft 46 22 = some (.iload 5, 2) := by decide +kernel
theorem r46_22 {E : Nat → Value} {d : Nat} {st : List Value} {h : gm_H} {r : gm_R × gm_H} {a0 a1 a2 a3 a4 : Value} {x : Int32} : gm_Go E d 46 22 [a0, a1, a2, a3, a4, .int x] st h r ↔ gm_Go E d 46 24 [a0, a1, a2, a3, a4, .int x] (.int x :: st) h r := gr_loc m46 f46_22 rfl rfl
theorem f46_24 : gm_ft 46 24 = some (.ireturn, 1) := by decide +kernel
theorem r46_24 {E : Nat → Value} {d : Nat} {h : gm_H} {r : gm_R × gm_H} {lv : List Value} {x : Int32} : gm_Go E d 46 24 lv [.int x] h r ↔ r = (.inl (some (.int x)), h) := gr_ret m46 f46_24 rfl rfl rfl rfl rfl rfl rfl rfl (by unfold gm_rt; dsimp only; rw [if_pos ⟨rfl, rfl⟩])
theorem f46_25 : gm_ft 46 25 = some (.iinc 5 1, 3) := by decide +kernel
theorem r46_25 {E : Nat → Value} {d : Nat} {st : List Value} {h : gm_H} {r : gm_R × gm_H} {a0 a1 a2 a3 a4 : Value} {x : Int32} : gm_Go E d 46 25 [a0, a1, a2, a3, a4, .int x] st h r ↔ gm_Go E d 46 28 [a0, a1, a2, a3, gm_k a4, .int (x + (1 : Int32))] st h r := gr_loc m46 f46_25 rfl rfl
theorem f46_28 : gm_ft 46 28 = some (.goto (-21), 3) := by decide +kernel
theorem r46_28 {E : Nat → Value} {d : Nat} {st : List Value} {h : gm_H} {r : gm_R × gm_H} {lv : List Value} : gm_Go E d 46 28 lv st h r ↔ gm_Go E d 46 7 lv st h r := gr_brT m46 f46_28 rfl rfl rfl rfl
theorem f46_31 : gm_ft 46 31 = some (.iconst (-1), 1) := by decide +kernel
theorem r46_31 {E : Nat → Value} {d : Nat} {st : List Value} {h : gm_H} {r : gm_R × gm_H} {lv : List Value} : gm_Go E d 46 31 lv st h r ↔ gm_Go E d 46 32 lv (.int (-1 : Int32) :: st) h r := gr_pure m46 f46_31 rfl
theorem f46_32 : gm_ft 46 32 = some (.ireturn, 1) := by decide +kernel
theorem r46_32 {E : Nat → Value} {d : Nat} {h : gm_H} {r : gm_R × gm_H} {lv : List Value} {x : Int32} : gm_Go E d 46 32 lv [.int x] h r ↔ r = (.inl (some (.int x)), h) := gr_ret m46 f46_32 rfl rfl rfl rfl rfl rfl rfl rfl (by unfold gm_rt; dsimp only; rw [if_pos ⟨rfl, rfl⟩])
/-! GraphReader.letterFrom(IICI)I -/
theorem m47 : gm_mt[47]? = some (⟨"GraphReader", "letterFrom", "(IICI)I"⟩, prog_1_method_23_code, 6, (some .int), [], 0, 1) := rfl
theorem f47_0 : gm_ft 47 0 = some (.iload_n 2, 1) := by decide +kernel
theorem r47_0 {E : Nat → Value} {d : Nat} {st : List Value} {h : gm_H} {r : gm_R × gm_H} {a0 a1 a3 a4 a5 : Value} {x : Int32} : gm_Go E d 47 0 [a0, a1, .int x, a3, a4, a5] st h r ↔ gm_Go E d 47 1 [a0, a1, .int x, a3, a4, a5] (.int x :: st) h r := gr_loc m47 f47_0 rfl rfl
theorem f47_1 : gm_ft 47 1 = some (.iconst 1, 1) := by decide +kernel
theorem r47_1 {E : Nat → Value} {d : Nat} {st : List Value} {h : gm_H} {r : gm_R × gm_H} {lv : List Value} : gm_Go E d 47 1 lv st h r ↔ gm_Go E d 47 2 lv (.int (1 : Int32) :: st) h r := gr_pure m47 f47_1 rfl
theorem f47_2 : gm_ft 47 2 = some (.if_icmp .eq 5, 3) := by decide +kernel
theorem r47_2 {E : Nat → Value} {d : Nat} {st : List Value} {h : gm_H} {r : gm_R × gm_H} {lv : List Value} {x y : Int32} : gm_Go E d 47 2 lv (.int y :: .int x :: st) h r ↔ (if x = y then gm_Go E d 47 7 lv st h r else gm_Go E d 47 5 lv st h r) := (gr_br m47 f47_2 rfl rfl rfl rfl).trans gr_if
theorem f47_5 : gm_ft 47 5 = some (.iconst (-1), 1) := by decide +kernel
theorem r47_5 {E : Nat → Value} {d : Nat} {st : List Value} {h : gm_H} {r : gm_R × gm_H} {lv : List Value} : gm_Go E d 47 5 lv st h r ↔ gm_Go E d 47 6 lv (.int (-1 : Int32) :: st) h r := gr_pure m47 f47_5 rfl
theorem f47_6 : gm_ft 47 6 = some (.ireturn, 1) := by decide +kernel
theorem r47_6 {E : Nat → Value} {d : Nat} {h : gm_H} {r : gm_R × gm_H} {lv : List Value} {x : Int32} : gm_Go E d 47 6 lv [.int x] h r ↔ r = (.inl (some (.int x)), h) := gr_ret m47 f47_6 rfl rfl rfl rfl rfl rfl rfl rfl (by unfold gm_rt; dsimp only; rw [if_pos ⟨rfl, rfl⟩])
theorem f47_7 : gm_ft 47 7 = some (.aload_n 0, 1) := by decide +kernel
theorem r47_7 {E : Nat → Value} {d : Nat} {st : List Value} {h : gm_H} {r : gm_R × gm_H} {a1 a2 a3 a4 a5 : Value} {x : Nat} : gm_Go E d 47 7 [.ref x, a1, a2, a3, a4, a5] st h r ↔ gm_Go E d 47 8 [.ref x, a1, a2, a3, a4, a5] (.ref x :: st) h r := gr_loc m47 f47_7 rfl rfl
theorem r47_7n {E : Nat → Value} {d : Nat} {st : List Value} {h : gm_H} {r : gm_R × gm_H} {a1 a2 a3 a4 a5 : Value}  : gm_Go E d 47 7 [.null, a1, a2, a3, a4, a5] st h r ↔ gm_Go E d 47 8 [.null, a1, a2, a3, a4, a5] (.null :: st) h r := gr_loc m47 f47_7 rfl rfl
theorem f47_8 : gm_ft 47 8 = some (.getfield 15, 3) := by decide +kernel
theorem r47_8 {E : Nat → Value} {d : Nat} {st : List Value} {h : gm_H} {r : gm_R × gm_H} {lv : List Value} {a : Nat} {vs : List Value} {v : Value} (hr : gm_rd h a = some (0, vs)) (hv : vs[5]? = some v) : gm_Go E d 47 8 lv (.ref a :: st) h r ↔ gm_Go E d 47 11 lv (v :: st) h r := gr_rd m47 f47_8 rfl rfl rfl rfl (gf_get k0_15 hr hv)
theorem f47_11 : gm_ft 47 11 = some (.iload_n 1, 1) := by decide +kernel
theorem r47_11 {E : Nat → Value} {d : Nat} {st : List Value} {h : gm_H} {r : gm_R × gm_H} {a0 a2 a3 a4 a5 : Value} {x : Int32} : gm_Go E d 47 11 [a0, .int x, a2, a3, a4, a5] st h r ↔ gm_Go E d 47 12 [a0, .int x, a2, a3, a4, a5] (.int x :: st) h r := gr_loc m47 f47_11 rfl rfl
theorem f47_12 : gm_ft 47 12 = some (.baload, 1) := by decide +kernel
theorem r47_12 {E : Nat → Value} {d : Nat} {st : List Value} {h : gm_H} {r : gm_R × gm_H} {lv : List Value} {a k j : Nat} {vs : List Value} {v : Value} (hr : gm_rd h a = some (k, vs)) (hk : 100 ≤ k ∧ (fun t => t == 2 || t == 3) (k % 100) = true) (hj : j < 2 ^ 31) (hv : vs[j]? = some v) : gm_Go E d 47 12 lv (.int (nI j) :: .ref a :: st) h r ↔ gm_Go E d 47 13 lv (v :: st) h r := gr_rd m47 f47_12 rfl rfl rfl rfl (ga_ld (P := fun t => t == 2 || t == 3) hr hk hj hv)
theorem f47_13 : gm_ft 47 13 = some (.iload_n 3, 1) := by decide +kernel
theorem r47_13 {E : Nat → Value} {d : Nat} {st : List Value} {h : gm_H} {r : gm_R × gm_H} {a0 a1 a2 a4 a5 : Value} {x : Int32} : gm_Go E d 47 13 [a0, a1, a2, .int x, a4, a5] st h r ↔ gm_Go E d 47 14 [a0, a1, a2, .int x, a4, a5] (.int x :: st) h r := gr_loc m47 f47_13 rfl rfl
theorem f47_14 : gm_ft 47 14 = some (.isub, 1) := by decide +kernel
theorem r47_14 {E : Nat → Value} {d : Nat} {st : List Value} {h : gm_H} {r : gm_R × gm_H} {lv : List Value} {x y : Int32} : gm_Go E d 47 14 lv (.int y :: .int x :: st) h r ↔ gm_Go E d 47 15 lv (.int (x - y) :: st) h r := gr_pure m47 f47_14 rfl
theorem f47_15 : gm_ft 47 15 = some (.istore 5, 2) := by decide +kernel
theorem r47_15 {E : Nat → Value} {d : Nat} {st : List Value} {h : gm_H} {r : gm_R × gm_H} {a0 a1 a2 a3 a4 a5 : Value} {x : Int32} : gm_Go E d 47 15 [a0, a1, a2, a3, a4, a5] (.int x :: st) h r ↔ gm_Go E d 47 17 [a0, a1, a2, a3, gm_k a4, .int x] st h r := gr_loc m47 f47_15 rfl rfl
theorem f47_17 : gm_ft 47 17 = some (.iload 5, 2) := by decide +kernel
theorem r47_17 {E : Nat → Value} {d : Nat} {st : List Value} {h : gm_H} {r : gm_R × gm_H} {a0 a1 a2 a3 a4 : Value} {x : Int32} : gm_Go E d 47 17 [a0, a1, a2, a3, a4, .int x] st h r ↔ gm_Go E d 47 19 [a0, a1, a2, a3, a4, .int x] (.int x :: st) h r := gr_loc m47 f47_17 rfl rfl
theorem f47_19 : gm_ft 47 19 = some (.iload 4, 2) := by decide +kernel
theorem r47_19 {E : Nat → Value} {d : Nat} {st : List Value} {h : gm_H} {r : gm_R × gm_H} {a0 a1 a2 a3 a5 : Value} {x : Int32} : gm_Go E d 47 19 [a0, a1, a2, a3, .int x, a5] st h r ↔ gm_Go E d 47 21 [a0, a1, a2, a3, .int x, a5] (.int x :: st) h r := gr_loc m47 f47_19 rfl rfl
theorem f47_21 : gm_ft 47 21 = some (.if_icmp .ge 8, 3) := by decide +kernel
theorem r47_21 {E : Nat → Value} {d : Nat} {st : List Value} {h : gm_H} {r : gm_R × gm_H} {lv : List Value} {x y : Int32} : gm_Go E d 47 21 lv (.int y :: .int x :: st) h r ↔ (if y ≤ x then gm_Go E d 47 29 lv st h r else gm_Go E d 47 24 lv st h r) := (gr_br m47 f47_21 rfl rfl rfl rfl).trans gr_if
theorem f47_24 : gm_ft 47 24 = some (.iload 5, 2) := by decide +kernel
theorem r47_24 {E : Nat → Value} {d : Nat} {st : List Value} {h : gm_H} {r : gm_R × gm_H} {a0 a1 a2 a3 a4 : Value} {x : Int32} : gm_Go E d 47 24 [a0, a1, a2, a3, a4, .int x] st h r ↔ gm_Go E d 47 26 [a0, a1, a2, a3, a4, .int x] (.int x :: st) h r := gr_loc m47 f47_24 rfl rfl
theorem f47_26 : gm_ft 47 26 = some (.goto 4, 3) := by decide +kernel
theorem r47_26 {E : Nat → Value} {d : Nat} {st : List Value} {h : gm_H} {r : gm_R × gm_H} {lv : List Value} : gm_Go E d 47 26 lv st h r ↔ gm_Go E d 47 30 lv st h r := gr_brT m47 f47_26 rfl rfl rfl rfl
theorem f47_29 : gm_ft 47 29 = some (.iconst (-1), 1) := by decide +kernel
theorem r47_29 {E : Nat → Value} {d : Nat} {st : List Value} {h : gm_H} {r : gm_R × gm_H} {lv : List Value} : gm_Go E d 47 29 lv st h r ↔ gm_Go E d 47 30 lv (.int (-1 : Int32) :: st) h r := gr_pure m47 f47_29 rfl
theorem f47_30 : gm_ft 47 30 = some (.ireturn, 1) := by decide +kernel
theorem r47_30 {E : Nat → Value} {d : Nat} {h : gm_H} {r : gm_R × gm_H} {lv : List Value} {x : Int32} : gm_Go E d 47 30 lv [.int x] h r ↔ r = (.inl (some (.int x)), h) := gr_ret m47 f47_30 rfl rfl rfl rfl rfl rfl rfl rfl (by unfold gm_rt; dsimp only; rw [if_pos ⟨rfl, rfl⟩])
/-! GraphReader.isText(I)Z -/
theorem m48 : gm_mt[48]? = some (⟨"GraphReader", "isText", "(I)Z"⟩, prog_1_method_50_code, 2, (some .boolean), [], 0, 1) := rfl
theorem f48_0 : gm_ft 48 0 = some (.aload_n 0, 1) := by decide +kernel
theorem r48_0 {E : Nat → Value} {d : Nat} {st : List Value} {h : gm_H} {r : gm_R × gm_H} {a1 : Value} {x : Nat} : gm_Go E d 48 0 [.ref x, a1] st h r ↔ gm_Go E d 48 1 [.ref x, a1] (.ref x :: st) h r := gr_loc m48 f48_0 rfl rfl
theorem r48_0n {E : Nat → Value} {d : Nat} {st : List Value} {h : gm_H} {r : gm_R × gm_H} {a1 : Value}  : gm_Go E d 48 0 [.null, a1] st h r ↔ gm_Go E d 48 1 [.null, a1] (.null :: st) h r := gr_loc m48 f48_0 rfl rfl
theorem f48_1 : gm_ft 48 1 = some (.iload_n 1, 1) := by decide +kernel
theorem r48_1 {E : Nat → Value} {d : Nat} {st : List Value} {h : gm_H} {r : gm_R × gm_H} {a0 : Value} {x : Int32} : gm_Go E d 48 1 [a0, .int x] st h r ↔ gm_Go E d 48 2 [a0, .int x] (.int x :: st) h r := gr_loc m48 f48_1 rfl rfl
theorem f48_2 : gm_ft 48 2 = some (.invokevirtual 131, 3) := by decide +kernel
theorem n48_2 {st : List Value} {h : gm_H} {E : Nat → Value} {lv : List Value} {b0 : Value} {a : Nat} (hs : (st.map fun v => v.category).sum ≤ 8) (he : (gm_en1 [.ref a, b0]).length ≤ 2) {vs : List Value} (hr : gm_rd h a = some (0, vs)) : gm_next E 48 2 lv (b0 :: .ref a :: st) h = some (.inr (.inl (0, 49, [.ref a, b0], st))) := gn_call m48 f48_2 rfl rfl rfl rfl rfl rfl rfl (gc_virt (bs := [b0]) (w := 468) rfl rfl rfl rfl hs he hr) (by decide)
theorem f48_5 : gm_ft 48 5 = some (.ifCond .eq 20, 3) := by decide +kernel
theorem r48_5 {E : Nat → Value} {d : Nat} {st : List Value} {h : gm_H} {r : gm_R × gm_H} {lv : List Value} {x : Int32} : gm_Go E d 48 5 lv (.int x :: st) h r ↔ (if x = 0 then gm_Go E d 48 25 lv st h r else gm_Go E d 48 8 lv st h r) := (gr_br m48 f48_5 rfl rfl rfl rfl).trans gr_if
theorem f48_8 : gm_ft 48 8 = some (.aload_n 0, 1) := by decide +kernel
theorem r48_8 {E : Nat → Value} {d : Nat} {st : List Value} {h : gm_H} {r : gm_R × gm_H} {a1 : Value} {x : Nat} : gm_Go E d 48 8 [.ref x, a1] st h r ↔ gm_Go E d 48 9 [.ref x, a1] (.ref x :: st) h r := gr_loc m48 f48_8 rfl rfl
theorem r48_8n {E : Nat → Value} {d : Nat} {st : List Value} {h : gm_H} {r : gm_R × gm_H} {a1 : Value}  : gm_Go E d 48 8 [.null, a1] st h r ↔ gm_Go E d 48 9 [.null, a1] (.null :: st) h r := gr_loc m48 f48_8 rfl rfl
theorem f48_9 : gm_ft 48 9 = some (.getfield 21, 3) := by decide +kernel
theorem r48_9 {E : Nat → Value} {d : Nat} {st : List Value} {h : gm_H} {r : gm_R × gm_H} {lv : List Value} {a : Nat} {vs : List Value} {v : Value} (hr : gm_rd h a = some (0, vs)) (hv : vs[8]? = some v) : gm_Go E d 48 9 lv (.ref a :: st) h r ↔ gm_Go E d 48 12 lv (v :: st) h r := gr_rd m48 f48_9 rfl rfl rfl rfl (gf_get k0_21 hr hv)
theorem f48_12 : gm_ft 48 12 = some (.iload_n 1, 1) := by decide +kernel
theorem r48_12 {E : Nat → Value} {d : Nat} {st : List Value} {h : gm_H} {r : gm_R × gm_H} {a0 : Value} {x : Int32} : gm_Go E d 48 12 [a0, .int x] st h r ↔ gm_Go E d 48 13 [a0, .int x] (.int x :: st) h r := gr_loc m48 f48_12 rfl rfl
theorem f48_13 : gm_ft 48 13 = some (.aaload, 1) := by decide +kernel
theorem r48_13 {E : Nat → Value} {d : Nat} {st : List Value} {h : gm_H} {r : gm_R × gm_H} {lv : List Value} {a k j : Nat} {vs : List Value} {v : Value} (hr : gm_rd h a = some (k, vs)) (hk : 100 ≤ k ∧ (fun t => t == 10 || t == 11 || t == 12) (k % 100) = true) (hj : j < 2 ^ 31) (hv : vs[j]? = some v) : gm_Go E d 48 13 lv (.int (nI j) :: .ref a :: st) h r ↔ gm_Go E d 48 14 lv (v :: st) h r := gr_rd m48 f48_13 rfl rfl rfl rfl (ga_ld (P := fun t => t == 10 || t == 11 || t == 12) hr hk hj hv)
theorem f48_14 : gm_ft 48 14 = some (.getfield 134, 3) := by decide +kernel
theorem r48_14 {E : Nat → Value} {d : Nat} {st : List Value} {h : gm_H} {r : gm_R × gm_H} {lv : List Value} {a : Nat} {vs : List Value} {v : Value} (hr : gm_rd h a = some (4, vs)) (hv : vs[0]? = some v) : gm_Go E d 48 14 lv (.ref a :: st) h r ↔ gm_Go E d 48 17 lv (v :: st) h r := gr_rd m48 f48_14 rfl rfl rfl rfl (gf_get k0_134 hr hv)
theorem f48_17 : gm_ft 48 17 = some (.iconst 1, 1) := by decide +kernel
theorem r48_17 {E : Nat → Value} {d : Nat} {st : List Value} {h : gm_H} {r : gm_R × gm_H} {lv : List Value} : gm_Go E d 48 17 lv st h r ↔ gm_Go E d 48 18 lv (.int (1 : Int32) :: st) h r := gr_pure m48 f48_17 rfl
theorem f48_18 : gm_ft 48 18 = some (.if_icmp .ne 7, 3) := by decide +kernel
theorem r48_18 {E : Nat → Value} {d : Nat} {st : List Value} {h : gm_H} {r : gm_R × gm_H} {lv : List Value} {x y : Int32} : gm_Go E d 48 18 lv (.int y :: .int x :: st) h r ↔ (if x = y then gm_Go E d 48 21 lv st h r else gm_Go E d 48 25 lv st h r) := (gr_br m48 f48_18 rfl rfl rfl rfl).trans gr_ifn
theorem f48_21 : gm_ft 48 21 = some (.iconst 1, 1) := by decide +kernel
theorem r48_21 {E : Nat → Value} {d : Nat} {st : List Value} {h : gm_H} {r : gm_R × gm_H} {lv : List Value} : gm_Go E d 48 21 lv st h r ↔ gm_Go E d 48 22 lv (.int (1 : Int32) :: st) h r := gr_pure m48 f48_21 rfl
theorem f48_22 : gm_ft 48 22 = some (.goto 4, 3) := by decide +kernel
theorem r48_22 {E : Nat → Value} {d : Nat} {st : List Value} {h : gm_H} {r : gm_R × gm_H} {lv : List Value} : gm_Go E d 48 22 lv st h r ↔ gm_Go E d 48 26 lv st h r := gr_brT m48 f48_22 rfl rfl rfl rfl
theorem f48_25 : gm_ft 48 25 = some (.iconst 0, 1) := by decide +kernel
theorem r48_25 {E : Nat → Value} {d : Nat} {st : List Value} {h : gm_H} {r : gm_R × gm_H} {lv : List Value} : gm_Go E d 48 25 lv st h r ↔ gm_Go E d 48 26 lv (.int (0 : Int32) :: st) h r := gr_pure m48 f48_25 rfl
theorem f48_26 : gm_ft 48 26 = some (.ireturn, 1) := by decide +kernel
theorem r48_26_0 {E : Nat → Value} {d : Nat} {h : gm_H} {r : gm_R × gm_H} {lv : List Value} : gm_Go E d 48 26 lv [.int (0 : Int32)] h r ↔ r = (.inl (some (.int (0 : Int32))), h) := gr_ret m48 f48_26 rfl rfl rfl rfl rfl rfl rfl rfl (by unfold gm_rt; dsimp only; rw [if_pos ⟨rfl, rfl⟩])
theorem r48_26_1 {E : Nat → Value} {d : Nat} {h : gm_H} {r : gm_R × gm_H} {lv : List Value} : gm_Go E d 48 26 lv [.int (1 : Int32)] h r ↔ r = (.inl (some (.int (1 : Int32))), h) := gr_ret m48 f48_26 rfl rfl rfl rfl rfl rfl rfl rfl (by unfold gm_rt; dsimp only; rw [if_pos ⟨rfl, rfl⟩])
/-! GraphReader.isInHeap(I)Z -/
theorem m49 : gm_mt[49]? = some (⟨"GraphReader", "isInHeap", "(I)Z"⟩, prog_1_method_15_code, 2, (some .boolean), [], 0, 1) := rfl
theorem f49_0 : gm_ft 49 0 = some (.iload_n 1, 1) := by decide +kernel
theorem r49_0 {E : Nat → Value} {d : Nat} {st : List Value} {h : gm_H} {r : gm_R × gm_H} {a0 : Value} {x : Int32} : gm_Go E d 49 0 [a0, .int x] st h r ↔ gm_Go E d 49 1 [a0, .int x] (.int x :: st) h r := gr_loc m49 f49_0 rfl rfl
theorem f49_1 : gm_ft 49 1 = some (.ifCond .lt 15, 3) := by decide +kernel
theorem r49_1 {E : Nat → Value} {d : Nat} {st : List Value} {h : gm_H} {r : gm_R × gm_H} {lv : List Value} {x : Int32} : gm_Go E d 49 1 lv (.int x :: st) h r ↔ (if x < 0 then gm_Go E d 49 16 lv st h r else gm_Go E d 49 4 lv st h r) := (gr_br m49 f49_1 rfl rfl rfl rfl).trans gr_if
theorem f49_4 : gm_ft 49 4 = some (.iload_n 1, 1) := by decide +kernel
theorem r49_4 {E : Nat → Value} {d : Nat} {st : List Value} {h : gm_H} {r : gm_R × gm_H} {a0 : Value} {x : Int32} : gm_Go E d 49 4 [a0, .int x] st h r ↔ gm_Go E d 49 5 [a0, .int x] (.int x :: st) h r := gr_loc m49 f49_4 rfl rfl
theorem f49_5 : gm_ft 49 5 = some (.aload_n 0, 1) := by decide +kernel
theorem r49_5 {E : Nat → Value} {d : Nat} {st : List Value} {h : gm_H} {r : gm_R × gm_H} {a1 : Value} {x : Nat} : gm_Go E d 49 5 [.ref x, a1] st h r ↔ gm_Go E d 49 6 [.ref x, a1] (.ref x :: st) h r := gr_loc m49 f49_5 rfl rfl
theorem r49_5n {E : Nat → Value} {d : Nat} {st : List Value} {h : gm_H} {r : gm_R × gm_H} {a1 : Value}  : gm_Go E d 49 5 [.null, a1] st h r ↔ gm_Go E d 49 6 [.null, a1] (.null :: st) h r := gr_loc m49 f49_5 rfl rfl
theorem f49_6 : gm_ft 49 6 = some (.getfield 72, 3) := by decide +kernel
theorem r49_6 {E : Nat → Value} {d : Nat} {st : List Value} {h : gm_H} {r : gm_R × gm_H} {lv : List Value} {a : Nat} {vs : List Value} {v : Value} (hr : gm_rd h a = some (0, vs)) (hv : vs[9]? = some v) : gm_Go E d 49 6 lv (.ref a :: st) h r ↔ gm_Go E d 49 9 lv (v :: st) h r := gr_rd m49 f49_6 rfl rfl rfl rfl (gf_get k0_72 hr hv)
theorem f49_9 : gm_ft 49 9 = some (.if_icmp .ge 7, 3) := by decide +kernel
theorem r49_9 {E : Nat → Value} {d : Nat} {st : List Value} {h : gm_H} {r : gm_R × gm_H} {lv : List Value} {x y : Int32} : gm_Go E d 49 9 lv (.int y :: .int x :: st) h r ↔ (if y ≤ x then gm_Go E d 49 16 lv st h r else gm_Go E d 49 12 lv st h r) := (gr_br m49 f49_9 rfl rfl rfl rfl).trans gr_if
theorem f49_12 : gm_ft 49 12 = some (.iconst 1, 1) := by decide +kernel
theorem r49_12 {E : Nat → Value} {d : Nat} {st : List Value} {h : gm_H} {r : gm_R × gm_H} {lv : List Value} : gm_Go E d 49 12 lv st h r ↔ gm_Go E d 49 13 lv (.int (1 : Int32) :: st) h r := gr_pure m49 f49_12 rfl
theorem f49_13 : gm_ft 49 13 = some (.goto 4, 3) := by decide +kernel
theorem r49_13 {E : Nat → Value} {d : Nat} {st : List Value} {h : gm_H} {r : gm_R × gm_H} {lv : List Value} : gm_Go E d 49 13 lv st h r ↔ gm_Go E d 49 17 lv st h r := gr_brT m49 f49_13 rfl rfl rfl rfl
theorem f49_16 : gm_ft 49 16 = some (.iconst 0, 1) := by decide +kernel
theorem r49_16 {E : Nat → Value} {d : Nat} {st : List Value} {h : gm_H} {r : gm_R × gm_H} {lv : List Value} : gm_Go E d 49 16 lv st h r ↔ gm_Go E d 49 17 lv (.int (0 : Int32) :: st) h r := gr_pure m49 f49_16 rfl
theorem f49_17 : gm_ft 49 17 = some (.ireturn, 1) := by decide +kernel
theorem r49_17_0 {E : Nat → Value} {d : Nat} {h : gm_H} {r : gm_R × gm_H} {lv : List Value} : gm_Go E d 49 17 lv [.int (0 : Int32)] h r ↔ r = (.inl (some (.int (0 : Int32))), h) := gr_ret m49 f49_17 rfl rfl rfl rfl rfl rfl rfl rfl (by unfold gm_rt; dsimp only; rw [if_pos ⟨rfl, rfl⟩])
theorem r49_17_1 {E : Nat → Value} {d : Nat} {h : gm_H} {r : gm_R × gm_H} {lv : List Value} : gm_Go E d 49 17 lv [.int (1 : Int32)] h r ↔ r = (.inl (some (.int (1 : Int32))), h) := gr_ret m49 f49_17 rfl rfl rfl rfl rfl rfl rfl rfl (by unfold gm_rt; dsimp only; rw [if_pos ⟨rfl, rfl⟩])
/-! GraphReader.passRest(I)V -/
theorem m50 : gm_mt[50]? = some (⟨"GraphReader", "passRest", "(I)V"⟩, prog_1_method_26_code, 4, none, [], 0, 1) := rfl
theorem f50_0 : gm_ft 50 0 = some (.iconst 0, 1) := by decide +kernel
theorem r50_0 {E : Nat → Value} {d : Nat} {st : List Value} {h : gm_H} {r : gm_R × gm_H} {lv : List Value} : gm_Go E d 50 0 lv st h r ↔ gm_Go E d 50 1 lv (.int (0 : Int32) :: st) h r := gr_pure m50 f50_0 rfl
theorem f50_1 : gm_ft 50 1 = some (.istore_n 2, 1) := by decide +kernel
theorem r50_1 {E : Nat → Value} {d : Nat} {st : List Value} {h : gm_H} {r : gm_R × gm_H} {a0 a1 a2 a3 : Value} {x : Int32} : gm_Go E d 50 1 [a0, a1, a2, a3] (.int x :: st) h r ↔ gm_Go E d 50 2 [a0, gm_k a1, .int x, a3] st h r := gr_loc m50 f50_1 rfl rfl
theorem f50_2 : gm_ft 50 2 = some (.iload_n 2, 1) := by decide +kernel
theorem r50_2 {E : Nat → Value} {d : Nat} {st : List Value} {h : gm_H} {r : gm_R × gm_H} {a0 a1 a3 : Value} {x : Int32} : gm_Go E d 50 2 [a0, a1, .int x, a3] st h r ↔ gm_Go E d 50 3 [a0, a1, .int x, a3] (.int x :: st) h r := gr_loc m50 f50_2 rfl rfl
theorem f50_3 : gm_ft 50 3 = some (.sipush 700, 3) := by decide +kernel
theorem r50_3 {E : Nat → Value} {d : Nat} {st : List Value} {h : gm_H} {r : gm_R × gm_H} {lv : List Value} : gm_Go E d 50 3 lv st h r ↔ gm_Go E d 50 6 lv (.int (700 : Int32) :: st) h r := gr_pure m50 f50_3 rfl
theorem f50_6 : gm_ft 50 6 = some (.if_icmp .gt 77, 3) := by decide +kernel
theorem r50_6 {E : Nat → Value} {d : Nat} {st : List Value} {h : gm_H} {r : gm_R × gm_H} {lv : List Value} {x y : Int32} : gm_Go E d 50 6 lv (.int y :: .int x :: st) h r ↔ (if y < x then gm_Go E d 50 83 lv st h r else gm_Go E d 50 9 lv st h r) := (gr_br m50 f50_6 rfl rfl rfl rfl).trans gr_if
theorem f50_9 : gm_ft 50 9 = some (.aload_n 0, 1) := by decide +kernel
theorem r50_9 {E : Nat → Value} {d : Nat} {st : List Value} {h : gm_H} {r : gm_R × gm_H} {a1 a2 a3 : Value} {x : Nat} : gm_Go E d 50 9 [.ref x, a1, a2, a3] st h r ↔ gm_Go E d 50 10 [.ref x, a1, a2, a3] (.ref x :: st) h r := gr_loc m50 f50_9 rfl rfl
theorem r50_9n {E : Nat → Value} {d : Nat} {st : List Value} {h : gm_H} {r : gm_R × gm_H} {a1 a2 a3 : Value}  : gm_Go E d 50 9 [.null, a1, a2, a3] st h r ↔ gm_Go E d 50 10 [.null, a1, a2, a3] (.null :: st) h r := gr_loc m50 f50_9 rfl rfl
theorem f50_10 : gm_ft 50 10 = some (.getfield 96, 3) := by decide +kernel
theorem r50_10 {E : Nat → Value} {d : Nat} {st : List Value} {h : gm_H} {r : gm_R × gm_H} {lv : List Value} {a : Nat} {vs : List Value} {v : Value} (hr : gm_rd h a = some (0, vs)) (hv : vs[7]? = some v) : gm_Go E d 50 10 lv (.ref a :: st) h r ↔ gm_Go E d 50 13 lv (v :: st) h r := gr_rd m50 f50_10 rfl rfl rfl rfl (gf_get k0_96 hr hv)
theorem f50_13 : gm_ft 50 13 = some (.aload_n 0, 1) := by decide +kernel
theorem r50_13 {E : Nat → Value} {d : Nat} {st : List Value} {h : gm_H} {r : gm_R × gm_H} {a1 a2 a3 : Value} {x : Nat} : gm_Go E d 50 13 [.ref x, a1, a2, a3] st h r ↔ gm_Go E d 50 14 [.ref x, a1, a2, a3] (.ref x :: st) h r := gr_loc m50 f50_13 rfl rfl
theorem r50_13n {E : Nat → Value} {d : Nat} {st : List Value} {h : gm_H} {r : gm_R × gm_H} {a1 a2 a3 : Value}  : gm_Go E d 50 13 [.null, a1, a2, a3] st h r ↔ gm_Go E d 50 14 [.null, a1, a2, a3] (.null :: st) h r := gr_loc m50 f50_13 rfl rfl
theorem f50_14 : gm_ft 50 14 = some (.getfield 93, 3) := by decide +kernel
theorem r50_14 {E : Nat → Value} {d : Nat} {st : List Value} {h : gm_H} {r : gm_R × gm_H} {lv : List Value} {a : Nat} {vs : List Value} {v : Value} (hr : gm_rd h a = some (0, vs)) (hv : vs[6]? = some v) : gm_Go E d 50 14 lv (.ref a :: st) h r ↔ gm_Go E d 50 17 lv (v :: st) h r := gr_rd m50 f50_14 rfl rfl rfl rfl (gf_get k0_93 hr hv)
theorem f50_17 : gm_ft 50 17 = some (.if_icmp .lt 10, 3) := by decide +kernel
theorem r50_17 {E : Nat → Value} {d : Nat} {st : List Value} {h : gm_H} {r : gm_R × gm_H} {lv : List Value} {x y : Int32} : gm_Go E d 50 17 lv (.int y :: .int x :: st) h r ↔ (if x < y then gm_Go E d 50 27 lv st h r else gm_Go E d 50 20 lv st h r) := (gr_br m50 f50_17 rfl rfl rfl rfl).trans gr_if
theorem f50_20 : gm_ft 50 20 = some (.aload_n 0, 1) := by decide +kernel
theorem r50_20 {E : Nat → Value} {d : Nat} {st : List Value} {h : gm_H} {r : gm_R × gm_H} {a1 a2 a3 : Value} {x : Nat} : gm_Go E d 50 20 [.ref x, a1, a2, a3] st h r ↔ gm_Go E d 50 21 [.ref x, a1, a2, a3] (.ref x :: st) h r := gr_loc m50 f50_20 rfl rfl
theorem r50_20n {E : Nat → Value} {d : Nat} {st : List Value} {h : gm_H} {r : gm_R × gm_H} {a1 a2 a3 : Value}  : gm_Go E d 50 20 [.null, a1, a2, a3] st h r ↔ gm_Go E d 50 21 [.null, a1, a2, a3] (.null :: st) h r := gr_loc m50 f50_20 rfl rfl
theorem f50_21 : gm_ft 50 21 = some (.bipush (-3), 2) := by decide +kernel
theorem r50_21 {E : Nat → Value} {d : Nat} {st : List Value} {h : gm_H} {r : gm_R × gm_H} {lv : List Value} : gm_Go E d 50 21 lv st h r ↔ gm_Go E d 50 23 lv (.int (-3 : Int32) :: st) h r := gr_pure m50 f50_21 rfl
theorem f50_23 : gm_ft 50 23 = some (.invokevirtual 160, 3) := by decide +kernel
theorem n50_23 {st : List Value} {h : gm_H} {E : Nat → Value} {lv : List Value} {b0 : Value} {a : Nat} (hs : (st.map fun v => v.category).sum ≤ 8) (he : (gm_en1 [.ref a, b0]).length ≤ 2) {vs : List Value} (hr : gm_rd h a = some (0, vs)) : gm_next E 50 23 lv (b0 :: .ref a :: st) h = some (.inr (.inl (0, 22, [.ref a, b0], st))) := gn_call m50 f50_23 rfl rfl rfl rfl rfl rfl rfl (gc_virt (bs := [b0]) (w := 206) rfl rfl rfl rfl hs he hr) (by decide)
theorem f50_26 : gm_ft 50 26 = some (.pop, 1) := by decide +kernel
theorem r50_26 {E : Nat → Value} {d : Nat} {st : List Value} {h : gm_H} {r : gm_R × gm_H} {lv : List Value} {x : Int32} : gm_Go E d 50 26 lv (.int x :: st) h r ↔ gm_Go E d 50 27 lv st h r := gr_pure m50 f50_26 rfl
theorem r50_26a {E : Nat → Value} {d : Nat} {st : List Value} {h : gm_H} {r : gm_R × gm_H} {lv : List Value} {a : Nat} : gm_Go E d 50 26 lv (.ref a :: st) h r ↔ gm_Go E d 50 27 lv st h r := gr_pure m50 f50_26 rfl
theorem r50_26n {E : Nat → Value} {d : Nat} {st : List Value} {h : gm_H} {r : gm_R × gm_H} {lv : List Value} : gm_Go E d 50 26 lv (.null :: st) h r ↔ gm_Go E d 50 27 lv st h r := gr_pure m50 f50_26 rfl
theorem f50_27 : gm_ft 50 27 = some (.aload_n 0, 1) := by decide +kernel
theorem r50_27 {E : Nat → Value} {d : Nat} {st : List Value} {h : gm_H} {r : gm_R × gm_H} {a1 a2 a3 : Value} {x : Nat} : gm_Go E d 50 27 [.ref x, a1, a2, a3] st h r ↔ gm_Go E d 50 28 [.ref x, a1, a2, a3] (.ref x :: st) h r := gr_loc m50 f50_27 rfl rfl
theorem r50_27n {E : Nat → Value} {d : Nat} {st : List Value} {h : gm_H} {r : gm_R × gm_H} {a1 a2 a3 : Value}  : gm_Go E d 50 27 [.null, a1, a2, a3] st h r ↔ gm_Go E d 50 28 [.null, a1, a2, a3] (.null :: st) h r := gr_loc m50 f50_27 rfl rfl
theorem f50_28 : gm_ft 50 28 = some (.getfield 15, 3) := by decide +kernel
theorem r50_28 {E : Nat → Value} {d : Nat} {st : List Value} {h : gm_H} {r : gm_R × gm_H} {lv : List Value} {a : Nat} {vs : List Value} {v : Value} (hr : gm_rd h a = some (0, vs)) (hv : vs[5]? = some v) : gm_Go E d 50 28 lv (.ref a :: st) h r ↔ gm_Go E d 50 31 lv (v :: st) h r := gr_rd m50 f50_28 rfl rfl rfl rfl (gf_get k0_15 hr hv)
theorem f50_31 : gm_ft 50 31 = some (.aload_n 0, 1) := by decide +kernel
theorem r50_31 {E : Nat → Value} {d : Nat} {st : List Value} {h : gm_H} {r : gm_R × gm_H} {a1 a2 a3 : Value} {x : Nat} : gm_Go E d 50 31 [.ref x, a1, a2, a3] st h r ↔ gm_Go E d 50 32 [.ref x, a1, a2, a3] (.ref x :: st) h r := gr_loc m50 f50_31 rfl rfl
theorem r50_31n {E : Nat → Value} {d : Nat} {st : List Value} {h : gm_H} {r : gm_R × gm_H} {a1 a2 a3 : Value}  : gm_Go E d 50 31 [.null, a1, a2, a3] st h r ↔ gm_Go E d 50 32 [.null, a1, a2, a3] (.null :: st) h r := gr_loc m50 f50_31 rfl rfl
theorem f50_32 : gm_ft 50 32 = some (.getfield 96, 3) := by decide +kernel
theorem r50_32 {E : Nat → Value} {d : Nat} {st : List Value} {h : gm_H} {r : gm_R × gm_H} {lv : List Value} {a : Nat} {vs : List Value} {v : Value} (hr : gm_rd h a = some (0, vs)) (hv : vs[7]? = some v) : gm_Go E d 50 32 lv (.ref a :: st) h r ↔ gm_Go E d 50 35 lv (v :: st) h r := gr_rd m50 f50_32 rfl rfl rfl rfl (gf_get k0_96 hr hv)
theorem f50_35 : gm_ft 50 35 = some (.baload, 1) := by decide +kernel
theorem r50_35 {E : Nat → Value} {d : Nat} {st : List Value} {h : gm_H} {r : gm_R × gm_H} {lv : List Value} {a k j : Nat} {vs : List Value} {v : Value} (hr : gm_rd h a = some (k, vs)) (hk : 100 ≤ k ∧ (fun t => t == 2 || t == 3) (k % 100) = true) (hj : j < 2 ^ 31) (hv : vs[j]? = some v) : gm_Go E d 50 35 lv (.int (nI j) :: .ref a :: st) h r ↔ gm_Go E d 50 36 lv (v :: st) h r := gr_rd m50 f50_35 rfl rfl rfl rfl (ga_ld (P := fun t => t == 2 || t == 3) hr hk hj hv)
theorem f50_36 : gm_ft 50 36 = some (.istore_n 3, 1) := by decide +kernel
theorem r50_36 {E : Nat → Value} {d : Nat} {st : List Value} {h : gm_H} {r : gm_R × gm_H} {a0 a1 a2 a3 : Value} {x : Int32} : gm_Go E d 50 36 [a0, a1, a2, a3] (.int x :: st) h r ↔ gm_Go E d 50 37 [a0, a1, gm_k a2, .int x] st h r := gr_loc m50 f50_36 rfl rfl
theorem f50_37 : gm_ft 50 37 = some (.iload_n 3, 1) := by decide +kernel
theorem r50_37 {E : Nat → Value} {d : Nat} {st : List Value} {h : gm_H} {r : gm_R × gm_H} {a0 a1 a2 : Value} {x : Int32} : gm_Go E d 50 37 [a0, a1, a2, .int x] st h r ↔ gm_Go E d 50 38 [a0, a1, a2, .int x] (.int x :: st) h r := gr_loc m50 f50_37 rfl rfl
theorem f50_38 : gm_ft 50 38 = some (.bipush 120, 2) := by decide +kernel
theorem r50_38 {E : Nat → Value} {d : Nat} {st : List Value} {h : gm_H} {r : gm_R × gm_H} {lv : List Value} : gm_Go E d 50 38 lv st h r ↔ gm_Go E d 50 40 lv (.int (120 : Int32) :: st) h r := gr_pure m50 f50_38 rfl
theorem f50_40 : gm_ft 50 40 = some (.if_icmp .ne 14, 3) := by decide +kernel
theorem r50_40 {E : Nat → Value} {d : Nat} {st : List Value} {h : gm_H} {r : gm_R × gm_H} {lv : List Value} {x y : Int32} : gm_Go E d 50 40 lv (.int y :: .int x :: st) h r ↔ (if x = y then gm_Go E d 50 43 lv st h r else gm_Go E d 50 54 lv st h r) := (gr_br m50 f50_40 rfl rfl rfl rfl).trans gr_ifn
theorem f50_43 : gm_ft 50 43 = some (.aload_n 0, 1) := by decide +kernel
theorem r50_43 {E : Nat → Value} {d : Nat} {st : List Value} {h : gm_H} {r : gm_R × gm_H} {a1 a2 a3 : Value} {x : Nat} : gm_Go E d 50 43 [.ref x, a1, a2, a3] st h r ↔ gm_Go E d 50 44 [.ref x, a1, a2, a3] (.ref x :: st) h r := gr_loc m50 f50_43 rfl rfl
theorem r50_43n {E : Nat → Value} {d : Nat} {st : List Value} {h : gm_H} {r : gm_R × gm_H} {a1 a2 a3 : Value}  : gm_Go E d 50 43 [.null, a1, a2, a3] st h r ↔ gm_Go E d 50 44 [.null, a1, a2, a3] (.null :: st) h r := gr_loc m50 f50_43 rfl rfl
theorem f50_44 : gm_ft 50 44 = some (.dup, 1) := by decide +kernel
theorem r50_44 {E : Nat → Value} {d : Nat} {st : List Value} {h : gm_H} {r : gm_R × gm_H} {lv : List Value} {a : Nat} : gm_Go E d 50 44 lv (.ref a :: st) h r ↔ gm_Go E d 50 45 lv (.ref a :: .ref a :: st) h r := gr_pure m50 f50_44 rfl
theorem r50_44i {E : Nat → Value} {d : Nat} {st : List Value} {h : gm_H} {r : gm_R × gm_H} {lv : List Value} {x : Int32} : gm_Go E d 50 44 lv (.int x :: st) h r ↔ gm_Go E d 50 45 lv (.int x :: .int x :: st) h r := gr_pure m50 f50_44 rfl
theorem f50_45 : gm_ft 50 45 = some (.getfield 96, 3) := by decide +kernel
theorem r50_45 {E : Nat → Value} {d : Nat} {st : List Value} {h : gm_H} {r : gm_R × gm_H} {lv : List Value} {a : Nat} {vs : List Value} {v : Value} (hr : gm_rd h a = some (0, vs)) (hv : vs[7]? = some v) : gm_Go E d 50 45 lv (.ref a :: st) h r ↔ gm_Go E d 50 48 lv (v :: st) h r := gr_rd m50 f50_45 rfl rfl rfl rfl (gf_get k0_96 hr hv)
theorem f50_48 : gm_ft 50 48 = some (.iconst 1, 1) := by decide +kernel
theorem r50_48 {E : Nat → Value} {d : Nat} {st : List Value} {h : gm_H} {r : gm_R × gm_H} {lv : List Value} : gm_Go E d 50 48 lv st h r ↔ gm_Go E d 50 49 lv (.int (1 : Int32) :: st) h r := gr_pure m50 f50_48 rfl
theorem f50_49 : gm_ft 50 49 = some (.iadd, 1) := by decide +kernel
theorem r50_49 {E : Nat → Value} {d : Nat} {st : List Value} {h : gm_H} {r : gm_R × gm_H} {lv : List Value} {x y : Int32} : gm_Go E d 50 49 lv (.int y :: .int x :: st) h r ↔ gm_Go E d 50 50 lv (.int (x + y) :: st) h r := gr_pure m50 f50_49 rfl
theorem f50_50 : gm_ft 50 50 = some (.putfield 96, 3) := by decide +kernel
theorem r50_50 {E : Nat → Value} {d : Nat} {st : List Value} {h : gm_H} {r : gm_R × gm_H} {lv : List Value} {a : Nat} {vs : List Value} {v : Value} (hr : gm_rd h a = some (0, vs)) (hk : 7 < vs.length) (hn : narrow (gm_ty 0 7) v = v ∧ fits (gm_ty 0 7) v = true) : gm_Go E d 50 50 lv (v :: .ref a :: st) h r ↔ gm_Go E d 50 53 lv st (gm_wr h a (0, vs.set 7 v)) r := gr_wr m50 f50_50 rfl rfl rfl rfl rfl (gf_put k0_96 hr (by decide) hk hn (by decide))
theorem f50_53 : gm_ft 50 53 = some (.return_, 1) := by decide +kernel
theorem r50_53 {E : Nat → Value} {d : Nat} {h : gm_H} {r : gm_R × gm_H} {lv : List Value} : gm_Go E d 50 53 lv [] h r ↔ r = (.inl none, h) := gr_ret m50 f50_53 rfl rfl rfl rfl rfl rfl rfl rfl rfl
theorem f50_54 : gm_ft 50 54 = some (.iload_n 3, 1) := by decide +kernel
theorem r50_54 {E : Nat → Value} {d : Nat} {st : List Value} {h : gm_H} {r : gm_R × gm_H} {a0 a1 a2 : Value} {x : Int32} : gm_Go E d 50 54 [a0, a1, a2, .int x] st h r ↔ gm_Go E d 50 55 [a0, a1, a2, .int x] (.int x :: st) h r := gr_loc m50 f50_54 rfl rfl
theorem f50_55 : gm_ft 50 55 = some (.invokestatic 125, 3) := by decide +kernel
theorem n50_55 {st : List Value} {h : gm_H} {E : Nat → Value} {lv : List Value} {b0 : Value} (hs : (st.map fun v => v.category).sum ≤ 8) (he : (gm_en1 [b0]).length ≤ 1) : gm_next E 50 55 lv (b0 :: st) h = some (.inr (.inl (1, 51, [b0], st))) := gn_call m50 f50_55 rfl rfl rfl rfl rfl rfl rfl (gc_stat (bs := [b0]) (w := 476) rfl rfl rfl hs he) (by decide)
theorem f50_58 : gm_ft 50 58 = some (.ifCond .eq 11, 3) := by decide +kernel
theorem r50_58 {E : Nat → Value} {d : Nat} {st : List Value} {h : gm_H} {r : gm_R × gm_H} {lv : List Value} {x : Int32} : gm_Go E d 50 58 lv (.int x :: st) h r ↔ (if x = 0 then gm_Go E d 50 69 lv st h r else gm_Go E d 50 61 lv st h r) := (gr_br m50 f50_58 rfl rfl rfl rfl).trans gr_if
theorem f50_61 : gm_ft 50 61 = some (.aload_n 0, 1) := by decide +kernel
theorem r50_61 {E : Nat → Value} {d : Nat} {st : List Value} {h : gm_H} {r : gm_R × gm_H} {a1 a2 a3 : Value} {x : Nat} : gm_Go E d 50 61 [.ref x, a1, a2, a3] st h r ↔ gm_Go E d 50 62 [.ref x, a1, a2, a3] (.ref x :: st) h r := gr_loc m50 f50_61 rfl rfl
theorem r50_61n {E : Nat → Value} {d : Nat} {st : List Value} {h : gm_H} {r : gm_R × gm_H} {a1 a2 a3 : Value}  : gm_Go E d 50 61 [.null, a1, a2, a3] st h r ↔ gm_Go E d 50 62 [.null, a1, a2, a3] (.null :: st) h r := gr_loc m50 f50_61 rfl rfl
theorem f50_62 : gm_ft 50 62 = some (.invokevirtual 128, 3) := by decide +kernel
theorem n50_62 {st : List Value} {h : gm_H} {E : Nat → Value} {lv : List Value} {a : Nat} (hs : (st.map fun v => v.category).sum ≤ 8) (he : (gm_en1 [.ref a]).length ≤ 2) {vs : List Value} (hr : gm_rd h a = some (0, vs)) : gm_next E 50 62 lv (.ref a :: st) h = some (.inr (.inl (0, 52, [.ref a], st))) := gn_call m50 f50_62 rfl rfl rfl rfl rfl rfl rfl (gc_virt (bs := []) (w := 479) rfl rfl rfl rfl hs he hr) (by decide)
theorem f50_65 : gm_ft 50 65 = some (.pop, 1) := by decide +kernel
theorem r50_65 {E : Nat → Value} {d : Nat} {st : List Value} {h : gm_H} {r : gm_R × gm_H} {lv : List Value} {x : Int32} : gm_Go E d 50 65 lv (.int x :: st) h r ↔ gm_Go E d 50 66 lv st h r := gr_pure m50 f50_65 rfl
theorem r50_65a {E : Nat → Value} {d : Nat} {st : List Value} {h : gm_H} {r : gm_R × gm_H} {lv : List Value} {a : Nat} : gm_Go E d 50 65 lv (.ref a :: st) h r ↔ gm_Go E d 50 66 lv st h r := gr_pure m50 f50_65 rfl
theorem r50_65n {E : Nat → Value} {d : Nat} {st : List Value} {h : gm_H} {r : gm_R × gm_H} {lv : List Value} : gm_Go E d 50 65 lv (.null :: st) h r ↔ gm_Go E d 50 66 lv st h r := gr_pure m50 f50_65 rfl
theorem f50_66 : gm_ft 50 66 = some (.goto 11, 3) := by decide +kernel
theorem r50_66 {E : Nat → Value} {d : Nat} {st : List Value} {h : gm_H} {r : gm_R × gm_H} {lv : List Value} : gm_Go E d 50 66 lv st h r ↔ gm_Go E d 50 77 lv st h r := gr_brT m50 f50_66 rfl rfl rfl rfl
theorem f50_69 : gm_ft 50 69 = some (.aload_n 0, 1) := by decide +kernel
theorem r50_69 {E : Nat → Value} {d : Nat} {st : List Value} {h : gm_H} {r : gm_R × gm_H} {a1 a2 a3 : Value} {x : Nat} : gm_Go E d 50 69 [.ref x, a1, a2, a3] st h r ↔ gm_Go E d 50 70 [.ref x, a1, a2, a3] (.ref x :: st) h r := gr_loc m50 f50_69 rfl rfl
theorem r50_69n {E : Nat → Value} {d : Nat} {st : List Value} {h : gm_H} {r : gm_R × gm_H} {a1 a2 a3 : Value}  : gm_Go E d 50 69 [.null, a1, a2, a3] st h r ↔ gm_Go E d 50 70 [.null, a1, a2, a3] (.null :: st) h r := gr_loc m50 f50_69 rfl rfl
theorem f50_70 : gm_ft 50 70 = some (.iload_n 1, 1) := by decide +kernel
theorem r50_70 {E : Nat → Value} {d : Nat} {st : List Value} {h : gm_H} {r : gm_R × gm_H} {a0 a2 a3 : Value} {x : Int32} : gm_Go E d 50 70 [a0, .int x, a2, a3] st h r ↔ gm_Go E d 50 71 [a0, .int x, a2, a3] (.int x :: st) h r := gr_loc m50 f50_70 rfl rfl
theorem f50_71 : gm_ft 50 71 = some (.iconst 1, 1) := by decide +kernel
theorem r50_71 {E : Nat → Value} {d : Nat} {st : List Value} {h : gm_H} {r : gm_R × gm_H} {lv : List Value} : gm_Go E d 50 71 lv st h r ↔ gm_Go E d 50 72 lv (.int (1 : Int32) :: st) h r := gr_pure m50 f50_71 rfl
theorem f50_72 : gm_ft 50 72 = some (.iadd, 1) := by decide +kernel
theorem r50_72 {E : Nat → Value} {d : Nat} {st : List Value} {h : gm_H} {r : gm_R × gm_H} {lv : List Value} {x y : Int32} : gm_Go E d 50 72 lv (.int y :: .int x :: st) h r ↔ gm_Go E d 50 73 lv (.int (x + y) :: st) h r := gr_pure m50 f50_72 rfl
theorem f50_73 : gm_ft 50 73 = some (.invokevirtual 182, 3) := by decide +kernel
theorem n50_73 {st : List Value} {h : gm_H} {E : Nat → Value} {lv : List Value} {b0 : Value} {a : Nat} (hs : (st.map fun v => v.category).sum ≤ 8) (he : (gm_en1 [.ref a, b0]).length ≤ 2) {vs : List Value} (hr : gm_rd h a = some (0, vs)) : gm_next E 50 73 lv (b0 :: .ref a :: st) h = some (.inr (.inl (0, 23, [.ref a, b0], st))) := gn_call m50 f50_73 rfl rfl rfl rfl rfl rfl rfl (gc_virt (bs := [b0]) (w := 270) rfl rfl rfl rfl hs he hr) (by decide)
theorem f50_76 : gm_ft 50 76 = some (.pop, 1) := by decide +kernel
theorem r50_76 {E : Nat → Value} {d : Nat} {st : List Value} {h : gm_H} {r : gm_R × gm_H} {lv : List Value} {x : Int32} : gm_Go E d 50 76 lv (.int x :: st) h r ↔ gm_Go E d 50 77 lv st h r := gr_pure m50 f50_76 rfl
theorem r50_76a {E : Nat → Value} {d : Nat} {st : List Value} {h : gm_H} {r : gm_R × gm_H} {lv : List Value} {a : Nat} : gm_Go E d 50 76 lv (.ref a :: st) h r ↔ gm_Go E d 50 77 lv st h r := gr_pure m50 f50_76 rfl
theorem r50_76n {E : Nat → Value} {d : Nat} {st : List Value} {h : gm_H} {r : gm_R × gm_H} {lv : List Value} : gm_Go E d 50 76 lv (.null :: st) h r ↔ gm_Go E d 50 77 lv st h r := gr_pure m50 f50_76 rfl
theorem f50_77 : gm_ft 50 77 = some (.iinc 2 1, 3) := by decide +kernel
theorem r50_77 {E : Nat → Value} {d : Nat} {st : List Value} {h : gm_H} {r : gm_R × gm_H} {a0 a1 a3 : Value} {x : Int32} : gm_Go E d 50 77 [a0, a1, .int x, a3] st h r ↔ gm_Go E d 50 80 [a0, gm_k a1, .int (x + (1 : Int32)), a3] st h r := gr_loc m50 f50_77 rfl rfl
theorem f50_80 : gm_ft 50 80 = some (.goto (-78), 3) := by decide +kernel
theorem r50_80 {E : Nat → Value} {d : Nat} {st : List Value} {h : gm_H} {r : gm_R × gm_H} {lv : List Value} : gm_Go E d 50 80 lv st h r ↔ gm_Go E d 50 2 lv st h r := gr_brT m50 f50_80 rfl rfl rfl rfl
theorem f50_83 : gm_ft 50 83 = some (.return_, 1) := by decide +kernel
theorem r50_83 {E : Nat → Value} {d : Nat} {h : gm_H} {r : gm_R × gm_H} {lv : List Value} : gm_Go E d 50 83 lv [] h r ↔ r = (.inl none, h) := gr_ret m50 f50_83 rfl rfl rfl rfl rfl rfl rfl rfl rfl
/-! GraphReader.isBlock(I)Z -/
theorem m51 : gm_mt[51]? = some (⟨"GraphReader", "isBlock", "(I)Z"⟩, prog_1_method_24_code, 1, (some .boolean), [], 0, 1) := rfl
theorem f51_0 : gm_ft 51 0 = some (.iload_n 0, 1) := by decide +kernel
theorem r51_0 {E : Nat → Value} {d : Nat} {st : List Value} {h : gm_H} {r : gm_R × gm_H}  {x : Int32} : gm_Go E d 51 0 [.int x] st h r ↔ gm_Go E d 51 1 [.int x] (.int x :: st) h r := gr_loc m51 f51_0 rfl rfl
theorem f51_1 : gm_ft 51 1 = some (.bipush 119, 2) := by decide +kernel
theorem r51_1 {E : Nat → Value} {d : Nat} {st : List Value} {h : gm_H} {r : gm_R × gm_H} {lv : List Value} : gm_Go E d 51 1 lv st h r ↔ gm_Go E d 51 3 lv (.int (119 : Int32) :: st) h r := gr_pure m51 f51_1 rfl
theorem f51_3 : gm_ft 51 3 = some (.if_icmp .eq 9, 3) := by decide +kernel
theorem r51_3 {E : Nat → Value} {d : Nat} {st : List Value} {h : gm_H} {r : gm_R × gm_H} {lv : List Value} {x y : Int32} : gm_Go E d 51 3 lv (.int y :: .int x :: st) h r ↔ (if x = y then gm_Go E d 51 12 lv st h r else gm_Go E d 51 6 lv st h r) := (gr_br m51 f51_3 rfl rfl rfl rfl).trans gr_if
theorem f51_6 : gm_ft 51 6 = some (.iload_n 0, 1) := by decide +kernel
theorem r51_6 {E : Nat → Value} {d : Nat} {st : List Value} {h : gm_H} {r : gm_R × gm_H}  {x : Int32} : gm_Go E d 51 6 [.int x] st h r ↔ gm_Go E d 51 7 [.int x] (.int x :: st) h r := gr_loc m51 f51_6 rfl rfl
theorem f51_7 : gm_ft 51 7 = some (.bipush 122, 2) := by decide +kernel
theorem r51_7 {E : Nat → Value} {d : Nat} {st : List Value} {h : gm_H} {r : gm_R × gm_H} {lv : List Value} : gm_Go E d 51 7 lv st h r ↔ gm_Go E d 51 9 lv (.int (122 : Int32) :: st) h r := gr_pure m51 f51_7 rfl
theorem f51_9 : gm_ft 51 9 = some (.if_icmp .ne 7, 3) := by decide +kernel
theorem r51_9 {E : Nat → Value} {d : Nat} {st : List Value} {h : gm_H} {r : gm_R × gm_H} {lv : List Value} {x y : Int32} : gm_Go E d 51 9 lv (.int y :: .int x :: st) h r ↔ (if x = y then gm_Go E d 51 12 lv st h r else gm_Go E d 51 16 lv st h r) := (gr_br m51 f51_9 rfl rfl rfl rfl).trans gr_ifn
theorem f51_12 : gm_ft 51 12 = some (.iconst 1, 1) := by decide +kernel
theorem r51_12 {E : Nat → Value} {d : Nat} {st : List Value} {h : gm_H} {r : gm_R × gm_H} {lv : List Value} : gm_Go E d 51 12 lv st h r ↔ gm_Go E d 51 13 lv (.int (1 : Int32) :: st) h r := gr_pure m51 f51_12 rfl
theorem f51_13 : gm_ft 51 13 = some (.goto 4, 3) := by decide +kernel
theorem r51_13 {E : Nat → Value} {d : Nat} {st : List Value} {h : gm_H} {r : gm_R × gm_H} {lv : List Value} : gm_Go E d 51 13 lv st h r ↔ gm_Go E d 51 17 lv st h r := gr_brT m51 f51_13 rfl rfl rfl rfl
theorem f51_16 : gm_ft 51 16 = some (.iconst 0, 1) := by decide +kernel
theorem r51_16 {E : Nat → Value} {d : Nat} {st : List Value} {h : gm_H} {r : gm_R × gm_H} {lv : List Value} : gm_Go E d 51 16 lv st h r ↔ gm_Go E d 51 17 lv (.int (0 : Int32) :: st) h r := gr_pure m51 f51_16 rfl
theorem f51_17 : gm_ft 51 17 = some (.ireturn, 1) := by decide +kernel
theorem r51_17_0 {E : Nat → Value} {d : Nat} {h : gm_H} {r : gm_R × gm_H} {lv : List Value} : gm_Go E d 51 17 lv [.int (0 : Int32)] h r ↔ r = (.inl (some (.int (0 : Int32))), h) := gr_ret m51 f51_17 rfl rfl rfl rfl rfl rfl rfl rfl (by unfold gm_rt; dsimp only; rw [if_pos ⟨rfl, rfl⟩])
theorem r51_17_1 {E : Nat → Value} {d : Nat} {h : gm_H} {r : gm_R × gm_H} {lv : List Value} : gm_Go E d 51 17 lv [.int (1 : Int32)] h r ↔ r = (.inl (some (.int (1 : Int32))), h) := gr_ret m51 f51_17 rfl rfl rfl rfl rfl rfl rfl rfl (by unfold gm_rt; dsimp only; rw [if_pos ⟨rfl, rfl⟩])
/-! GraphReader.skipBlock()I -/
theorem m52 : gm_mt[52]? = some (⟨"GraphReader", "skipBlock", "()I"⟩, prog_1_method_25_code, 2, (some .int), [], 0, 1) := rfl
theorem f52_0 : gm_ft 52 0 = some (.aload_n 0, 1) := by decide +kernel
theorem r52_0 {E : Nat → Value} {d : Nat} {st : List Value} {h : gm_H} {r : gm_R × gm_H} {a1 : Value} {x : Nat} : gm_Go E d 52 0 [.ref x, a1] st h r ↔ gm_Go E d 52 1 [.ref x, a1] (.ref x :: st) h r := gr_loc m52 f52_0 rfl rfl
theorem r52_0n {E : Nat → Value} {d : Nat} {st : List Value} {h : gm_H} {r : gm_R × gm_H} {a1 : Value}  : gm_Go E d 52 0 [.null, a1] st h r ↔ gm_Go E d 52 1 [.null, a1] (.null :: st) h r := gr_loc m52 f52_0 rfl rfl
theorem f52_1 : gm_ft 52 1 = some (.invokevirtual 176, 3) := by decide +kernel
theorem n52_1 {st : List Value} {h : gm_H} {E : Nat → Value} {lv : List Value} {a : Nat} (hs : (st.map fun v => v.category).sum ≤ 8) (he : (gm_en1 [.ref a]).length ≤ 1) {vs : List Value} (hr : gm_rd h a = some (0, vs)) : gm_next E 52 1 lv (.ref a :: st) h = some (.inr (.inl (0, 24, [.ref a], st))) := gn_call m52 f52_1 rfl rfl rfl rfl rfl rfl rfl (gc_virt (bs := []) (w := 274) rfl rfl rfl rfl hs he hr) (by decide)
theorem f52_4 : gm_ft 52 4 = some (.bipush 119, 2) := by decide +kernel
theorem r52_4 {E : Nat → Value} {d : Nat} {st : List Value} {h : gm_H} {r : gm_R × gm_H} {lv : List Value} : gm_Go E d 52 4 lv st h r ↔ gm_Go E d 52 6 lv (.int (119 : Int32) :: st) h r := gr_pure m52 f52_4 rfl
theorem f52_6 : gm_ft 52 6 = some (.if_icmp .ne 10, 3) := by decide +kernel
theorem r52_6 {E : Nat → Value} {d : Nat} {st : List Value} {h : gm_H} {r : gm_R × gm_H} {lv : List Value} {x y : Int32} : gm_Go E d 52 6 lv (.int y :: .int x :: st) h r ↔ (if x = y then gm_Go E d 52 9 lv st h r else gm_Go E d 52 16 lv st h r) := (gr_br m52 f52_6 rfl rfl rfl rfl).trans gr_ifn
theorem f52_9 : gm_ft 52 9 = some (.aload_n 0, 1) := by decide +kernel
theorem r52_9 {E : Nat → Value} {d : Nat} {st : List Value} {h : gm_H} {r : gm_R × gm_H} {a1 : Value} {x : Nat} : gm_Go E d 52 9 [.ref x, a1] st h r ↔ gm_Go E d 52 10 [.ref x, a1] (.ref x :: st) h r := gr_loc m52 f52_9 rfl rfl
theorem r52_9n {E : Nat → Value} {d : Nat} {st : List Value} {h : gm_H} {r : gm_R × gm_H} {a1 : Value}  : gm_Go E d 52 9 [.null, a1] st h r ↔ gm_Go E d 52 10 [.null, a1] (.null :: st) h r := gr_loc m52 f52_9 rfl rfl
theorem f52_10 : gm_ft 52 10 = some (.invokevirtual 176, 3) := by decide +kernel
theorem n52_10 {st : List Value} {h : gm_H} {E : Nat → Value} {lv : List Value} {a : Nat} (hs : (st.map fun v => v.category).sum ≤ 8) (he : (gm_en1 [.ref a]).length ≤ 1) {vs : List Value} (hr : gm_rd h a = some (0, vs)) : gm_next E 52 10 lv (.ref a :: st) h = some (.inr (.inl (0, 24, [.ref a], st))) := gn_call m52 f52_10 rfl rfl rfl rfl rfl rfl rfl (gc_virt (bs := []) (w := 274) rfl rfl rfl rfl hs he hr) (by decide)
theorem f52_13 : gm_ft 52 13 = some (.goto 7, 3) := by decide +kernel
theorem r52_13 {E : Nat → Value} {d : Nat} {st : List Value} {h : gm_H} {r : gm_R × gm_H} {lv : List Value} : gm_Go E d 52 13 lv st h r ↔ gm_Go E d 52 20 lv st h r := gr_brT m52 f52_13 rfl rfl rfl rfl
theorem f52_16 : gm_ft 52 16 = some (.aload_n 0, 1) := by decide +kernel
theorem r52_16 {E : Nat → Value} {d : Nat} {st : List Value} {h : gm_H} {r : gm_R × gm_H} {a1 : Value} {x : Nat} : gm_Go E d 52 16 [.ref x, a1] st h r ↔ gm_Go E d 52 17 [.ref x, a1] (.ref x :: st) h r := gr_loc m52 f52_16 rfl rfl
theorem r52_16n {E : Nat → Value} {d : Nat} {st : List Value} {h : gm_H} {r : gm_R × gm_H} {a1 : Value}  : gm_Go E d 52 16 [.null, a1] st h r ↔ gm_Go E d 52 17 [.null, a1] (.null :: st) h r := gr_loc m52 f52_16 rfl rfl
theorem f52_17 : gm_ft 52 17 = some (.invokevirtual 179, 3) := by decide +kernel
theorem n52_17 {st : List Value} {h : gm_H} {E : Nat → Value} {lv : List Value} {a : Nat} (hs : (st.map fun v => v.category).sum ≤ 8) (he : (gm_en1 [.ref a]).length ≤ 1) {vs : List Value} (hr : gm_rd h a = some (0, vs)) : gm_next E 52 17 lv (.ref a :: st) h = some (.inr (.inl (0, 28, [.ref a], st))) := gn_call m52 f52_17 rfl rfl rfl rfl rfl rfl rfl (gc_virt (bs := []) (w := 290) rfl rfl rfl rfl hs he hr) (by decide)
theorem f52_20 : gm_ft 52 20 = some (.istore_n 1, 1) := by decide +kernel
theorem r52_20 {E : Nat → Value} {d : Nat} {st : List Value} {h : gm_H} {r : gm_R × gm_H} {a0 a1 : Value} {x : Int32} : gm_Go E d 52 20 [a0, a1] (.int x :: st) h r ↔ gm_Go E d 52 21 [gm_k a0, .int x] st h r := gr_loc m52 f52_20 rfl rfl
theorem f52_21 : gm_ft 52 21 = some (.iload_n 1, 1) := by decide +kernel
theorem r52_21 {E : Nat → Value} {d : Nat} {st : List Value} {h : gm_H} {r : gm_R × gm_H} {a0 : Value} {x : Int32} : gm_Go E d 52 21 [a0, .int x] st h r ↔ gm_Go E d 52 22 [a0, .int x] (.int x :: st) h r := gr_loc m52 f52_21 rfl rfl
theorem f52_22 : gm_ft 52 22 = some (.ifCond .ge 10, 3) := by decide +kernel
theorem r52_22 {E : Nat → Value} {d : Nat} {st : List Value} {h : gm_H} {r : gm_R × gm_H} {lv : List Value} {x : Int32} : gm_Go E d 52 22 lv (.int x :: st) h r ↔ (if 0 ≤ x then gm_Go E d 52 32 lv st h r else gm_Go E d 52 25 lv st h r) := (gr_br m52 f52_22 rfl rfl rfl rfl).trans gr_if
theorem f52_25 : gm_ft 52 25 = some (.aload_n 0, 1) := by decide +kernel
theorem r52_25 {E : Nat → Value} {d : Nat} {st : List Value} {h : gm_H} {r : gm_R × gm_H} {a1 : Value} {x : Nat} : gm_Go E d 52 25 [.ref x, a1] st h r ↔ gm_Go E d 52 26 [.ref x, a1] (.ref x :: st) h r := gr_loc m52 f52_25 rfl rfl
theorem r52_25n {E : Nat → Value} {d : Nat} {st : List Value} {h : gm_H} {r : gm_R × gm_H} {a1 : Value}  : gm_Go E d 52 25 [.null, a1] st h r ↔ gm_Go E d 52 26 [.null, a1] (.null :: st) h r := gr_loc m52 f52_25 rfl rfl
theorem f52_26 : gm_ft 52 26 = some (.bipush (-4), 2) := by decide +kernel
theorem r52_26 {E : Nat → Value} {d : Nat} {st : List Value} {h : gm_H} {r : gm_R × gm_H} {lv : List Value} : gm_Go E d 52 26 lv st h r ↔ gm_Go E d 52 28 lv (.int (-4 : Int32) :: st) h r := gr_pure m52 f52_26 rfl
theorem f52_28 : gm_ft 52 28 = some (.invokevirtual 160, 3) := by decide +kernel
theorem n52_28 {st : List Value} {h : gm_H} {E : Nat → Value} {lv : List Value} {b0 : Value} {a : Nat} (hs : (st.map fun v => v.category).sum ≤ 8) (he : (gm_en1 [.ref a, b0]).length ≤ 2) {vs : List Value} (hr : gm_rd h a = some (0, vs)) : gm_next E 52 28 lv (b0 :: .ref a :: st) h = some (.inr (.inl (0, 22, [.ref a, b0], st))) := gn_call m52 f52_28 rfl rfl rfl rfl rfl rfl rfl (gc_virt (bs := [b0]) (w := 206) rfl rfl rfl rfl hs he hr) (by decide)
theorem f52_31 : gm_ft 52 31 = some (.ireturn, 1) := by decide +kernel
theorem r52_31 {E : Nat → Value} {d : Nat} {h : gm_H} {r : gm_R × gm_H} {lv : List Value} {x : Int32} : gm_Go E d 52 31 lv [.int x] h r ↔ r = (.inl (some (.int x)), h) := gr_ret m52 f52_31 rfl rfl rfl rfl rfl rfl rfl rfl (by unfold gm_rt; dsimp only; rw [if_pos ⟨rfl, rfl⟩])
theorem f52_32 : gm_ft 52 32 = some (.iload_n 1, 1) := by decide +kernel
theorem r52_32 {E : Nat → Value} {d : Nat} {st : List Value} {h : gm_H} {r : gm_R × gm_H} {a0 : Value} {x : Int32} : gm_Go E d 52 32 [a0, .int x] st h r ↔ gm_Go E d 52 33 [a0, .int x] (.int x :: st) h r := gr_loc m52 f52_32 rfl rfl
theorem f52_33 : gm_ft 52 33 = some (.aload_n 0, 1) := by decide +kernel
theorem r52_33 {E : Nat → Value} {d : Nat} {st : List Value} {h : gm_H} {r : gm_R × gm_H} {a1 : Value} {x : Nat} : gm_Go E d 52 33 [.ref x, a1] st h r ↔ gm_Go E d 52 34 [.ref x, a1] (.ref x :: st) h r := gr_loc m52 f52_33 rfl rfl
theorem r52_33n {E : Nat → Value} {d : Nat} {st : List Value} {h : gm_H} {r : gm_R × gm_H} {a1 : Value}  : gm_Go E d 52 33 [.null, a1] st h r ↔ gm_Go E d 52 34 [.null, a1] (.null :: st) h r := gr_loc m52 f52_33 rfl rfl
theorem f52_34 : gm_ft 52 34 = some (.getfield 93, 3) := by decide +kernel
theorem r52_34 {E : Nat → Value} {d : Nat} {st : List Value} {h : gm_H} {r : gm_R × gm_H} {lv : List Value} {a : Nat} {vs : List Value} {v : Value} (hr : gm_rd h a = some (0, vs)) (hv : vs[6]? = some v) : gm_Go E d 52 34 lv (.ref a :: st) h r ↔ gm_Go E d 52 37 lv (v :: st) h r := gr_rd m52 f52_34 rfl rfl rfl rfl (gf_get k0_93 hr hv)
theorem f52_37 : gm_ft 52 37 = some (.aload_n 0, 1) := by decide +kernel
theorem r52_37 {E : Nat → Value} {d : Nat} {st : List Value} {h : gm_H} {r : gm_R × gm_H} {a1 : Value} {x : Nat} : gm_Go E d 52 37 [.ref x, a1] st h r ↔ gm_Go E d 52 38 [.ref x, a1] (.ref x :: st) h r := gr_loc m52 f52_37 rfl rfl
theorem r52_37n {E : Nat → Value} {d : Nat} {st : List Value} {h : gm_H} {r : gm_R × gm_H} {a1 : Value}  : gm_Go E d 52 37 [.null, a1] st h r ↔ gm_Go E d 52 38 [.null, a1] (.null :: st) h r := gr_loc m52 f52_37 rfl rfl
theorem f52_38 : gm_ft 52 38 = some (.getfield 96, 3) := by decide +kernel
theorem r52_38 {E : Nat → Value} {d : Nat} {st : List Value} {h : gm_H} {r : gm_R × gm_H} {lv : List Value} {a : Nat} {vs : List Value} {v : Value} (hr : gm_rd h a = some (0, vs)) (hv : vs[7]? = some v) : gm_Go E d 52 38 lv (.ref a :: st) h r ↔ gm_Go E d 52 41 lv (v :: st) h r := gr_rd m52 f52_38 rfl rfl rfl rfl (gf_get k0_96 hr hv)
theorem f52_41 : gm_ft 52 41 = some (.isub, 1) := by decide +kernel
theorem r52_41 {E : Nat → Value} {d : Nat} {st : List Value} {h : gm_H} {r : gm_R × gm_H} {lv : List Value} {x y : Int32} : gm_Go E d 52 41 lv (.int y :: .int x :: st) h r ↔ gm_Go E d 52 42 lv (.int (x - y) :: st) h r := gr_pure m52 f52_41 rfl
theorem f52_42 : gm_ft 52 42 = some (.if_icmp .le 10, 3) := by decide +kernel
theorem r52_42 {E : Nat → Value} {d : Nat} {st : List Value} {h : gm_H} {r : gm_R × gm_H} {lv : List Value} {x y : Int32} : gm_Go E d 52 42 lv (.int y :: .int x :: st) h r ↔ (if x ≤ y then gm_Go E d 52 52 lv st h r else gm_Go E d 52 45 lv st h r) := (gr_br m52 f52_42 rfl rfl rfl rfl).trans gr_if
theorem f52_45 : gm_ft 52 45 = some (.aload_n 0, 1) := by decide +kernel
theorem r52_45 {E : Nat → Value} {d : Nat} {st : List Value} {h : gm_H} {r : gm_R × gm_H} {a1 : Value} {x : Nat} : gm_Go E d 52 45 [.ref x, a1] st h r ↔ gm_Go E d 52 46 [.ref x, a1] (.ref x :: st) h r := gr_loc m52 f52_45 rfl rfl
theorem r52_45n {E : Nat → Value} {d : Nat} {st : List Value} {h : gm_H} {r : gm_R × gm_H} {a1 : Value}  : gm_Go E d 52 45 [.null, a1] st h r ↔ gm_Go E d 52 46 [.null, a1] (.null :: st) h r := gr_loc m52 f52_45 rfl rfl
theorem f52_46 : gm_ft 52 46 = some (.bipush (-3), 2) := by decide +kernel
theorem r52_46 {E : Nat → Value} {d : Nat} {st : List Value} {h : gm_H} {r : gm_R × gm_H} {lv : List Value} : gm_Go E d 52 46 lv st h r ↔ gm_Go E d 52 48 lv (.int (-3 : Int32) :: st) h r := gr_pure m52 f52_46 rfl
theorem f52_48 : gm_ft 52 48 = some (.invokevirtual 160, 3) := by decide +kernel
theorem n52_48 {st : List Value} {h : gm_H} {E : Nat → Value} {lv : List Value} {b0 : Value} {a : Nat} (hs : (st.map fun v => v.category).sum ≤ 8) (he : (gm_en1 [.ref a, b0]).length ≤ 2) {vs : List Value} (hr : gm_rd h a = some (0, vs)) : gm_next E 52 48 lv (b0 :: .ref a :: st) h = some (.inr (.inl (0, 22, [.ref a, b0], st))) := gn_call m52 f52_48 rfl rfl rfl rfl rfl rfl rfl (gc_virt (bs := [b0]) (w := 206) rfl rfl rfl rfl hs he hr) (by decide)
theorem f52_51 : gm_ft 52 51 = some (.ireturn, 1) := by decide +kernel
theorem r52_51 {E : Nat → Value} {d : Nat} {h : gm_H} {r : gm_R × gm_H} {lv : List Value} {x : Int32} : gm_Go E d 52 51 lv [.int x] h r ↔ r = (.inl (some (.int x)), h) := gr_ret m52 f52_51 rfl rfl rfl rfl rfl rfl rfl rfl (by unfold gm_rt; dsimp only; rw [if_pos ⟨rfl, rfl⟩])
theorem f52_52 : gm_ft 52 52 = some (.aload_n 0, 1) := by decide +kernel
theorem r52_52 {E : Nat → Value} {d : Nat} {st : List Value} {h : gm_H} {r : gm_R × gm_H} {a1 : Value} {x : Nat} : gm_Go E d 52 52 [.ref x, a1] st h r ↔ gm_Go E d 52 53 [.ref x, a1] (.ref x :: st) h r := gr_loc m52 f52_52 rfl rfl
theorem r52_52n {E : Nat → Value} {d : Nat} {st : List Value} {h : gm_H} {r : gm_R × gm_H} {a1 : Value}  : gm_Go E d 52 52 [.null, a1] st h r ↔ gm_Go E d 52 53 [.null, a1] (.null :: st) h r := gr_loc m52 f52_52 rfl rfl
theorem f52_53 : gm_ft 52 53 = some (.dup, 1) := by decide +kernel
theorem r52_53 {E : Nat → Value} {d : Nat} {st : List Value} {h : gm_H} {r : gm_R × gm_H} {lv : List Value} {a : Nat} : gm_Go E d 52 53 lv (.ref a :: st) h r ↔ gm_Go E d 52 54 lv (.ref a :: .ref a :: st) h r := gr_pure m52 f52_53 rfl
theorem r52_53i {E : Nat → Value} {d : Nat} {st : List Value} {h : gm_H} {r : gm_R × gm_H} {lv : List Value} {x : Int32} : gm_Go E d 52 53 lv (.int x :: st) h r ↔ gm_Go E d 52 54 lv (.int x :: .int x :: st) h r := gr_pure m52 f52_53 rfl
theorem f52_54 : gm_ft 52 54 = some (.getfield 96, 3) := by decide +kernel
theorem r52_54 {E : Nat → Value} {d : Nat} {st : List Value} {h : gm_H} {r : gm_R × gm_H} {lv : List Value} {a : Nat} {vs : List Value} {v : Value} (hr : gm_rd h a = some (0, vs)) (hv : vs[7]? = some v) : gm_Go E d 52 54 lv (.ref a :: st) h r ↔ gm_Go E d 52 57 lv (v :: st) h r := gr_rd m52 f52_54 rfl rfl rfl rfl (gf_get k0_96 hr hv)
theorem f52_57 : gm_ft 52 57 = some (.iload_n 1, 1) := by decide +kernel
theorem r52_57 {E : Nat → Value} {d : Nat} {st : List Value} {h : gm_H} {r : gm_R × gm_H} {a0 : Value} {x : Int32} : gm_Go E d 52 57 [a0, .int x] st h r ↔ gm_Go E d 52 58 [a0, .int x] (.int x :: st) h r := gr_loc m52 f52_57 rfl rfl
theorem f52_58 : gm_ft 52 58 = some (.iadd, 1) := by decide +kernel
theorem r52_58 {E : Nat → Value} {d : Nat} {st : List Value} {h : gm_H} {r : gm_R × gm_H} {lv : List Value} {x y : Int32} : gm_Go E d 52 58 lv (.int y :: .int x :: st) h r ↔ gm_Go E d 52 59 lv (.int (x + y) :: st) h r := gr_pure m52 f52_58 rfl
theorem f52_59 : gm_ft 52 59 = some (.putfield 96, 3) := by decide +kernel
theorem r52_59 {E : Nat → Value} {d : Nat} {st : List Value} {h : gm_H} {r : gm_R × gm_H} {lv : List Value} {a : Nat} {vs : List Value} {v : Value} (hr : gm_rd h a = some (0, vs)) (hk : 7 < vs.length) (hn : narrow (gm_ty 0 7) v = v ∧ fits (gm_ty 0 7) v = true) : gm_Go E d 52 59 lv (v :: .ref a :: st) h r ↔ gm_Go E d 52 62 lv st (gm_wr h a (0, vs.set 7 v)) r := gr_wr m52 f52_59 rfl rfl rfl rfl rfl (gf_put k0_96 hr (by decide) hk hn (by decide))
theorem f52_62 : gm_ft 52 62 = some (.iload_n 1, 1) := by decide +kernel
theorem r52_62 {E : Nat → Value} {d : Nat} {st : List Value} {h : gm_H} {r : gm_R × gm_H} {a0 : Value} {x : Int32} : gm_Go E d 52 62 [a0, .int x] st h r ↔ gm_Go E d 52 63 [a0, .int x] (.int x :: st) h r := gr_loc m52 f52_62 rfl rfl
theorem f52_63 : gm_ft 52 63 = some (.ireturn, 1) := by decide +kernel
theorem r52_63 {E : Nat → Value} {d : Nat} {h : gm_H} {r : gm_R × gm_H} {lv : List Value} {x : Int32} : gm_Go E d 52 63 lv [.int x] h r ↔ r = (.inl (some (.int x)), h) := gr_ret m52 f52_63 rfl rfl rfl rfl rfl rfl rfl rfl (by unfold gm_rt; dsimp only; rw [if_pos ⟨rfl, rfl⟩])
/-! GraphReader$Descriptor.putUnder(LGraphReader$Descriptor;)V -/
theorem m53 : gm_mt[53]? = some (⟨"GraphReader$Descriptor", "putUnder", "(LGraphReader$Descriptor;)V"⟩, prog_2_method_5_code, 2, none, [], 1, 1) := rfl
theorem f53_0 : gm_ft 53 0 = some (.aload_n 0, 1) := by decide +kernel
theorem r53_0 {E : Nat → Value} {d : Nat} {st : List Value} {h : gm_H} {r : gm_R × gm_H} {a1 : Value} {x : Nat} : gm_Go E d 53 0 [.ref x, a1] st h r ↔ gm_Go E d 53 1 [.ref x, a1] (.ref x :: st) h r := gr_loc m53 f53_0 rfl rfl
theorem r53_0n {E : Nat → Value} {d : Nat} {st : List Value} {h : gm_H} {r : gm_R × gm_H} {a1 : Value}  : gm_Go E d 53 0 [.null, a1] st h r ↔ gm_Go E d 53 1 [.null, a1] (.null :: st) h r := gr_loc m53 f53_0 rfl rfl
theorem f53_1 : gm_ft 53 1 = some (.aload_n 1, 1) := by decide +kernel
theorem r53_1 {E : Nat → Value} {d : Nat} {st : List Value} {h : gm_H} {r : gm_R × gm_H} {a0 : Value} {x : Nat} : gm_Go E d 53 1 [a0, .ref x] st h r ↔ gm_Go E d 53 2 [a0, .ref x] (.ref x :: st) h r := gr_loc m53 f53_1 rfl rfl
theorem r53_1n {E : Nat → Value} {d : Nat} {st : List Value} {h : gm_H} {r : gm_R × gm_H} {a0 : Value}  : gm_Go E d 53 1 [a0, .null] st h r ↔ gm_Go E d 53 2 [a0, .null] (.null :: st) h r := gr_loc m53 f53_1 rfl rfl
theorem f53_2 : gm_ft 53 2 = some (.putfield 39, 3) := by decide +kernel
theorem r53_2 {E : Nat → Value} {d : Nat} {st : List Value} {h : gm_H} {r : gm_R × gm_H} {lv : List Value} {a : Nat} {vs : List Value} {v : Value} (hr : gm_rd h a = some (1, vs)) (hk : 7 < vs.length) (hn : narrow (gm_ty 1 7) v = v ∧ fits (gm_ty 1 7) v = true) : gm_Go E d 53 2 lv (v :: .ref a :: st) h r ↔ gm_Go E d 53 5 lv st (gm_wr h a (1, vs.set 7 v)) r := gr_wr m53 f53_2 rfl rfl rfl rfl rfl (gf_put k1_39 hr (by decide) hk hn (by decide))
theorem f53_5 : gm_ft 53 5 = some (.aload_n 0, 1) := by decide +kernel
theorem r53_5 {E : Nat → Value} {d : Nat} {st : List Value} {h : gm_H} {r : gm_R × gm_H} {a1 : Value} {x : Nat} : gm_Go E d 53 5 [.ref x, a1] st h r ↔ gm_Go E d 53 6 [.ref x, a1] (.ref x :: st) h r := gr_loc m53 f53_5 rfl rfl
theorem r53_5n {E : Nat → Value} {d : Nat} {st : List Value} {h : gm_H} {r : gm_R × gm_H} {a1 : Value}  : gm_Go E d 53 5 [.null, a1] st h r ↔ gm_Go E d 53 6 [.null, a1] (.null :: st) h r := gr_loc m53 f53_5 rfl rfl
theorem f53_6 : gm_ft 53 6 = some (.aload_n 1, 1) := by decide +kernel
theorem r53_6 {E : Nat → Value} {d : Nat} {st : List Value} {h : gm_H} {r : gm_R × gm_H} {a0 : Value} {x : Nat} : gm_Go E d 53 6 [a0, .ref x] st h r ↔ gm_Go E d 53 7 [a0, .ref x] (.ref x :: st) h r := gr_loc m53 f53_6 rfl rfl
theorem r53_6n {E : Nat → Value} {d : Nat} {st : List Value} {h : gm_H} {r : gm_R × gm_H} {a0 : Value}  : gm_Go E d 53 6 [a0, .null] st h r ↔ gm_Go E d 53 7 [a0, .null] (.null :: st) h r := gr_loc m53 f53_6 rfl rfl
theorem f53_7 : gm_ft 53 7 = some (.ifnonnull 7, 3) := by decide +kernel
theorem r53_7n {E : Nat → Value} {d : Nat} {st : List Value} {h : gm_H} {r : gm_R × gm_H} {lv : List Value} : gm_Go E d 53 7 lv (.null :: st) h r ↔ gm_Go E d 53 10 lv st h r := gr_brF m53 f53_7 rfl rfl rfl rfl
theorem r53_7 {E : Nat → Value} {d : Nat} {st : List Value} {h : gm_H} {r : gm_R × gm_H} {lv : List Value} {a : Nat} : gm_Go E d 53 7 lv (.ref a :: st) h r ↔ gm_Go E d 53 14 lv st h r := gr_brT m53 f53_7 rfl rfl rfl rfl
theorem f53_10 : gm_ft 53 10 = some (.iconst 0, 1) := by decide +kernel
theorem r53_10 {E : Nat → Value} {d : Nat} {st : List Value} {h : gm_H} {r : gm_R × gm_H} {lv : List Value} : gm_Go E d 53 10 lv st h r ↔ gm_Go E d 53 11 lv (.int (0 : Int32) :: st) h r := gr_pure m53 f53_10 rfl
theorem f53_11 : gm_ft 53 11 = some (.goto 9, 3) := by decide +kernel
theorem r53_11 {E : Nat → Value} {d : Nat} {st : List Value} {h : gm_H} {r : gm_R × gm_H} {lv : List Value} : gm_Go E d 53 11 lv st h r ↔ gm_Go E d 53 20 lv st h r := gr_brT m53 f53_11 rfl rfl rfl rfl
theorem f53_14 : gm_ft 53 14 = some (.aload_n 1, 1) := by decide +kernel
theorem r53_14 {E : Nat → Value} {d : Nat} {st : List Value} {h : gm_H} {r : gm_R × gm_H} {a0 : Value} {x : Nat} : gm_Go E d 53 14 [a0, .ref x] st h r ↔ gm_Go E d 53 15 [a0, .ref x] (.ref x :: st) h r := gr_loc m53 f53_14 rfl rfl
theorem r53_14n {E : Nat → Value} {d : Nat} {st : List Value} {h : gm_H} {r : gm_R × gm_H} {a0 : Value}  : gm_Go E d 53 14 [a0, .null] st h r ↔ gm_Go E d 53 15 [a0, .null] (.null :: st) h r := gr_loc m53 f53_14 rfl rfl
theorem f53_15 : gm_ft 53 15 = some (.getfield 43, 3) := by decide +kernel
theorem r53_15 {E : Nat → Value} {d : Nat} {st : List Value} {h : gm_H} {r : gm_R × gm_H} {lv : List Value} {a : Nat} {vs : List Value} {v : Value} (hr : gm_rd h a = some (1, vs)) (hv : vs[8]? = some v) : gm_Go E d 53 15 lv (.ref a :: st) h r ↔ gm_Go E d 53 18 lv (v :: st) h r := gr_rd m53 f53_15 rfl rfl rfl rfl (gf_get k1_43 hr hv)
theorem f53_18 : gm_ft 53 18 = some (.iconst 1, 1) := by decide +kernel
theorem r53_18 {E : Nat → Value} {d : Nat} {st : List Value} {h : gm_H} {r : gm_R × gm_H} {lv : List Value} : gm_Go E d 53 18 lv st h r ↔ gm_Go E d 53 19 lv (.int (1 : Int32) :: st) h r := gr_pure m53 f53_18 rfl
theorem f53_19 : gm_ft 53 19 = some (.iadd, 1) := by decide +kernel
theorem r53_19 {E : Nat → Value} {d : Nat} {st : List Value} {h : gm_H} {r : gm_R × gm_H} {lv : List Value} {x y : Int32} : gm_Go E d 53 19 lv (.int y :: .int x :: st) h r ↔ gm_Go E d 53 20 lv (.int (x + y) :: st) h r := gr_pure m53 f53_19 rfl
theorem f53_20 : gm_ft 53 20 = some (.putfield 43, 3) := by decide +kernel
theorem r53_20 {E : Nat → Value} {d : Nat} {st : List Value} {h : gm_H} {r : gm_R × gm_H} {lv : List Value} {a : Nat} {vs : List Value} {v : Value} (hr : gm_rd h a = some (1, vs)) (hk : 8 < vs.length) (hn : narrow (gm_ty 1 8) v = v ∧ fits (gm_ty 1 8) v = true) : gm_Go E d 53 20 lv (v :: .ref a :: st) h r ↔ gm_Go E d 53 23 lv st (gm_wr h a (1, vs.set 8 v)) r := gr_wr m53 f53_20 rfl rfl rfl rfl rfl (gf_put k1_43 hr (by decide) hk hn (by decide))
theorem f53_23 : gm_ft 53 23 = some (.return_, 1) := by decide +kernel
theorem r53_23 {E : Nat → Value} {d : Nat} {h : gm_H} {r : gm_R × gm_H} {lv : List Value} : gm_Go E d 53 23 lv [] h r ↔ r = (.inl none, h) := gr_ret m53 f53_23 rfl rfl rfl rfl rfl rfl rfl rfl rfl
/-! GraphReader.matchLocalClass(LGraphReader$Descriptor;)V -/
theorem m54 : gm_mt[54]? = some (⟨"GraphReader", "matchLocalClass", "(LGraphReader$Descriptor;)V"⟩, prog_1_method_51_code, 2, none, [], 0, 1) := rfl
theorem f54_0 : gm_ft 54 0 = some (.aload_n 1, 1) := by decide +kernel
theorem r54_0 {E : Nat → Value} {d : Nat} {st : List Value} {h : gm_H} {r : gm_R × gm_H} {a0 : Value} {x : Nat} : gm_Go E d 54 0 [a0, .ref x] st h r ↔ gm_Go E d 54 1 [a0, .ref x] (.ref x :: st) h r := gr_loc m54 f54_0 rfl rfl
theorem r54_0n {E : Nat → Value} {d : Nat} {st : List Value} {h : gm_H} {r : gm_R × gm_H} {a0 : Value}  : gm_Go E d 54 0 [a0, .null] st h r ↔ gm_Go E d 54 1 [a0, .null] (.null :: st) h r := gr_loc m54 f54_0 rfl rfl
theorem f54_1 : gm_ft 54 1 = some (.iconst 4, 1) := by decide +kernel
theorem r54_1 {E : Nat → Value} {d : Nat} {st : List Value} {h : gm_H} {r : gm_R × gm_H} {lv : List Value} : gm_Go E d 54 1 lv st h r ↔ gm_Go E d 54 2 lv (.int (4 : Int32) :: st) h r := gr_pure m54 f54_1 rfl
theorem f54_2 : gm_ft 54 2 = some (.invokevirtual 309, 3) := by decide +kernel
theorem n54_2 {st : List Value} {h : gm_H} {E : Nat → Value} {lv : List Value} {b0 : Value} {a : Nat} (hs : (st.map fun v => v.category).sum ≤ 8) (he : (gm_en1 [.ref a, b0]).length ≤ 2) {vs : List Value} (hr : gm_rd h a = some (1, vs)) : gm_next E 54 2 lv (b0 :: .ref a :: st) h = some (.inr (.inl (0, 35, [.ref a, b0], st))) := gn_call m54 f54_2 rfl rfl rfl rfl rfl rfl rfl (gc_virt (bs := [b0]) (w := 360) rfl rfl rfl rfl hs he hr) (by decide)
theorem f54_5 : gm_ft 54 5 = some (.ifCond .eq 10, 3) := by decide +kernel
theorem r54_5 {E : Nat → Value} {d : Nat} {st : List Value} {h : gm_H} {r : gm_R × gm_H} {lv : List Value} {x : Int32} : gm_Go E d 54 5 lv (.int x :: st) h r ↔ (if x = 0 then gm_Go E d 54 15 lv st h r else gm_Go E d 54 8 lv st h r) := (gr_br m54 f54_5 rfl rfl rfl rfl).trans gr_if
theorem f54_8 : gm_ft 54 8 = some (.aload_n 0, 1) := by decide +kernel
theorem r54_8 {E : Nat → Value} {d : Nat} {st : List Value} {h : gm_H} {r : gm_R × gm_H} {a1 : Value} {x : Nat} : gm_Go E d 54 8 [.ref x, a1] st h r ↔ gm_Go E d 54 9 [.ref x, a1] (.ref x :: st) h r := gr_loc m54 f54_8 rfl rfl
theorem r54_8n {E : Nat → Value} {d : Nat} {st : List Value} {h : gm_H} {r : gm_R × gm_H} {a1 : Value}  : gm_Go E d 54 8 [.null, a1] st h r ↔ gm_Go E d 54 9 [.null, a1] (.null :: st) h r := gr_loc m54 f54_8 rfl rfl
theorem f54_9 : gm_ft 54 9 = some (.bipush (-5), 2) := by decide +kernel
theorem r54_9 {E : Nat → Value} {d : Nat} {st : List Value} {h : gm_H} {r : gm_R × gm_H} {lv : List Value} : gm_Go E d 54 9 lv st h r ↔ gm_Go E d 54 11 lv (.int (-5 : Int32) :: st) h r := gr_pure m54 f54_9 rfl
theorem f54_11 : gm_ft 54 11 = some (.invokevirtual 160, 3) := by decide +kernel
theorem n54_11 {st : List Value} {h : gm_H} {E : Nat → Value} {lv : List Value} {b0 : Value} {a : Nat} (hs : (st.map fun v => v.category).sum ≤ 8) (he : (gm_en1 [.ref a, b0]).length ≤ 2) {vs : List Value} (hr : gm_rd h a = some (0, vs)) : gm_next E 54 11 lv (b0 :: .ref a :: st) h = some (.inr (.inl (0, 22, [.ref a, b0], st))) := gn_call m54 f54_11 rfl rfl rfl rfl rfl rfl rfl (gc_virt (bs := [b0]) (w := 206) rfl rfl rfl rfl hs he hr) (by decide)
theorem f54_14 : gm_ft 54 14 = some (.pop, 1) := by decide +kernel
theorem r54_14 {E : Nat → Value} {d : Nat} {st : List Value} {h : gm_H} {r : gm_R × gm_H} {lv : List Value} {x : Int32} : gm_Go E d 54 14 lv (.int x :: st) h r ↔ gm_Go E d 54 15 lv st h r := gr_pure m54 f54_14 rfl
theorem r54_14a {E : Nat → Value} {d : Nat} {st : List Value} {h : gm_H} {r : gm_R × gm_H} {lv : List Value} {a : Nat} : gm_Go E d 54 14 lv (.ref a :: st) h r ↔ gm_Go E d 54 15 lv st h r := gr_pure m54 f54_14 rfl
theorem r54_14n {E : Nat → Value} {d : Nat} {st : List Value} {h : gm_H} {r : gm_R × gm_H} {lv : List Value} : gm_Go E d 54 14 lv (.null :: st) h r ↔ gm_Go E d 54 15 lv st h r := gr_pure m54 f54_14 rfl
theorem f54_15 : gm_ft 54 15 = some (.aload_n 1, 1) := by decide +kernel
theorem r54_15 {E : Nat → Value} {d : Nat} {st : List Value} {h : gm_H} {r : gm_R × gm_H} {a0 : Value} {x : Nat} : gm_Go E d 54 15 [a0, .ref x] st h r ↔ gm_Go E d 54 16 [a0, .ref x] (.ref x :: st) h r := gr_loc m54 f54_15 rfl rfl
theorem r54_15n {E : Nat → Value} {d : Nat} {st : List Value} {h : gm_H} {r : gm_R × gm_H} {a0 : Value}  : gm_Go E d 54 15 [a0, .null] st h r ↔ gm_Go E d 54 16 [a0, .null] (.null :: st) h r := gr_loc m54 f54_15 rfl rfl
theorem f54_16 : gm_ft 54 16 = some (.aload_n 0, 1) := by decide +kernel
theorem r54_16 {E : Nat → Value} {d : Nat} {st : List Value} {h : gm_H} {r : gm_R × gm_H} {a1 : Value} {x : Nat} : gm_Go E d 54 16 [.ref x, a1] st h r ↔ gm_Go E d 54 17 [.ref x, a1] (.ref x :: st) h r := gr_loc m54 f54_16 rfl rfl
theorem r54_16n {E : Nat → Value} {d : Nat} {st : List Value} {h : gm_H} {r : gm_R × gm_H} {a1 : Value}  : gm_Go E d 54 16 [.null, a1] st h r ↔ gm_Go E d 54 17 [.null, a1] (.null :: st) h r := gr_loc m54 f54_16 rfl rfl
theorem f54_17 : gm_ft 54 17 = some (.aload_n 0, 1) := by decide +kernel
theorem r54_17 {E : Nat → Value} {d : Nat} {st : List Value} {h : gm_H} {r : gm_R × gm_H} {a1 : Value} {x : Nat} : gm_Go E d 54 17 [.ref x, a1] st h r ↔ gm_Go E d 54 18 [.ref x, a1] (.ref x :: st) h r := gr_loc m54 f54_17 rfl rfl
theorem r54_17n {E : Nat → Value} {d : Nat} {st : List Value} {h : gm_H} {r : gm_R × gm_H} {a1 : Value}  : gm_Go E d 54 17 [.null, a1] st h r ↔ gm_Go E d 54 18 [.null, a1] (.null :: st) h r := gr_loc m54 f54_17 rfl rfl
theorem f54_18 : gm_ft 54 18 = some (.aload_n 1, 1) := by decide +kernel
theorem r54_18 {E : Nat → Value} {d : Nat} {st : List Value} {h : gm_H} {r : gm_R × gm_H} {a0 : Value} {x : Nat} : gm_Go E d 54 18 [a0, .ref x] st h r ↔ gm_Go E d 54 19 [a0, .ref x] (.ref x :: st) h r := gr_loc m54 f54_18 rfl rfl
theorem r54_18n {E : Nat → Value} {d : Nat} {st : List Value} {h : gm_H} {r : gm_R × gm_H} {a0 : Value}  : gm_Go E d 54 18 [a0, .null] st h r ↔ gm_Go E d 54 19 [a0, .null] (.null :: st) h r := gr_loc m54 f54_18 rfl rfl
theorem f54_19 : gm_ft 54 19 = some (.getfield 239, 3) := by decide +kernel
theorem r54_19 {E : Nat → Value} {d : Nat} {st : List Value} {h : gm_H} {r : gm_R × gm_H} {lv : List Value} {a : Nat} {vs : List Value} {v : Value} (hr : gm_rd h a = some (1, vs)) (hv : vs[0]? = some v) : gm_Go E d 54 19 lv (.ref a :: st) h r ↔ gm_Go E d 54 22 lv (v :: st) h r := gr_rd m54 f54_19 rfl rfl rfl rfl (gf_get k0_239 hr hv)
theorem f54_22 : gm_ft 54 22 = some (.aload_n 1, 1) := by decide +kernel
theorem r54_22 {E : Nat → Value} {d : Nat} {st : List Value} {h : gm_H} {r : gm_R × gm_H} {a0 : Value} {x : Nat} : gm_Go E d 54 22 [a0, .ref x] st h r ↔ gm_Go E d 54 23 [a0, .ref x] (.ref x :: st) h r := gr_loc m54 f54_22 rfl rfl
theorem r54_22n {E : Nat → Value} {d : Nat} {st : List Value} {h : gm_H} {r : gm_R × gm_H} {a0 : Value}  : gm_Go E d 54 22 [a0, .null] st h r ↔ gm_Go E d 54 23 [a0, .null] (.null :: st) h r := gr_loc m54 f54_22 rfl rfl
theorem f54_23 : gm_ft 54 23 = some (.getfield 242, 3) := by decide +kernel
theorem r54_23 {E : Nat → Value} {d : Nat} {st : List Value} {h : gm_H} {r : gm_R × gm_H} {lv : List Value} {a : Nat} {vs : List Value} {v : Value} (hr : gm_rd h a = some (1, vs)) (hv : vs[1]? = some v) : gm_Go E d 54 23 lv (.ref a :: st) h r ↔ gm_Go E d 54 26 lv (v :: st) h r := gr_rd m54 f54_23 rfl rfl rfl rfl (gf_get k0_242 hr hv)
theorem f54_26 : gm_ft 54 26 = some (.bipush 65, 2) := by decide +kernel
theorem r54_26 {E : Nat → Value} {d : Nat} {st : List Value} {h : gm_H} {r : gm_R × gm_H} {lv : List Value} : gm_Go E d 54 26 lv st h r ↔ gm_Go E d 54 28 lv (.int (65 : Int32) :: st) h r := gr_pure m54 f54_26 rfl
theorem f54_28 : gm_ft 54 28 = some (.bipush 6, 2) := by decide +kernel
theorem r54_28 {E : Nat → Value} {d : Nat} {st : List Value} {h : gm_H} {r : gm_R × gm_H} {lv : List Value} : gm_Go E d 54 28 lv st h r ↔ gm_Go E d 54 30 lv (.int (6 : Int32) :: st) h r := gr_pure m54 f54_28 rfl
theorem f54_30 : gm_ft 54 30 = some (.invokevirtual 356, 3) := by decide +kernel
theorem n54_30 {st : List Value} {h : gm_H} {E : Nat → Value} {lv : List Value} {b0 b1 b2 b3 : Value} {a : Nat} (hs : (st.map fun v => v.category).sum ≤ 8) (he : (gm_en1 [.ref a, b0, b1, b2, b3]).length ≤ 6) {vs : List Value} (hr : gm_rd h a = some (0, vs)) : gm_next E 54 30 lv (b3 :: b2 :: b1 :: b0 :: .ref a :: st) h = some (.inr (.inl (0, 47, [.ref a, b0, b1, b2, b3], st))) := gn_call m54 f54_30 rfl rfl rfl rfl rfl rfl rfl (gc_virt (bs := [b3, b2, b1, b0]) (w := 460) rfl rfl rfl rfl hs he hr) (by decide)
theorem f54_33 : gm_ft 54 33 = some (.invokevirtual 64, 3) := by decide +kernel
theorem n54_33 {st : List Value} {h : gm_H} {E : Nat → Value} {lv : List Value} {b0 : Value} {a : Nat} (hs : (st.map fun v => v.category).sum ≤ 8) (he : (gm_en1 [.ref a, b0]).length ≤ 2) {vs : List Value} (hr : gm_rd h a = some (0, vs)) : gm_next E 54 33 lv (b0 :: .ref a :: st) h = some (.inr (.inl (0, 9, [.ref a, b0], st))) := gn_call m54 f54_33 rfl rfl rfl rfl rfl rfl rfl (gc_virt (bs := [b0]) (w := 153) rfl rfl rfl rfl hs he hr) (by decide)
theorem f54_36 : gm_ft 54 36 = some (.putfield 188, 3) := by decide +kernel
theorem r54_36 {E : Nat → Value} {d : Nat} {st : List Value} {h : gm_H} {r : gm_R × gm_H} {lv : List Value} {a : Nat} {vs : List Value} {v : Value} (hr : gm_rd h a = some (1, vs)) (hk : 9 < vs.length) (hn : narrow (gm_ty 1 9) v = v ∧ fits (gm_ty 1 9) v = true) : gm_Go E d 54 36 lv (v :: .ref a :: st) h r ↔ gm_Go E d 54 39 lv st (gm_wr h a (1, vs.set 9 v)) r := gr_wr m54 f54_36 rfl rfl rfl rfl rfl (gf_put k0_188 hr (by decide) hk hn (by decide))
theorem f54_39 : gm_ft 54 39 = some (.aload_n 1, 1) := by decide +kernel
theorem r54_39 {E : Nat → Value} {d : Nat} {st : List Value} {h : gm_H} {r : gm_R × gm_H} {a0 : Value} {x : Nat} : gm_Go E d 54 39 [a0, .ref x] st h r ↔ gm_Go E d 54 40 [a0, .ref x] (.ref x :: st) h r := gr_loc m54 f54_39 rfl rfl
theorem r54_39n {E : Nat → Value} {d : Nat} {st : List Value} {h : gm_H} {r : gm_R × gm_H} {a0 : Value}  : gm_Go E d 54 39 [a0, .null] st h r ↔ gm_Go E d 54 40 [a0, .null] (.null :: st) h r := gr_loc m54 f54_39 rfl rfl
theorem f54_40 : gm_ft 54 40 = some (.getfield 188, 3) := by decide +kernel
theorem r54_40 {E : Nat → Value} {d : Nat} {st : List Value} {h : gm_H} {r : gm_R × gm_H} {lv : List Value} {a : Nat} {vs : List Value} {v : Value} (hr : gm_rd h a = some (1, vs)) (hv : vs[9]? = some v) : gm_Go E d 54 40 lv (.ref a :: st) h r ↔ gm_Go E d 54 43 lv (v :: st) h r := gr_rd m54 f54_40 rfl rfl rfl rfl (gf_get k0_188 hr hv)
theorem f54_43 : gm_ft 54 43 = some (.ifnull 21, 3) := by decide +kernel
theorem r54_43n {E : Nat → Value} {d : Nat} {st : List Value} {h : gm_H} {r : gm_R × gm_H} {lv : List Value} : gm_Go E d 54 43 lv (.null :: st) h r ↔ gm_Go E d 54 64 lv st h r := gr_brT m54 f54_43 rfl rfl rfl rfl
theorem r54_43 {E : Nat → Value} {d : Nat} {st : List Value} {h : gm_H} {r : gm_R × gm_H} {lv : List Value} {a : Nat} : gm_Go E d 54 43 lv (.ref a :: st) h r ↔ gm_Go E d 54 46 lv st h r := gr_brF m54 f54_43 rfl rfl rfl rfl
theorem f54_46 : gm_ft 54 46 = some (.aload_n 1, 1) := by decide +kernel
theorem r54_46 {E : Nat → Value} {d : Nat} {st : List Value} {h : gm_H} {r : gm_R × gm_H} {a0 : Value} {x : Nat} : gm_Go E d 54 46 [a0, .ref x] st h r ↔ gm_Go E d 54 47 [a0, .ref x] (.ref x :: st) h r := gr_loc m54 f54_46 rfl rfl
theorem r54_46n {E : Nat → Value} {d : Nat} {st : List Value} {h : gm_H} {r : gm_R × gm_H} {a0 : Value}  : gm_Go E d 54 46 [a0, .null] st h r ↔ gm_Go E d 54 47 [a0, .null] (.null :: st) h r := gr_loc m54 f54_46 rfl rfl
theorem f54_47 : gm_ft 54 47 = some (.aload_n 1, 1) := by decide +kernel
theorem r54_47 {E : Nat → Value} {d : Nat} {st : List Value} {h : gm_H} {r : gm_R × gm_H} {a0 : Value} {x : Nat} : gm_Go E d 54 47 [a0, .ref x] st h r ↔ gm_Go E d 54 48 [a0, .ref x] (.ref x :: st) h r := gr_loc m54 f54_47 rfl rfl
theorem r54_47n {E : Nat → Value} {d : Nat} {st : List Value} {h : gm_H} {r : gm_R × gm_H} {a0 : Value}  : gm_Go E d 54 47 [a0, .null] st h r ↔ gm_Go E d 54 48 [a0, .null] (.null :: st) h r := gr_loc m54 f54_47 rfl rfl
theorem f54_48 : gm_ft 54 48 = some (.getfield 188, 3) := by decide +kernel
theorem r54_48 {E : Nat → Value} {d : Nat} {st : List Value} {h : gm_H} {r : gm_R × gm_H} {lv : List Value} {a : Nat} {vs : List Value} {v : Value} (hr : gm_rd h a = some (1, vs)) (hv : vs[9]? = some v) : gm_Go E d 54 48 lv (.ref a :: st) h r ↔ gm_Go E d 54 51 lv (v :: st) h r := gr_rd m54 f54_48 rfl rfl rfl rfl (gf_get k0_188 hr hv)
theorem f54_51 : gm_ft 54 51 = some (.invokevirtual 363, 3) := by decide +kernel
theorem n54_51 {st : List Value} {h : gm_H} {E : Nat → Value} {lv : List Value} {b0 : Value} {a : Nat} (hs : (st.map fun v => v.category).sum ≤ 8) (he : (gm_en1 [.ref a, b0]).length ≤ 3) {vs : List Value} (hr : gm_rd h a = some (1, vs)) : gm_next E 54 51 lv (b0 :: .ref a :: st) h = some (.inr (.inl (0, 55, [.ref a, b0], st))) := gn_call m54 f54_51 rfl rfl rfl rfl rfl rfl rfl (gc_virt (bs := [b0]) (w := 491) rfl rfl rfl rfl hs he hr) (by decide)
theorem f54_54 : gm_ft 54 54 = some (.ifCond .ne 10, 3) := by decide +kernel
theorem r54_54 {E : Nat → Value} {d : Nat} {st : List Value} {h : gm_H} {r : gm_R × gm_H} {lv : List Value} {x : Int32} : gm_Go E d 54 54 lv (.int x :: st) h r ↔ (if x = 0 then gm_Go E d 54 57 lv st h r else gm_Go E d 54 64 lv st h r) := (gr_br m54 f54_54 rfl rfl rfl rfl).trans gr_ifn
theorem f54_57 : gm_ft 54 57 = some (.aload_n 0, 1) := by decide +kernel
theorem r54_57 {E : Nat → Value} {d : Nat} {st : List Value} {h : gm_H} {r : gm_R × gm_H} {a1 : Value} {x : Nat} : gm_Go E d 54 57 [.ref x, a1] st h r ↔ gm_Go E d 54 58 [.ref x, a1] (.ref x :: st) h r := gr_loc m54 f54_57 rfl rfl
theorem r54_57n {E : Nat → Value} {d : Nat} {st : List Value} {h : gm_H} {r : gm_R × gm_H} {a1 : Value}  : gm_Go E d 54 57 [.null, a1] st h r ↔ gm_Go E d 54 58 [.null, a1] (.null :: st) h r := gr_loc m54 f54_57 rfl rfl
theorem f54_58 : gm_ft 54 58 = some (.bipush (-5), 2) := by decide +kernel
theorem r54_58 {E : Nat → Value} {d : Nat} {st : List Value} {h : gm_H} {r : gm_R × gm_H} {lv : List Value} : gm_Go E d 54 58 lv st h r ↔ gm_Go E d 54 60 lv (.int (-5 : Int32) :: st) h r := gr_pure m54 f54_58 rfl
theorem f54_60 : gm_ft 54 60 = some (.invokevirtual 160, 3) := by decide +kernel
theorem n54_60 {st : List Value} {h : gm_H} {E : Nat → Value} {lv : List Value} {b0 : Value} {a : Nat} (hs : (st.map fun v => v.category).sum ≤ 8) (he : (gm_en1 [.ref a, b0]).length ≤ 2) {vs : List Value} (hr : gm_rd h a = some (0, vs)) : gm_next E 54 60 lv (b0 :: .ref a :: st) h = some (.inr (.inl (0, 22, [.ref a, b0], st))) := gn_call m54 f54_60 rfl rfl rfl rfl rfl rfl rfl (gc_virt (bs := [b0]) (w := 206) rfl rfl rfl rfl hs he hr) (by decide)
theorem f54_63 : gm_ft 54 63 = some (.pop, 1) := by decide +kernel
theorem r54_63 {E : Nat → Value} {d : Nat} {st : List Value} {h : gm_H} {r : gm_R × gm_H} {lv : List Value} {x : Int32} : gm_Go E d 54 63 lv (.int x :: st) h r ↔ gm_Go E d 54 64 lv st h r := gr_pure m54 f54_63 rfl
theorem r54_63a {E : Nat → Value} {d : Nat} {st : List Value} {h : gm_H} {r : gm_R × gm_H} {lv : List Value} {a : Nat} : gm_Go E d 54 63 lv (.ref a :: st) h r ↔ gm_Go E d 54 64 lv st h r := gr_pure m54 f54_63 rfl
theorem r54_63n {E : Nat → Value} {d : Nat} {st : List Value} {h : gm_H} {r : gm_R × gm_H} {lv : List Value} : gm_Go E d 54 63 lv (.null :: st) h r ↔ gm_Go E d 54 64 lv st h r := gr_pure m54 f54_63 rfl
theorem f54_64 : gm_ft 54 64 = some (.return_, 1) := by decide +kernel
theorem r54_64 {E : Nat → Value} {d : Nat} {h : gm_H} {r : gm_R × gm_H} {lv : List Value} : gm_Go E d 54 64 lv [] h r ↔ r = (.inl none, h) := gr_ret m54 f54_64 rfl rfl rfl rfl rfl rfl rfl rfl rfl
/-! GraphReader$Descriptor.fits(LGraphReader$LocalClass;)Z -/
theorem m55 : gm_mt[55]? = some (⟨"GraphReader$Descriptor", "fits", "(LGraphReader$LocalClass;)Z"⟩, prog_2_method_7_code, 3, (some .boolean), [], 1, 1) := rfl
theorem f55_0 : gm_ft 55 0 = some (.aload_n 0, 1) := by decide +kernel
theorem r55_0 {E : Nat → Value} {d : Nat} {st : List Value} {h : gm_H} {r : gm_R × gm_H} {a1 a2 : Value} {x : Nat} : gm_Go E d 55 0 [.ref x, a1, a2] st h r ↔ gm_Go E d 55 1 [.ref x, a1, a2] (.ref x :: st) h r := gr_loc m55 f55_0 rfl rfl
theorem r55_0n {E : Nat → Value} {d : Nat} {st : List Value} {h : gm_H} {r : gm_R × gm_H} {a1 a2 : Value}  : gm_Go E d 55 0 [.null, a1, a2] st h r ↔ gm_Go E d 55 1 [.null, a1, a2] (.null :: st) h r := gr_loc m55 f55_0 rfl rfl
theorem f55_1 : gm_ft 55 1 = some (.invokevirtual 46, 3) := by decide +kernel
theorem n55_1 {st : List Value} {h : gm_H} {E : Nat → Value} {lv : List Value} {a : Nat} (hs : (st.map fun v => v.category).sum ≤ 8) (he : (gm_en1 [.ref a]).length ≤ 1) {vs : List Value} (hr : gm_rd h a = some (1, vs)) : gm_next E 55 1 lv (.ref a :: st) h = some (.inr (.inl (0, 36, [.ref a], st))) := gn_call m55 f55_1 rfl rfl rfl rfl rfl rfl rfl (gc_virt (bs := []) (w := 495) rfl rfl rfl rfl hs he hr) (by decide)
theorem f55_4 : gm_ft 55 4 = some (.aload_n 1, 1) := by decide +kernel
theorem r55_4 {E : Nat → Value} {d : Nat} {st : List Value} {h : gm_H} {r : gm_R × gm_H} {a0 a2 : Value} {x : Nat} : gm_Go E d 55 4 [a0, .ref x, a2] st h r ↔ gm_Go E d 55 5 [a0, .ref x, a2] (.ref x :: st) h r := gr_loc m55 f55_4 rfl rfl
theorem r55_4n {E : Nat → Value} {d : Nat} {st : List Value} {h : gm_H} {r : gm_R × gm_H} {a0 a2 : Value}  : gm_Go E d 55 4 [a0, .null, a2] st h r ↔ gm_Go E d 55 5 [a0, .null, a2] (.null :: st) h r := gr_loc m55 f55_4 rfl rfl
theorem f55_5 : gm_ft 55 5 = some (.getfield 50, 3) := by decide +kernel
theorem r55_5 {E : Nat → Value} {d : Nat} {st : List Value} {h : gm_H} {r : gm_R × gm_H} {lv : List Value} {a : Nat} {vs : List Value} {v : Value} (hr : gm_rd h a = some (3, vs)) (hv : vs[1]? = some v) : gm_Go E d 55 5 lv (.ref a :: st) h r ↔ gm_Go E d 55 8 lv (v :: st) h r := gr_rd m55 f55_5 rfl rfl rfl rfl (gf_get k1_50 hr hv)
theorem f55_8 : gm_ft 55 8 = some (.iconst 3, 1) := by decide +kernel
theorem r55_8 {E : Nat → Value} {d : Nat} {st : List Value} {h : gm_H} {r : gm_R × gm_H} {lv : List Value} : gm_Go E d 55 8 lv st h r ↔ gm_Go E d 55 9 lv (.int (3 : Int32) :: st) h r := gr_pure m55 f55_8 rfl
theorem f55_9 : gm_ft 55 9 = some (.if_icmp .ne 7, 3) := by decide +kernel
theorem r55_9 {E : Nat → Value} {d : Nat} {st : List Value} {h : gm_H} {r : gm_R × gm_H} {lv : List Value} {x y : Int32} : gm_Go E d 55 9 lv (.int y :: .int x :: st) h r ↔ (if x = y then gm_Go E d 55 12 lv st h r else gm_Go E d 55 16 lv st h r) := (gr_br m55 f55_9 rfl rfl rfl rfl).trans gr_ifn
theorem f55_12 : gm_ft 55 12 = some (.iconst 1, 1) := by decide +kernel
theorem r55_12 {E : Nat → Value} {d : Nat} {st : List Value} {h : gm_H} {r : gm_R × gm_H} {lv : List Value} : gm_Go E d 55 12 lv st h r ↔ gm_Go E d 55 13 lv (.int (1 : Int32) :: st) h r := gr_pure m55 f55_12 rfl
theorem f55_13 : gm_ft 55 13 = some (.goto 4, 3) := by decide +kernel
theorem r55_13 {E : Nat → Value} {d : Nat} {st : List Value} {h : gm_H} {r : gm_R × gm_H} {lv : List Value} : gm_Go E d 55 13 lv st h r ↔ gm_Go E d 55 17 lv st h r := gr_brT m55 f55_13 rfl rfl rfl rfl
theorem f55_16 : gm_ft 55 16 = some (.iconst 0, 1) := by decide +kernel
theorem r55_16 {E : Nat → Value} {d : Nat} {st : List Value} {h : gm_H} {r : gm_R × gm_H} {lv : List Value} : gm_Go E d 55 16 lv st h r ↔ gm_Go E d 55 17 lv (.int (0 : Int32) :: st) h r := gr_pure m55 f55_16 rfl
theorem f55_17 : gm_ft 55 17 = some (.if_icmp .eq 5, 3) := by decide +kernel
theorem r55_17 {E : Nat → Value} {d : Nat} {st : List Value} {h : gm_H} {r : gm_R × gm_H} {lv : List Value} {x y : Int32} : gm_Go E d 55 17 lv (.int y :: .int x :: st) h r ↔ (if x = y then gm_Go E d 55 22 lv st h r else gm_Go E d 55 20 lv st h r) := (gr_br m55 f55_17 rfl rfl rfl rfl).trans gr_if
theorem f55_20 : gm_ft 55 20 = some (.iconst 0, 1) := by decide +kernel
theorem r55_20 {E : Nat → Value} {d : Nat} {st : List Value} {h : gm_H} {r : gm_R × gm_H} {lv : List Value} : gm_Go E d 55 20 lv st h r ↔ gm_Go E d 55 21 lv (.int (0 : Int32) :: st) h r := gr_pure m55 f55_20 rfl
theorem f55_21 : gm_ft 55 21 = some (.ireturn, 1) := by decide +kernel
theorem r55_21_0 {E : Nat → Value} {d : Nat} {h : gm_H} {r : gm_R × gm_H} {lv : List Value} : gm_Go E d 55 21 lv [.int (0 : Int32)] h r ↔ r = (.inl (some (.int (0 : Int32))), h) := gr_ret m55 f55_21 rfl rfl rfl rfl rfl rfl rfl rfl (by unfold gm_rt; dsimp only; rw [if_pos ⟨rfl, rfl⟩])
theorem r55_21_1 {E : Nat → Value} {d : Nat} {h : gm_H} {r : gm_R × gm_H} {lv : List Value} : gm_Go E d 55 21 lv [.int (1 : Int32)] h r ↔ r = (.inl (some (.int (1 : Int32))), h) := gr_ret m55 f55_21 rfl rfl rfl rfl rfl rfl rfl rfl (by unfold gm_rt; dsimp only; rw [if_pos ⟨rfl, rfl⟩])
theorem f55_22 : gm_ft 55 22 = some (.aload_n 0, 1) := by decide +kernel
theorem r55_22 {E : Nat → Value} {d : Nat} {st : List Value} {h : gm_H} {r : gm_R × gm_H} {a1 a2 : Value} {x : Nat} : gm_Go E d 55 22 [.ref x, a1, a2] st h r ↔ gm_Go E d 55 23 [.ref x, a1, a2] (.ref x :: st) h r := gr_loc m55 f55_22 rfl rfl
theorem r55_22n {E : Nat → Value} {d : Nat} {st : List Value} {h : gm_H} {r : gm_R × gm_H} {a1 a2 : Value}  : gm_Go E d 55 22 [.null, a1, a2] st h r ↔ gm_Go E d 55 23 [.null, a1, a2] (.null :: st) h r := gr_loc m55 f55_22 rfl rfl
theorem f55_23 : gm_ft 55 23 = some (.iconst 2, 1) := by decide +kernel
theorem r55_23 {E : Nat → Value} {d : Nat} {st : List Value} {h : gm_H} {r : gm_R × gm_H} {lv : List Value} : gm_Go E d 55 23 lv st h r ↔ gm_Go E d 55 24 lv (.int (2 : Int32) :: st) h r := gr_pure m55 f55_23 rfl
theorem f55_24 : gm_ft 55 24 = some (.invokevirtual 25, 3) := by decide +kernel
theorem n55_24 {st : List Value} {h : gm_H} {E : Nat → Value} {lv : List Value} {b0 : Value} {a : Nat} (hs : (st.map fun v => v.category).sum ≤ 8) (he : (gm_en1 [.ref a, b0]).length ≤ 2) {vs : List Value} (hr : gm_rd h a = some (1, vs)) : gm_next E 55 24 lv (b0 :: .ref a :: st) h = some (.inr (.inl (0, 35, [.ref a, b0], st))) := gn_call m55 f55_24 rfl rfl rfl rfl rfl rfl rfl (gc_virt (bs := [b0]) (w := 368) rfl rfl rfl rfl hs he hr) (by decide)
theorem f55_27 : gm_ft 55 27 = some (.ifCond .eq 22, 3) := by decide +kernel
theorem r55_27 {E : Nat → Value} {d : Nat} {st : List Value} {h : gm_H} {r : gm_R × gm_H} {lv : List Value} {x : Int32} : gm_Go E d 55 27 lv (.int x :: st) h r ↔ (if x = 0 then gm_Go E d 55 49 lv st h r else gm_Go E d 55 30 lv st h r) := (gr_br m55 f55_27 rfl rfl rfl rfl).trans gr_if
theorem f55_30 : gm_ft 55 30 = some (.aload_n 1, 1) := by decide +kernel
theorem r55_30 {E : Nat → Value} {d : Nat} {st : List Value} {h : gm_H} {r : gm_R × gm_H} {a0 a2 : Value} {x : Nat} : gm_Go E d 55 30 [a0, .ref x, a2] st h r ↔ gm_Go E d 55 31 [a0, .ref x, a2] (.ref x :: st) h r := gr_loc m55 f55_30 rfl rfl
theorem r55_30n {E : Nat → Value} {d : Nat} {st : List Value} {h : gm_H} {r : gm_R × gm_H} {a0 a2 : Value}  : gm_Go E d 55 30 [a0, .null, a2] st h r ↔ gm_Go E d 55 31 [a0, .null, a2] (.null :: st) h r := gr_loc m55 f55_30 rfl rfl
theorem f55_31 : gm_ft 55 31 = some (.getfield 50, 3) := by decide +kernel
theorem r55_31 {E : Nat → Value} {d : Nat} {st : List Value} {h : gm_H} {r : gm_R × gm_H} {lv : List Value} {a : Nat} {vs : List Value} {v : Value} (hr : gm_rd h a = some (3, vs)) (hv : vs[1]? = some v) : gm_Go E d 55 31 lv (.ref a :: st) h r ↔ gm_Go E d 55 34 lv (v :: st) h r := gr_rd m55 f55_31 rfl rfl rfl rfl (gf_get k1_50 hr hv)
theorem f55_34 : gm_ft 55 34 = some (.ifCond .eq 15, 3) := by decide +kernel
theorem r55_34 {E : Nat → Value} {d : Nat} {st : List Value} {h : gm_H} {r : gm_R × gm_H} {lv : List Value} {x : Int32} : gm_Go E d 55 34 lv (.int x :: st) h r ↔ (if x = 0 then gm_Go E d 55 49 lv st h r else gm_Go E d 55 37 lv st h r) := (gr_br m55 f55_34 rfl rfl rfl rfl).trans gr_if
theorem f55_37 : gm_ft 55 37 = some (.aload_n 1, 1) := by decide +kernel
theorem r55_37 {E : Nat → Value} {d : Nat} {st : List Value} {h : gm_H} {r : gm_R × gm_H} {a0 a2 : Value} {x : Nat} : gm_Go E d 55 37 [a0, .ref x, a2] st h r ↔ gm_Go E d 55 38 [a0, .ref x, a2] (.ref x :: st) h r := gr_loc m55 f55_37 rfl rfl
theorem r55_37n {E : Nat → Value} {d : Nat} {st : List Value} {h : gm_H} {r : gm_R × gm_H} {a0 a2 : Value}  : gm_Go E d 55 37 [a0, .null, a2] st h r ↔ gm_Go E d 55 38 [a0, .null, a2] (.null :: st) h r := gr_loc m55 f55_37 rfl rfl
theorem f55_38 : gm_ft 55 38 = some (.getfield 50, 3) := by decide +kernel
theorem r55_38 {E : Nat → Value} {d : Nat} {st : List Value} {h : gm_H} {r : gm_R × gm_H} {lv : List Value} {a : Nat} {vs : List Value} {v : Value} (hr : gm_rd h a = some (3, vs)) (hv : vs[1]? = some v) : gm_Go E d 55 38 lv (.ref a :: st) h r ↔ gm_Go E d 55 41 lv (v :: st) h r := gr_rd m55 f55_38 rfl rfl rfl rfl (gf_get k1_50 hr hv)
theorem f55_41 : gm_ft 55 41 = some (.iconst 3, 1) := by decide +kernel
theorem r55_41 {E : Nat → Value} {d : Nat} {st : List Value} {h : gm_H} {r : gm_R × gm_H} {lv : List Value} : gm_Go E d 55 41 lv st h r ↔ gm_Go E d 55 42 lv (.int (3 : Int32) :: st) h r := gr_pure m55 f55_41 rfl
theorem f55_42 : gm_ft 55 42 = some (.if_icmp .eq 7, 3) := by decide +kernel
theorem r55_42 {E : Nat → Value} {d : Nat} {st : List Value} {h : gm_H} {r : gm_R × gm_H} {lv : List Value} {x y : Int32} : gm_Go E d 55 42 lv (.int y :: .int x :: st) h r ↔ (if x = y then gm_Go E d 55 49 lv st h r else gm_Go E d 55 45 lv st h r) := (gr_br m55 f55_42 rfl rfl rfl rfl).trans gr_if
theorem f55_45 : gm_ft 55 45 = some (.iconst 1, 1) := by decide +kernel
theorem r55_45 {E : Nat → Value} {d : Nat} {st : List Value} {h : gm_H} {r : gm_R × gm_H} {lv : List Value} : gm_Go E d 55 45 lv st h r ↔ gm_Go E d 55 46 lv (.int (1 : Int32) :: st) h r := gr_pure m55 f55_45 rfl
theorem f55_46 : gm_ft 55 46 = some (.goto 4, 3) := by decide +kernel
theorem r55_46 {E : Nat → Value} {d : Nat} {st : List Value} {h : gm_H} {r : gm_R × gm_H} {lv : List Value} : gm_Go E d 55 46 lv st h r ↔ gm_Go E d 55 50 lv st h r := gr_brT m55 f55_46 rfl rfl rfl rfl
theorem f55_49 : gm_ft 55 49 = some (.iconst 0, 1) := by decide +kernel
theorem r55_49 {E : Nat → Value} {d : Nat} {st : List Value} {h : gm_H} {r : gm_R × gm_H} {lv : List Value} : gm_Go E d 55 49 lv st h r ↔ gm_Go E d 55 50 lv (.int (0 : Int32) :: st) h r := gr_pure m55 f55_49 rfl
theorem f55_50 : gm_ft 55 50 = some (.istore_n 2, 1) := by decide +kernel
theorem r55_50 {E : Nat → Value} {d : Nat} {st : List Value} {h : gm_H} {r : gm_R × gm_H} {a0 a1 a2 : Value} {x : Int32} : gm_Go E d 55 50 [a0, a1, a2] (.int x :: st) h r ↔ gm_Go E d 55 51 [a0, gm_k a1, .int x] st h r := gr_loc m55 f55_50 rfl rfl
theorem f55_51 : gm_ft 55 51 = some (.iload_n 2, 1) := by decide +kernel
theorem r55_51 {E : Nat → Value} {d : Nat} {st : List Value} {h : gm_H} {r : gm_R × gm_H} {a0 a1 : Value} {x : Int32} : gm_Go E d 55 51 [a0, a1, .int x] st h r ↔ gm_Go E d 55 52 [a0, a1, .int x] (.int x :: st) h r := gr_loc m55 f55_51 rfl rfl
theorem f55_52 : gm_ft 55 52 = some (.ifCond .eq 15, 3) := by decide +kernel
theorem r55_52 {E : Nat → Value} {d : Nat} {st : List Value} {h : gm_H} {r : gm_R × gm_H} {lv : List Value} {x : Int32} : gm_Go E d 55 52 lv (.int x :: st) h r ↔ (if x = 0 then gm_Go E d 55 67 lv st h r else gm_Go E d 55 55 lv st h r) := (gr_br m55 f55_52 rfl rfl rfl rfl).trans gr_if
theorem f55_55 : gm_ft 55 55 = some (.aload_n 0, 1) := by decide +kernel
theorem r55_55 {E : Nat → Value} {d : Nat} {st : List Value} {h : gm_H} {r : gm_R × gm_H} {a1 a2 : Value} {x : Nat} : gm_Go E d 55 55 [.ref x, a1, a2] st h r ↔ gm_Go E d 55 56 [.ref x, a1, a2] (.ref x :: st) h r := gr_loc m55 f55_55 rfl rfl
theorem r55_55n {E : Nat → Value} {d : Nat} {st : List Value} {h : gm_H} {r : gm_R × gm_H} {a1 a2 : Value}  : gm_Go E d 55 55 [.null, a1, a2] st h r ↔ gm_Go E d 55 56 [.null, a1, a2] (.null :: st) h r := gr_loc m55 f55_55 rfl rfl
theorem f55_56 : gm_ft 55 56 = some (.getfield 18, 3) := by decide +kernel
theorem r55_56 {E : Nat → Value} {d : Nat} {st : List Value} {h : gm_H} {r : gm_R × gm_H} {lv : List Value} {a : Nat} {vs : List Value} {v : Value} (hr : gm_rd h a = some (1, vs)) (hv : vs[2]? = some v) : gm_Go E d 55 56 lv (.ref a :: st) h r ↔ gm_Go E d 55 59 lv (v :: st) h r := gr_rd m55 f55_56 rfl rfl rfl rfl (gf_get k1_18 hr hv)
theorem f55_59 : gm_ft 55 59 = some (.aload_n 1, 1) := by decide +kernel
theorem r55_59 {E : Nat → Value} {d : Nat} {st : List Value} {h : gm_H} {r : gm_R × gm_H} {a0 a2 : Value} {x : Nat} : gm_Go E d 55 59 [a0, .ref x, a2] st h r ↔ gm_Go E d 55 60 [a0, .ref x, a2] (.ref x :: st) h r := gr_loc m55 f55_59 rfl rfl
theorem r55_59n {E : Nat → Value} {d : Nat} {st : List Value} {h : gm_H} {r : gm_R × gm_H} {a0 a2 : Value}  : gm_Go E d 55 59 [a0, .null, a2] st h r ↔ gm_Go E d 55 60 [a0, .null, a2] (.null :: st) h r := gr_loc m55 f55_59 rfl rfl
theorem f55_60 : gm_ft 55 60 = some (.getfield 55, 3) := by decide +kernel
theorem r55_60 {E : Nat → Value} {d : Nat} {st : List Value} {h : gm_H} {r : gm_R × gm_H} {lv : List Value} {a : Nat} {vs : List Value} {v : Value} (hr : gm_rd h a = some (3, vs)) (hv : vs[3]? = some v) : gm_Go E d 55 60 lv (.ref a :: st) h r ↔ gm_Go E d 55 63 lv (v :: st) h r := gr_rd m55 f55_60 rfl rfl rfl rfl (gf_get k1_55 hr hv)
theorem f55_63 : gm_ft 55 63 = some (.lcmp, 1) := by decide +kernel
theorem r55_63 {E : Nat → Value} {d : Nat} {st : List Value} {h : gm_H} {r : gm_R × gm_H} {lv : List Value} {x y : Int64} : gm_Go E d 55 63 lv (.long y :: .long x :: st) h r ↔ gm_Go E d 55 64 lv (.int (lg_cmp x y) :: st) h r := gr_pure m55 f55_63 rfl
theorem f55_64 : gm_ft 55 64 = some (.ifCond .ne 15, 3) := by decide +kernel
theorem r55_64 {E : Nat → Value} {d : Nat} {st : List Value} {h : gm_H} {r : gm_R × gm_H} {lv : List Value} {x : Int32} : gm_Go E d 55 64 lv (.int x :: st) h r ↔ (if x = 0 then gm_Go E d 55 67 lv st h r else gm_Go E d 55 79 lv st h r) := (gr_br m55 f55_64 rfl rfl rfl rfl).trans gr_ifn
theorem f55_67 : gm_ft 55 67 = some (.aload_n 0, 1) := by decide +kernel
theorem r55_67 {E : Nat → Value} {d : Nat} {st : List Value} {h : gm_H} {r : gm_R × gm_H} {a1 a2 : Value} {x : Nat} : gm_Go E d 55 67 [.ref x, a1, a2] st h r ↔ gm_Go E d 55 68 [.ref x, a1, a2] (.ref x :: st) h r := gr_loc m55 f55_67 rfl rfl
theorem r55_67n {E : Nat → Value} {d : Nat} {st : List Value} {h : gm_H} {r : gm_R × gm_H} {a1 a2 : Value}  : gm_Go E d 55 67 [.null, a1, a2] st h r ↔ gm_Go E d 55 68 [.null, a1, a2] (.null :: st) h r := gr_loc m55 f55_67 rfl rfl
theorem f55_68 : gm_ft 55 68 = some (.aload_n 1, 1) := by decide +kernel
theorem r55_68 {E : Nat → Value} {d : Nat} {st : List Value} {h : gm_H} {r : gm_R × gm_H} {a0 a2 : Value} {x : Nat} : gm_Go E d 55 68 [a0, .ref x, a2] st h r ↔ gm_Go E d 55 69 [a0, .ref x, a2] (.ref x :: st) h r := gr_loc m55 f55_68 rfl rfl
theorem r55_68n {E : Nat → Value} {d : Nat} {st : List Value} {h : gm_H} {r : gm_R × gm_H} {a0 a2 : Value}  : gm_Go E d 55 68 [a0, .null, a2] st h r ↔ gm_Go E d 55 69 [a0, .null, a2] (.null :: st) h r := gr_loc m55 f55_68 rfl rfl
theorem f55_69 : gm_ft 55 69 = some (.invokevirtual 56, 3) := by decide +kernel
theorem n55_69 {st : List Value} {h : gm_H} {E : Nat → Value} {lv : List Value} {b0 : Value} {a : Nat} (hs : (st.map fun v => v.category).sum ≤ 8) (he : (gm_en1 [.ref a, b0]).length ≤ 4) {vs : List Value} (hr : gm_rd h a = some (1, vs)) : gm_next E 55 69 lv (b0 :: .ref a :: st) h = some (.inr (.inl (0, 56, [.ref a, b0], st))) := gn_call m55 f55_69 rfl rfl rfl rfl rfl rfl rfl (gc_virt (bs := [b0]) (w := 496) rfl rfl rfl rfl hs he hr) (by decide)
theorem f55_72 : gm_ft 55 72 = some (.ifCond .eq 7, 3) := by decide +kernel
theorem r55_72 {E : Nat → Value} {d : Nat} {st : List Value} {h : gm_H} {r : gm_R × gm_H} {lv : List Value} {x : Int32} : gm_Go E d 55 72 lv (.int x :: st) h r ↔ (if x = 0 then gm_Go E d 55 79 lv st h r else gm_Go E d 55 75 lv st h r) := (gr_br m55 f55_72 rfl rfl rfl rfl).trans gr_if
theorem f55_75 : gm_ft 55 75 = some (.iconst 1, 1) := by decide +kernel
theorem r55_75 {E : Nat → Value} {d : Nat} {st : List Value} {h : gm_H} {r : gm_R × gm_H} {lv : List Value} : gm_Go E d 55 75 lv st h r ↔ gm_Go E d 55 76 lv (.int (1 : Int32) :: st) h r := gr_pure m55 f55_75 rfl
theorem f55_76 : gm_ft 55 76 = some (.goto 4, 3) := by decide +kernel
theorem r55_76 {E : Nat → Value} {d : Nat} {st : List Value} {h : gm_H} {r : gm_R × gm_H} {lv : List Value} : gm_Go E d 55 76 lv st h r ↔ gm_Go E d 55 80 lv st h r := gr_brT m55 f55_76 rfl rfl rfl rfl
theorem f55_79 : gm_ft 55 79 = some (.iconst 0, 1) := by decide +kernel
theorem r55_79 {E : Nat → Value} {d : Nat} {st : List Value} {h : gm_H} {r : gm_R × gm_H} {lv : List Value} : gm_Go E d 55 79 lv st h r ↔ gm_Go E d 55 80 lv (.int (0 : Int32) :: st) h r := gr_pure m55 f55_79 rfl
theorem f55_80 : gm_ft 55 80 = some (.ireturn, 1) := by decide +kernel
theorem r55_80_0 {E : Nat → Value} {d : Nat} {h : gm_H} {r : gm_R × gm_H} {lv : List Value} : gm_Go E d 55 80 lv [.int (0 : Int32)] h r ↔ r = (.inl (some (.int (0 : Int32))), h) := gr_ret m55 f55_80 rfl rfl rfl rfl rfl rfl rfl rfl (by unfold gm_rt; dsimp only; rw [if_pos ⟨rfl, rfl⟩])
theorem r55_80_1 {E : Nat → Value} {d : Nat} {h : gm_H} {r : gm_R × gm_H} {lv : List Value} : gm_Go E d 55 80 lv [.int (1 : Int32)] h r ↔ r = (.inl (some (.int (1 : Int32))), h) := gr_ret m55 f55_80 rfl rfl rfl rfl rfl rfl rfl rfl (by unfold gm_rt; dsimp only; rw [if_pos ⟨rfl, rfl⟩])
/-! GraphReader$Descriptor.fieldsFit(LGraphReader$LocalClass;)Z -/
theorem m56 : gm_mt[56]? = some (⟨"GraphReader$Descriptor", "fieldsFit", "(LGraphReader$LocalClass;)Z"⟩, prog_2_method_8_code, 4, (some .boolean), [], 1, 1) := rfl
theorem f56_0 : gm_ft 56 0 = some (.iconst 0, 1) := by decide +kernel
theorem r56_0 {E : Nat → Value} {d : Nat} {st : List Value} {h : gm_H} {r : gm_R × gm_H} {lv : List Value} : gm_Go E d 56 0 lv st h r ↔ gm_Go E d 56 1 lv (.int (0 : Int32) :: st) h r := gr_pure m56 f56_0 rfl
theorem f56_1 : gm_ft 56 1 = some (.istore_n 2, 1) := by decide +kernel
theorem r56_1 {E : Nat → Value} {d : Nat} {st : List Value} {h : gm_H} {r : gm_R × gm_H} {a0 a1 a2 a3 : Value} {x : Int32} : gm_Go E d 56 1 [a0, a1, a2, a3] (.int x :: st) h r ↔ gm_Go E d 56 2 [a0, gm_k a1, .int x, a3] st h r := gr_loc m56 f56_1 rfl rfl
theorem f56_2 : gm_ft 56 2 = some (.iload_n 2, 1) := by decide +kernel
theorem r56_2 {E : Nat → Value} {d : Nat} {st : List Value} {h : gm_H} {r : gm_R × gm_H} {a0 a1 a3 : Value} {x : Int32} : gm_Go E d 56 2 [a0, a1, .int x, a3] st h r ↔ gm_Go E d 56 3 [a0, a1, .int x, a3] (.int x :: st) h r := gr_loc m56 f56_2 rfl rfl
theorem f56_3 : gm_ft 56 3 = some (.aload_n 0, 1) := by decide +kernel
theorem r56_3 {E : Nat → Value} {d : Nat} {st : List Value} {h : gm_H} {r : gm_R × gm_H} {a1 a2 a3 : Value} {x : Nat} : gm_Go E d 56 3 [.ref x, a1, a2, a3] st h r ↔ gm_Go E d 56 4 [.ref x, a1, a2, a3] (.ref x :: st) h r := gr_loc m56 f56_3 rfl rfl
theorem r56_3n {E : Nat → Value} {d : Nat} {st : List Value} {h : gm_H} {r : gm_R × gm_H} {a1 a2 a3 : Value}  : gm_Go E d 56 3 [.null, a1, a2, a3] st h r ↔ gm_Go E d 56 4 [.null, a1, a2, a3] (.null :: st) h r := gr_loc m56 f56_3 rfl rfl
theorem f56_4 : gm_ft 56 4 = some (.getfield 29, 3) := by decide +kernel
theorem r56_4 {E : Nat → Value} {d : Nat} {st : List Value} {h : gm_H} {r : gm_R × gm_H} {lv : List Value} {a : Nat} {vs : List Value} {v : Value} (hr : gm_rd h a = some (1, vs)) (hv : vs[4]? = some v) : gm_Go E d 56 4 lv (.ref a :: st) h r ↔ gm_Go E d 56 7 lv (v :: st) h r := gr_rd m56 f56_4 rfl rfl rfl rfl (gf_get k1_29 hr hv)
theorem f56_7 : gm_ft 56 7 = some (.if_icmp .ge 63, 3) := by decide +kernel
theorem r56_7 {E : Nat → Value} {d : Nat} {st : List Value} {h : gm_H} {r : gm_R × gm_H} {lv : List Value} {x y : Int32} : gm_Go E d 56 7 lv (.int y :: .int x :: st) h r ↔ (if y ≤ x then gm_Go E d 56 70 lv st h r else gm_Go E d 56 10 lv st h r) := (gr_br m56 f56_7 rfl rfl rfl rfl).trans gr_if
theorem f56_10 : gm_ft 56 10 = some (.aload_n 1, 1) := by decide +kernel
theorem r56_10 {E : Nat → Value} {d : Nat} {st : List Value} {h : gm_H} {r : gm_R × gm_H} {a0 a2 a3 : Value} {x : Nat} : gm_Go E d 56 10 [a0, .ref x, a2, a3] st h r ↔ gm_Go E d 56 11 [a0, .ref x, a2, a3] (.ref x :: st) h r := gr_loc m56 f56_10 rfl rfl
theorem r56_10n {E : Nat → Value} {d : Nat} {st : List Value} {h : gm_H} {r : gm_R × gm_H} {a0 a2 a3 : Value}  : gm_Go E d 56 10 [a0, .null, a2, a3] st h r ↔ gm_Go E d 56 11 [a0, .null, a2, a3] (.null :: st) h r := gr_loc m56 f56_10 rfl rfl
theorem f56_11 : gm_ft 56 11 = some (.aload_n 0, 1) := by decide +kernel
theorem r56_11 {E : Nat → Value} {d : Nat} {st : List Value} {h : gm_H} {r : gm_R × gm_H} {a1 a2 a3 : Value} {x : Nat} : gm_Go E d 56 11 [.ref x, a1, a2, a3] st h r ↔ gm_Go E d 56 12 [.ref x, a1, a2, a3] (.ref x :: st) h r := gr_loc m56 f56_11 rfl rfl
theorem r56_11n {E : Nat → Value} {d : Nat} {st : List Value} {h : gm_H} {r : gm_R × gm_H} {a1 a2 a3 : Value}  : gm_Go E d 56 11 [.null, a1, a2, a3] st h r ↔ gm_Go E d 56 12 [.null, a1, a2, a3] (.null :: st) h r := gr_loc m56 f56_11 rfl rfl
theorem f56_12 : gm_ft 56 12 = some (.getfield 32, 3) := by decide +kernel
theorem r56_12 {E : Nat → Value} {d : Nat} {st : List Value} {h : gm_H} {r : gm_R × gm_H} {lv : List Value} {a : Nat} {vs : List Value} {v : Value} (hr : gm_rd h a = some (1, vs)) (hv : vs[5]? = some v) : gm_Go E d 56 12 lv (.ref a :: st) h r ↔ gm_Go E d 56 15 lv (v :: st) h r := gr_rd m56 f56_12 rfl rfl rfl rfl (gf_get k1_32 hr hv)
theorem f56_15 : gm_ft 56 15 = some (.iload_n 2, 1) := by decide +kernel
theorem r56_15 {E : Nat → Value} {d : Nat} {st : List Value} {h : gm_H} {r : gm_R × gm_H} {a0 a1 a3 : Value} {x : Int32} : gm_Go E d 56 15 [a0, a1, .int x, a3] st h r ↔ gm_Go E d 56 16 [a0, a1, .int x, a3] (.int x :: st) h r := gr_loc m56 f56_15 rfl rfl
theorem f56_16 : gm_ft 56 16 = some (.iaload, 1) := by decide +kernel
theorem r56_16 {E : Nat → Value} {d : Nat} {st : List Value} {h : gm_H} {r : gm_R × gm_H} {lv : List Value} {a k j : Nat} {vs : List Value} {v : Value} (hr : gm_rd h a = some (k, vs)) (hk : 100 ≤ k ∧ (fun t => t == 0) (k % 100) = true) (hj : j < 2 ^ 31) (hv : vs[j]? = some v) : gm_Go E d 56 16 lv (.int (nI j) :: .ref a :: st) h r ↔ gm_Go E d 56 17 lv (v :: st) h r := gr_rd m56 f56_16 rfl rfl rfl rfl (ga_ld (P := fun t => t == 0) hr hk hj hv)
theorem f56_17 : gm_ft 56 17 = some (.invokevirtual 60, 3) := by decide +kernel
theorem n56_17 {st : List Value} {h : gm_H} {E : Nat → Value} {lv : List Value} {b0 : Value} {a : Nat} (hs : (st.map fun v => v.category).sum ≤ 8) (he : (gm_en1 [.ref a, b0]).length ≤ 3) {vs : List Value} (hr : gm_rd h a = some (3, vs)) : gm_next E 56 17 lv (b0 :: .ref a :: st) h = some (.inr (.inl (0, 11, [.ref a, b0], st))) := gn_call m56 f56_17 rfl rfl rfl rfl rfl rfl rfl (gc_virt (bs := [b0]) (w := 500) rfl rfl rfl rfl hs he hr) (by decide)
theorem f56_20 : gm_ft 56 20 = some (.istore_n 3, 1) := by decide +kernel
theorem r56_20 {E : Nat → Value} {d : Nat} {st : List Value} {h : gm_H} {r : gm_R × gm_H} {a0 a1 a2 a3 : Value} {x : Int32} : gm_Go E d 56 20 [a0, a1, a2, a3] (.int x :: st) h r ↔ gm_Go E d 56 21 [a0, a1, gm_k a2, .int x] st h r := gr_loc m56 f56_20 rfl rfl
theorem f56_21 : gm_ft 56 21 = some (.iload_n 3, 1) := by decide +kernel
theorem r56_21 {E : Nat → Value} {d : Nat} {st : List Value} {h : gm_H} {r : gm_R × gm_H} {a0 a1 a2 : Value} {x : Int32} : gm_Go E d 56 21 [a0, a1, a2, .int x] st h r ↔ gm_Go E d 56 22 [a0, a1, a2, .int x] (.int x :: st) h r := gr_loc m56 f56_21 rfl rfl
theorem f56_22 : gm_ft 56 22 = some (.ifCond .lt 42, 3) := by decide +kernel
theorem r56_22 {E : Nat → Value} {d : Nat} {st : List Value} {h : gm_H} {r : gm_R × gm_H} {lv : List Value} {x : Int32} : gm_Go E d 56 22 lv (.int x :: st) h r ↔ (if x < 0 then gm_Go E d 56 64 lv st h r else gm_Go E d 56 25 lv st h r) := (gr_br m56 f56_22 rfl rfl rfl rfl).trans gr_if
theorem f56_25 : gm_ft 56 25 = some (.aload_n 0, 1) := by decide +kernel
theorem r56_25 {E : Nat → Value} {d : Nat} {st : List Value} {h : gm_H} {r : gm_R × gm_H} {a1 a2 a3 : Value} {x : Nat} : gm_Go E d 56 25 [.ref x, a1, a2, a3] st h r ↔ gm_Go E d 56 26 [.ref x, a1, a2, a3] (.ref x :: st) h r := gr_loc m56 f56_25 rfl rfl
theorem r56_25n {E : Nat → Value} {d : Nat} {st : List Value} {h : gm_H} {r : gm_R × gm_H} {a1 a2 a3 : Value}  : gm_Go E d 56 25 [.null, a1, a2, a3] st h r ↔ gm_Go E d 56 26 [.null, a1, a2, a3] (.null :: st) h r := gr_loc m56 f56_25 rfl rfl
theorem f56_26 : gm_ft 56 26 = some (.getfield 36, 3) := by decide +kernel
theorem r56_26 {E : Nat → Value} {d : Nat} {st : List Value} {h : gm_H} {r : gm_R × gm_H} {lv : List Value} {a : Nat} {vs : List Value} {v : Value} (hr : gm_rd h a = some (1, vs)) (hv : vs[6]? = some v) : gm_Go E d 56 26 lv (.ref a :: st) h r ↔ gm_Go E d 56 29 lv (v :: st) h r := gr_rd m56 f56_26 rfl rfl rfl rfl (gf_get k1_36 hr hv)
theorem f56_29 : gm_ft 56 29 = some (.iload_n 2, 1) := by decide +kernel
theorem r56_29 {E : Nat → Value} {d : Nat} {st : List Value} {h : gm_H} {r : gm_R × gm_H} {a0 a1 a3 : Value} {x : Int32} : gm_Go E d 56 29 [a0, a1, .int x, a3] st h r ↔ gm_Go E d 56 30 [a0, a1, .int x, a3] (.int x :: st) h r := gr_loc m56 f56_29 rfl rfl
theorem f56_30 : gm_ft 56 30 = some (.iaload, 1) := by decide +kernel
theorem r56_30 {E : Nat → Value} {d : Nat} {st : List Value} {h : gm_H} {r : gm_R × gm_H} {lv : List Value} {a k j : Nat} {vs : List Value} {v : Value} (hr : gm_rd h a = some (k, vs)) (hk : 100 ≤ k ∧ (fun t => t == 0) (k % 100) = true) (hj : j < 2 ^ 31) (hv : vs[j]? = some v) : gm_Go E d 56 30 lv (.int (nI j) :: .ref a :: st) h r ↔ gm_Go E d 56 31 lv (v :: st) h r := gr_rd m56 f56_30 rfl rfl rfl rfl (ga_ld (P := fun t => t == 0) hr hk hj hv)
theorem f56_31 : gm_ft 56 31 = some (.aload_n 1, 1) := by decide +kernel
theorem r56_31 {E : Nat → Value} {d : Nat} {st : List Value} {h : gm_H} {r : gm_R × gm_H} {a0 a2 a3 : Value} {x : Nat} : gm_Go E d 56 31 [a0, .ref x, a2, a3] st h r ↔ gm_Go E d 56 32 [a0, .ref x, a2, a3] (.ref x :: st) h r := gr_loc m56 f56_31 rfl rfl
theorem r56_31n {E : Nat → Value} {d : Nat} {st : List Value} {h : gm_H} {r : gm_R × gm_H} {a0 a2 a3 : Value}  : gm_Go E d 56 31 [a0, .null, a2, a3] st h r ↔ gm_Go E d 56 32 [a0, .null, a2, a3] (.null :: st) h r := gr_loc m56 f56_31 rfl rfl
theorem f56_32 : gm_ft 56 32 = some (.getfield 64, 3) := by decide +kernel
theorem r56_32 {E : Nat → Value} {d : Nat} {st : List Value} {h : gm_H} {r : gm_R × gm_H} {lv : List Value} {a : Nat} {vs : List Value} {v : Value} (hr : gm_rd h a = some (3, vs)) (hv : vs[5]? = some v) : gm_Go E d 56 32 lv (.ref a :: st) h r ↔ gm_Go E d 56 35 lv (v :: st) h r := gr_rd m56 f56_32 rfl rfl rfl rfl (gf_get k1_64 hr hv)
theorem f56_35 : gm_ft 56 35 = some (.iload_n 3, 1) := by decide +kernel
theorem r56_35 {E : Nat → Value} {d : Nat} {st : List Value} {h : gm_H} {r : gm_R × gm_H} {a0 a1 a2 : Value} {x : Int32} : gm_Go E d 56 35 [a0, a1, a2, .int x] st h r ↔ gm_Go E d 56 36 [a0, a1, a2, .int x] (.int x :: st) h r := gr_loc m56 f56_35 rfl rfl
theorem f56_36 : gm_ft 56 36 = some (.iaload, 1) := by decide +kernel
theorem r56_36 {E : Nat → Value} {d : Nat} {st : List Value} {h : gm_H} {r : gm_R × gm_H} {lv : List Value} {a k j : Nat} {vs : List Value} {v : Value} (hr : gm_rd h a = some (k, vs)) (hk : 100 ≤ k ∧ (fun t => t == 0) (k % 100) = true) (hj : j < 2 ^ 31) (hv : vs[j]? = some v) : gm_Go E d 56 36 lv (.int (nI j) :: .ref a :: st) h r ↔ gm_Go E d 56 37 lv (v :: st) h r := gr_rd m56 f56_36 rfl rfl rfl rfl (ga_ld (P := fun t => t == 0) hr hk hj hv)
theorem f56_37 : gm_ft 56 37 = some (.if_icmp .eq 27, 3) := by decide +kernel
theorem r56_37 {E : Nat → Value} {d : Nat} {st : List Value} {h : gm_H} {r : gm_R × gm_H} {lv : List Value} {x y : Int32} : gm_Go E d 56 37 lv (.int y :: .int x :: st) h r ↔ (if x = y then gm_Go E d 56 64 lv st h r else gm_Go E d 56 40 lv st h r) := (gr_br m56 f56_37 rfl rfl rfl rfl).trans gr_if
theorem f56_40 : gm_ft 56 40 = some (.aload_n 0, 1) := by decide +kernel
theorem r56_40 {E : Nat → Value} {d : Nat} {st : List Value} {h : gm_H} {r : gm_R × gm_H} {a1 a2 a3 : Value} {x : Nat} : gm_Go E d 56 40 [.ref x, a1, a2, a3] st h r ↔ gm_Go E d 56 41 [.ref x, a1, a2, a3] (.ref x :: st) h r := gr_loc m56 f56_40 rfl rfl
theorem r56_40n {E : Nat → Value} {d : Nat} {st : List Value} {h : gm_H} {r : gm_R × gm_H} {a1 a2 a3 : Value}  : gm_Go E d 56 40 [.null, a1, a2, a3] st h r ↔ gm_Go E d 56 41 [.null, a1, a2, a3] (.null :: st) h r := gr_loc m56 f56_40 rfl rfl
theorem f56_41 : gm_ft 56 41 = some (.getfield 36, 3) := by decide +kernel
theorem r56_41 {E : Nat → Value} {d : Nat} {st : List Value} {h : gm_H} {r : gm_R × gm_H} {lv : List Value} {a : Nat} {vs : List Value} {v : Value} (hr : gm_rd h a = some (1, vs)) (hv : vs[6]? = some v) : gm_Go E d 56 41 lv (.ref a :: st) h r ↔ gm_Go E d 56 44 lv (v :: st) h r := gr_rd m56 f56_41 rfl rfl rfl rfl (gf_get k1_36 hr hv)
theorem f56_44 : gm_ft 56 44 = some (.iload_n 2, 1) := by decide +kernel
theorem r56_44 {E : Nat → Value} {d : Nat} {st : List Value} {h : gm_H} {r : gm_R × gm_H} {a0 a1 a3 : Value} {x : Int32} : gm_Go E d 56 44 [a0, a1, .int x, a3] st h r ↔ gm_Go E d 56 45 [a0, a1, .int x, a3] (.int x :: st) h r := gr_loc m56 f56_44 rfl rfl
theorem f56_45 : gm_ft 56 45 = some (.iaload, 1) := by decide +kernel
theorem r56_45 {E : Nat → Value} {d : Nat} {st : List Value} {h : gm_H} {r : gm_R × gm_H} {lv : List Value} {a k j : Nat} {vs : List Value} {v : Value} (hr : gm_rd h a = some (k, vs)) (hk : 100 ≤ k ∧ (fun t => t == 0) (k % 100) = true) (hj : j < 2 ^ 31) (hv : vs[j]? = some v) : gm_Go E d 56 45 lv (.int (nI j) :: .ref a :: st) h r ↔ gm_Go E d 56 46 lv (v :: st) h r := gr_rd m56 f56_45 rfl rfl rfl rfl (ga_ld (P := fun t => t == 0) hr hk hj hv)
theorem f56_46 : gm_ft 56 46 = some (.bipush 6, 2) := by decide +kernel
theorem r56_46 {E : Nat → Value} {d : Nat} {st : List Value} {h : gm_H} {r : gm_R × gm_H} {lv : List Value} : gm_Go E d 56 46 lv st h r ↔ gm_Go E d 56 48 lv (.int (6 : Int32) :: st) h r := gr_pure m56 f56_46 rfl
theorem f56_48 : gm_ft 56 48 = some (.if_icmp .lt 14, 3) := by decide +kernel
theorem r56_48 {E : Nat → Value} {d : Nat} {st : List Value} {h : gm_H} {r : gm_R × gm_H} {lv : List Value} {x y : Int32} : gm_Go E d 56 48 lv (.int y :: .int x :: st) h r ↔ (if x < y then gm_Go E d 56 62 lv st h r else gm_Go E d 56 51 lv st h r) := (gr_br m56 f56_48 rfl rfl rfl rfl).trans gr_if
theorem f56_51 : gm_ft 56 51 = some (.aload_n 1, 1) := by decide +kernel
theorem r56_51 {E : Nat → Value} {d : Nat} {st : List Value} {h : gm_H} {r : gm_R × gm_H} {a0 a2 a3 : Value} {x : Nat} : gm_Go E d 56 51 [a0, .ref x, a2, a3] st h r ↔ gm_Go E d 56 52 [a0, .ref x, a2, a3] (.ref x :: st) h r := gr_loc m56 f56_51 rfl rfl
theorem r56_51n {E : Nat → Value} {d : Nat} {st : List Value} {h : gm_H} {r : gm_R × gm_H} {a0 a2 a3 : Value}  : gm_Go E d 56 51 [a0, .null, a2, a3] st h r ↔ gm_Go E d 56 52 [a0, .null, a2, a3] (.null :: st) h r := gr_loc m56 f56_51 rfl rfl
theorem f56_52 : gm_ft 56 52 = some (.getfield 64, 3) := by decide +kernel
theorem r56_52 {E : Nat → Value} {d : Nat} {st : List Value} {h : gm_H} {r : gm_R × gm_H} {lv : List Value} {a : Nat} {vs : List Value} {v : Value} (hr : gm_rd h a = some (3, vs)) (hv : vs[5]? = some v) : gm_Go E d 56 52 lv (.ref a :: st) h r ↔ gm_Go E d 56 55 lv (v :: st) h r := gr_rd m56 f56_52 rfl rfl rfl rfl (gf_get k1_64 hr hv)
theorem f56_55 : gm_ft 56 55 = some (.iload_n 3, 1) := by decide +kernel
theorem r56_55 {E : Nat → Value} {d : Nat} {st : List Value} {h : gm_H} {r : gm_R × gm_H} {a0 a1 a2 : Value} {x : Int32} : gm_Go E d 56 55 [a0, a1, a2, .int x] st h r ↔ gm_Go E d 56 56 [a0, a1, a2, .int x] (.int x :: st) h r := gr_loc m56 f56_55 rfl rfl
theorem f56_56 : gm_ft 56 56 = some (.iaload, 1) := by decide +kernel
theorem r56_56 {E : Nat → Value} {d : Nat} {st : List Value} {h : gm_H} {r : gm_R × gm_H} {lv : List Value} {a k j : Nat} {vs : List Value} {v : Value} (hr : gm_rd h a = some (k, vs)) (hk : 100 ≤ k ∧ (fun t => t == 0) (k % 100) = true) (hj : j < 2 ^ 31) (hv : vs[j]? = some v) : gm_Go E d 56 56 lv (.int (nI j) :: .ref a :: st) h r ↔ gm_Go E d 56 57 lv (v :: st) h r := gr_rd m56 f56_56 rfl rfl rfl rfl (ga_ld (P := fun t => t == 0) hr hk hj hv)
theorem f56_57 : gm_ft 56 57 = some (.bipush 6, 2) := by decide +kernel
theorem r56_57 {E : Nat → Value} {d : Nat} {st : List Value} {h : gm_H} {r : gm_R × gm_H} {lv : List Value} : gm_Go E d 56 57 lv st h r ↔ gm_Go E d 56 59 lv (.int (6 : Int32) :: st) h r := gr_pure m56 f56_57 rfl
theorem f56_59 : gm_ft 56 59 = some (.if_icmp .ge 5, 3) := by decide +kernel
theorem r56_59 {E : Nat → Value} {d : Nat} {st : List Value} {h : gm_H} {r : gm_R × gm_H} {lv : List Value} {x y : Int32} : gm_Go E d 56 59 lv (.int y :: .int x :: st) h r ↔ (if y ≤ x then gm_Go E d 56 64 lv st h r else gm_Go E d 56 62 lv st h r) := (gr_br m56 f56_59 rfl rfl rfl rfl).trans gr_if
theorem f56_62 : gm_ft 56 62 = some (.iconst 0, 1) := by decide +kernel
theorem r56_62 {E : Nat → Value} {d : Nat} {st : List Value} {h : gm_H} {r : gm_R × gm_H} {lv : List Value} : gm_Go E d 56 62 lv st h r ↔ gm_Go E d 56 63 lv (.int (0 : Int32) :: st) h r := gr_pure m56 f56_62 rfl
theorem f56_63 : gm_ft 56 63 = some (.ireturn, 1) := by decide +kernel
theorem r56_63_0 {E : Nat → Value} {d : Nat} {h : gm_H} {r : gm_R × gm_H} {lv : List Value} : gm_Go E d 56 63 lv [.int (0 : Int32)] h r ↔ r = (.inl (some (.int (0 : Int32))), h) := gr_ret m56 f56_63 rfl rfl rfl rfl rfl rfl rfl rfl (by unfold gm_rt; dsimp only; rw [if_pos ⟨rfl, rfl⟩])
theorem r56_63_1 {E : Nat → Value} {d : Nat} {h : gm_H} {r : gm_R × gm_H} {lv : List Value} : gm_Go E d 56 63 lv [.int (1 : Int32)] h r ↔ r = (.inl (some (.int (1 : Int32))), h) := gr_ret m56 f56_63 rfl rfl rfl rfl rfl rfl rfl rfl (by unfold gm_rt; dsimp only; rw [if_pos ⟨rfl, rfl⟩])
theorem f56_64 : gm_ft 56 64 = some (.iinc 2 1, 3) := by decide +kernel
theorem r56_64 {E : Nat → Value} {d : Nat} {st : List Value} {h : gm_H} {r : gm_R × gm_H} {a0 a1 a3 : Value} {x : Int32} : gm_Go E d 56 64 [a0, a1, .int x, a3] st h r ↔ gm_Go E d 56 67 [a0, gm_k a1, .int (x + (1 : Int32)), a3] st h r := gr_loc m56 f56_64 rfl rfl
theorem f56_67 : gm_ft 56 67 = some (.goto (-65), 3) := by decide +kernel
theorem r56_67 {E : Nat → Value} {d : Nat} {st : List Value} {h : gm_H} {r : gm_R × gm_H} {lv : List Value} : gm_Go E d 56 67 lv st h r ↔ gm_Go E d 56 2 lv st h r := gr_brT m56 f56_67 rfl rfl rfl rfl
theorem f56_70 : gm_ft 56 70 = some (.iconst 1, 1) := by decide +kernel
theorem r56_70 {E : Nat → Value} {d : Nat} {st : List Value} {h : gm_H} {r : gm_R × gm_H} {lv : List Value} : gm_Go E d 56 70 lv st h r ↔ gm_Go E d 56 71 lv (.int (1 : Int32) :: st) h r := gr_pure m56 f56_70 rfl
theorem f56_71 : gm_ft 56 71 = some (.ireturn, 1) := by decide +kernel
theorem r56_71_0 {E : Nat → Value} {d : Nat} {h : gm_H} {r : gm_R × gm_H} {lv : List Value} : gm_Go E d 56 71 lv [.int (0 : Int32)] h r ↔ r = (.inl (some (.int (0 : Int32))), h) := gr_ret m56 f56_71 rfl rfl rfl rfl rfl rfl rfl rfl (by unfold gm_rt; dsimp only; rw [if_pos ⟨rfl, rfl⟩])
theorem r56_71_1 {E : Nat → Value} {d : Nat} {h : gm_H} {r : gm_R × gm_H} {lv : List Value} : gm_Go E d 56 71 lv [.int (1 : Int32)] h r ↔ r = (.inl (some (.int (1 : Int32))), h) := gr_ret m56 f56_71 rfl rfl rfl rfl rfl rfl rfl rfl (by unfold gm_rt; dsimp only; rw [if_pos ⟨rfl, rfl⟩])
/-! GraphReader.readInstance(I)I -/
theorem m57 : gm_mt[57]? = some (⟨"GraphReader", "readInstance", "(I)I"⟩, prog_1_method_40_code, 8, (some .int), [], 0, 1) := rfl
theorem f57_0 : gm_ft 57 0 = some (.aload_n 0, 1) := by decide +kernel
theorem r57_0 {E : Nat → Value} {d : Nat} {st : List Value} {h : gm_H} {r : gm_R × gm_H} {a1 a2 a3 a4 a5 a6 a7 : Value} {x : Nat} : gm_Go E d 57 0 [.ref x, a1, a2, a3, a4, a5, a6, a7] st h r ↔ gm_Go E d 57 1 [.ref x, a1, a2, a3, a4, a5, a6, a7] (.ref x :: st) h r := gr_loc m57 f57_0 rfl rfl
theorem r57_0n {E : Nat → Value} {d : Nat} {st : List Value} {h : gm_H} {r : gm_R × gm_H} {a1 a2 a3 a4 a5 a6 a7 : Value}  : gm_Go E d 57 0 [.null, a1, a2, a3, a4, a5, a6, a7] st h r ↔ gm_Go E d 57 1 [.null, a1, a2, a3, a4, a5, a6, a7] (.null :: st) h r := gr_loc m57 f57_0 rfl rfl
theorem f57_1 : gm_ft 57 1 = some (.iload_n 1, 1) := by decide +kernel
theorem r57_1 {E : Nat → Value} {d : Nat} {st : List Value} {h : gm_H} {r : gm_R × gm_H} {a0 a2 a3 a4 a5 a6 a7 : Value} {x : Int32} : gm_Go E d 57 1 [a0, .int x, a2, a3, a4, a5, a6, a7] st h r ↔ gm_Go E d 57 2 [a0, .int x, a2, a3, a4, a5, a6, a7] (.int x :: st) h r := gr_loc m57 f57_1 rfl rfl
theorem f57_2 : gm_ft 57 2 = some (.invokevirtual 235, 3) := by decide +kernel
theorem n57_2 {st : List Value} {h : gm_H} {E : Nat → Value} {lv : List Value} {b0 : Value} {a : Nat} (hs : (st.map fun v => v.category).sum ≤ 8) (he : (gm_en1 [.ref a, b0]).length ≤ 3) {vs : List Value} (hr : gm_rd h a = some (0, vs)) : gm_next E 57 2 lv (b0 :: .ref a :: st) h = some (.inr (.inl (0, 58, [.ref a, b0], st))) := gn_call m57 f57_2 rfl rfl rfl rfl rfl rfl rfl (gc_virt (bs := [b0]) (w := 505) rfl rfl rfl rfl hs he hr) (by decide)
theorem f57_5 : gm_ft 57 5 = some (.astore_n 2, 1) := by decide +kernel
theorem r57_5 {E : Nat → Value} {d : Nat} {st : List Value} {h : gm_H} {r : gm_R × gm_H} {a0 a1 a2 a3 a4 a5 a6 a7 : Value} {x : Nat} : gm_Go E d 57 5 [a0, a1, a2, a3, a4, a5, a6, a7] (.ref x :: st) h r ↔ gm_Go E d 57 6 [a0, gm_k a1, .ref x, a3, a4, a5, a6, a7] st h r := gr_loc m57 f57_5 rfl rfl
theorem r57_5n {E : Nat → Value} {d : Nat} {st : List Value} {h : gm_H} {r : gm_R × gm_H} {a0 a1 a2 a3 a4 a5 a6 a7 : Value}  : gm_Go E d 57 5 [a0, a1, a2, a3, a4, a5, a6, a7] (.null :: st) h r ↔ gm_Go E d 57 6 [a0, gm_k a1, .null, a3, a4, a5, a6, a7] st h r := gr_loc m57 f57_5 rfl rfl
theorem f57_6 : gm_ft 57 6 = some (.aload_n 0, 1) := by decide +kernel
theorem r57_6 {E : Nat → Value} {d : Nat} {st : List Value} {h : gm_H} {r : gm_R × gm_H} {a1 a2 a3 a4 a5 a6 a7 : Value} {x : Nat} : gm_Go E d 57 6 [.ref x, a1, a2, a3, a4, a5, a6, a7] st h r ↔ gm_Go E d 57 7 [.ref x, a1, a2, a3, a4, a5, a6, a7] (.ref x :: st) h r := gr_loc m57 f57_6 rfl rfl
theorem r57_6n {E : Nat → Value} {d : Nat} {st : List Value} {h : gm_H} {r : gm_R × gm_H} {a1 a2 a3 a4 a5 a6 a7 : Value}  : gm_Go E d 57 6 [.null, a1, a2, a3, a4, a5, a6, a7] st h r ↔ gm_Go E d 57 7 [.null, a1, a2, a3, a4, a5, a6, a7] (.null :: st) h r := gr_loc m57 f57_6 rfl rfl
theorem f57_7 : gm_ft 57 7 = some (.aload_n 2, 1) := by decide +kernel
theorem r57_7 {E : Nat → Value} {d : Nat} {st : List Value} {h : gm_H} {r : gm_R × gm_H} {a0 a1 a3 a4 a5 a6 a7 : Value} {x : Nat} : gm_Go E d 57 7 [a0, a1, .ref x, a3, a4, a5, a6, a7] st h r ↔ gm_Go E d 57 8 [a0, a1, .ref x, a3, a4, a5, a6, a7] (.ref x :: st) h r := gr_loc m57 f57_7 rfl rfl
theorem r57_7n {E : Nat → Value} {d : Nat} {st : List Value} {h : gm_H} {r : gm_R × gm_H} {a0 a1 a3 a4 a5 a6 a7 : Value}  : gm_Go E d 57 7 [a0, a1, .null, a3, a4, a5, a6, a7] st h r ↔ gm_Go E d 57 8 [a0, a1, .null, a3, a4, a5, a6, a7] (.null :: st) h r := gr_loc m57 f57_7 rfl rfl
theorem f57_8 : gm_ft 57 8 = some (.iload_n 1, 1) := by decide +kernel
theorem r57_8 {E : Nat → Value} {d : Nat} {st : List Value} {h : gm_H} {r : gm_R × gm_H} {a0 a2 a3 a4 a5 a6 a7 : Value} {x : Int32} : gm_Go E d 57 8 [a0, .int x, a2, a3, a4, a5, a6, a7] st h r ↔ gm_Go E d 57 9 [a0, .int x, a2, a3, a4, a5, a6, a7] (.int x :: st) h r := gr_loc m57 f57_8 rfl rfl
theorem f57_9 : gm_ft 57 9 = some (.iconst 0, 1) := by decide +kernel
theorem r57_9 {E : Nat → Value} {d : Nat} {st : List Value} {h : gm_H} {r : gm_R × gm_H} {lv : List Value} : gm_Go E d 57 9 lv st h r ↔ gm_Go E d 57 10 lv (.int (0 : Int32) :: st) h r := gr_pure m57 f57_9 rfl
theorem f57_10 : gm_ft 57 10 = some (.invokevirtual 252, 3) := by decide +kernel
theorem n57_10 {st : List Value} {h : gm_H} {E : Nat → Value} {lv : List Value} {b0 b1 b2 : Value} {a : Nat} (hs : (st.map fun v => v.category).sum ≤ 8) (he : (gm_en1 [.ref a, b0, b1, b2]).length ≤ 5) {vs : List Value} (hr : gm_rd h a = some (0, vs)) : gm_next E 57 10 lv (b2 :: b1 :: b0 :: .ref a :: st) h = some (.inr (.inl (0, 59, [.ref a, b0, b1, b2], st))) := gn_call m57 f57_10 rfl rfl rfl rfl rfl rfl rfl (gc_virt (bs := [b2, b1, b0]) (w := 509) rfl rfl rfl rfl hs he hr) (by decide)
theorem f57_13 : gm_ft 57 13 = some (.aload_n 2, 1) := by decide +kernel
theorem r57_13 {E : Nat → Value} {d : Nat} {st : List Value} {h : gm_H} {r : gm_R × gm_H} {a0 a1 a3 a4 a5 a6 a7 : Value} {x : Nat} : gm_Go E d 57 13 [a0, a1, .ref x, a3, a4, a5, a6, a7] st h r ↔ gm_Go E d 57 14 [a0, a1, .ref x, a3, a4, a5, a6, a7] (.ref x :: st) h r := gr_loc m57 f57_13 rfl rfl
theorem r57_13n {E : Nat → Value} {d : Nat} {st : List Value} {h : gm_H} {r : gm_R × gm_H} {a0 a1 a3 a4 a5 a6 a7 : Value}  : gm_Go E d 57 13 [a0, a1, .null, a3, a4, a5, a6, a7] st h r ↔ gm_Go E d 57 14 [a0, a1, .null, a3, a4, a5, a6, a7] (.null :: st) h r := gr_loc m57 f57_13 rfl rfl
theorem f57_14 : gm_ft 57 14 = some (.invokevirtual 256, 3) := by decide +kernel
theorem n57_14 {st : List Value} {h : gm_H} {E : Nat → Value} {lv : List Value} {a : Nat} (hs : (st.map fun v => v.category).sum ≤ 8) (he : (gm_en1 [.ref a]).length ≤ 1) {vs : List Value} (hr : gm_rd h a = some (1, vs)) : gm_next E 57 14 lv (.ref a :: st) h = some (.inr (.inl (0, 36, [.ref a], st))) := gn_call m57 f57_14 rfl rfl rfl rfl rfl rfl rfl (gc_virt (bs := []) (w := 364) rfl rfl rfl rfl hs he hr) (by decide)
theorem f57_17 : gm_ft 57 17 = some (.ifCond .eq 10, 3) := by decide +kernel
theorem r57_17 {E : Nat → Value} {d : Nat} {st : List Value} {h : gm_H} {r : gm_R × gm_H} {lv : List Value} {x : Int32} : gm_Go E d 57 17 lv (.int x :: st) h r ↔ (if x = 0 then gm_Go E d 57 27 lv st h r else gm_Go E d 57 20 lv st h r) := (gr_br m57 f57_17 rfl rfl rfl rfl).trans gr_if
theorem f57_20 : gm_ft 57 20 = some (.aload_n 0, 1) := by decide +kernel
theorem r57_20 {E : Nat → Value} {d : Nat} {st : List Value} {h : gm_H} {r : gm_R × gm_H} {a1 a2 a3 a4 a5 a6 a7 : Value} {x : Nat} : gm_Go E d 57 20 [.ref x, a1, a2, a3, a4, a5, a6, a7] st h r ↔ gm_Go E d 57 21 [.ref x, a1, a2, a3, a4, a5, a6, a7] (.ref x :: st) h r := gr_loc m57 f57_20 rfl rfl
theorem r57_20n {E : Nat → Value} {d : Nat} {st : List Value} {h : gm_H} {r : gm_R × gm_H} {a1 a2 a3 a4 a5 a6 a7 : Value}  : gm_Go E d 57 20 [.null, a1, a2, a3, a4, a5, a6, a7] st h r ↔ gm_Go E d 57 21 [.null, a1, a2, a3, a4, a5, a6, a7] (.null :: st) h r := gr_loc m57 f57_20 rfl rfl
theorem f57_21 : gm_ft 57 21 = some (.bipush (-5), 2) := by decide +kernel
theorem r57_21 {E : Nat → Value} {d : Nat} {st : List Value} {h : gm_H} {r : gm_R × gm_H} {lv : List Value} : gm_Go E d 57 21 lv st h r ↔ gm_Go E d 57 23 lv (.int (-5 : Int32) :: st) h r := gr_pure m57 f57_21 rfl
theorem f57_23 : gm_ft 57 23 = some (.invokevirtual 160, 3) := by decide +kernel
theorem n57_23 {st : List Value} {h : gm_H} {E : Nat → Value} {lv : List Value} {b0 : Value} {a : Nat} (hs : (st.map fun v => v.category).sum ≤ 8) (he : (gm_en1 [.ref a, b0]).length ≤ 2) {vs : List Value} (hr : gm_rd h a = some (0, vs)) : gm_next E 57 23 lv (b0 :: .ref a :: st) h = some (.inr (.inl (0, 22, [.ref a, b0], st))) := gn_call m57 f57_23 rfl rfl rfl rfl rfl rfl rfl (gc_virt (bs := [b0]) (w := 206) rfl rfl rfl rfl hs he hr) (by decide)
theorem f57_26 : gm_ft 57 26 = some (.ireturn, 1) := by decide +kernel
theorem r57_26 {E : Nat → Value} {d : Nat} {h : gm_H} {r : gm_R × gm_H} {lv : List Value} {x : Int32} : gm_Go E d 57 26 lv [.int x] h r ↔ r = (.inl (some (.int x)), h) := gr_ret m57 f57_26 rfl rfl rfl rfl rfl rfl rfl rfl (by unfold gm_rt; dsimp only; rw [if_pos ⟨rfl, rfl⟩])
theorem f57_27 : gm_ft 57 27 = some (.aload_n 2, 1) := by decide +kernel
theorem r57_27 {E : Nat → Value} {d : Nat} {st : List Value} {h : gm_H} {r : gm_R × gm_H} {a0 a1 a3 a4 a5 a6 a7 : Value} {x : Nat} : gm_Go E d 57 27 [a0, a1, .ref x, a3, a4, a5, a6, a7] st h r ↔ gm_Go E d 57 28 [a0, a1, .ref x, a3, a4, a5, a6, a7] (.ref x :: st) h r := gr_loc m57 f57_27 rfl rfl
theorem r57_27n {E : Nat → Value} {d : Nat} {st : List Value} {h : gm_H} {r : gm_R × gm_H} {a0 a1 a3 a4 a5 a6 a7 : Value}  : gm_Go E d 57 27 [a0, a1, .null, a3, a4, a5, a6, a7] st h r ↔ gm_Go E d 57 28 [a0, a1, .null, a3, a4, a5, a6, a7] (.null :: st) h r := gr_loc m57 f57_27 rfl rfl
theorem f57_28 : gm_ft 57 28 = some (.getfield 188, 3) := by decide +kernel
theorem r57_28 {E : Nat → Value} {d : Nat} {st : List Value} {h : gm_H} {r : gm_R × gm_H} {lv : List Value} {a : Nat} {vs : List Value} {v : Value} (hr : gm_rd h a = some (1, vs)) (hv : vs[9]? = some v) : gm_Go E d 57 28 lv (.ref a :: st) h r ↔ gm_Go E d 57 31 lv (v :: st) h r := gr_rd m57 f57_28 rfl rfl rfl rfl (gf_get k0_188 hr hv)
theorem f57_31 : gm_ft 57 31 = some (.astore_n 3, 1) := by decide +kernel
theorem r57_31 {E : Nat → Value} {d : Nat} {st : List Value} {h : gm_H} {r : gm_R × gm_H} {a0 a1 a2 a3 a4 a5 a6 a7 : Value} {x : Nat} : gm_Go E d 57 31 [a0, a1, a2, a3, a4, a5, a6, a7] (.ref x :: st) h r ↔ gm_Go E d 57 32 [a0, a1, gm_k a2, .ref x, a4, a5, a6, a7] st h r := gr_loc m57 f57_31 rfl rfl
theorem r57_31n {E : Nat → Value} {d : Nat} {st : List Value} {h : gm_H} {r : gm_R × gm_H} {a0 a1 a2 a3 a4 a5 a6 a7 : Value}  : gm_Go E d 57 31 [a0, a1, a2, a3, a4, a5, a6, a7] (.null :: st) h r ↔ gm_Go E d 57 32 [a0, a1, gm_k a2, .null, a4, a5, a6, a7] st h r := gr_loc m57 f57_31 rfl rfl
theorem f57_32 : gm_ft 57 32 = some (.aload_n 3, 1) := by decide +kernel
theorem r57_32 {E : Nat → Value} {d : Nat} {st : List Value} {h : gm_H} {r : gm_R × gm_H} {a0 a1 a2 a4 a5 a6 a7 : Value} {x : Nat} : gm_Go E d 57 32 [a0, a1, a2, .ref x, a4, a5, a6, a7] st h r ↔ gm_Go E d 57 33 [a0, a1, a2, .ref x, a4, a5, a6, a7] (.ref x :: st) h r := gr_loc m57 f57_32 rfl rfl
theorem r57_32n {E : Nat → Value} {d : Nat} {st : List Value} {h : gm_H} {r : gm_R × gm_H} {a0 a1 a2 a4 a5 a6 a7 : Value}  : gm_Go E d 57 32 [a0, a1, a2, .null, a4, a5, a6, a7] st h r ↔ gm_Go E d 57 33 [a0, a1, a2, .null, a4, a5, a6, a7] (.null :: st) h r := gr_loc m57 f57_32 rfl rfl
theorem f57_33 : gm_ft 57 33 = some (.ifnonnull 10, 3) := by decide +kernel
theorem r57_33n {E : Nat → Value} {d : Nat} {st : List Value} {h : gm_H} {r : gm_R × gm_H} {lv : List Value} : gm_Go E d 57 33 lv (.null :: st) h r ↔ gm_Go E d 57 36 lv st h r := gr_brF m57 f57_33 rfl rfl rfl rfl
theorem r57_33 {E : Nat → Value} {d : Nat} {st : List Value} {h : gm_H} {r : gm_R × gm_H} {lv : List Value} {a : Nat} : gm_Go E d 57 33 lv (.ref a :: st) h r ↔ gm_Go E d 57 43 lv st h r := gr_brT m57 f57_33 rfl rfl rfl rfl
theorem f57_36 : gm_ft 57 36 = some (.aload_n 0, 1) := by decide +kernel
theorem r57_36 {E : Nat → Value} {d : Nat} {st : List Value} {h : gm_H} {r : gm_R × gm_H} {a1 a2 a3 a4 a5 a6 a7 : Value} {x : Nat} : gm_Go E d 57 36 [.ref x, a1, a2, a3, a4, a5, a6, a7] st h r ↔ gm_Go E d 57 37 [.ref x, a1, a2, a3, a4, a5, a6, a7] (.ref x :: st) h r := gr_loc m57 f57_36 rfl rfl
theorem r57_36n {E : Nat → Value} {d : Nat} {st : List Value} {h : gm_H} {r : gm_R × gm_H} {a1 a2 a3 a4 a5 a6 a7 : Value}  : gm_Go E d 57 36 [.null, a1, a2, a3, a4, a5, a6, a7] st h r ↔ gm_Go E d 57 37 [.null, a1, a2, a3, a4, a5, a6, a7] (.null :: st) h r := gr_loc m57 f57_36 rfl rfl
theorem f57_37 : gm_ft 57 37 = some (.bipush (-9), 2) := by decide +kernel
theorem r57_37 {E : Nat → Value} {d : Nat} {st : List Value} {h : gm_H} {r : gm_R × gm_H} {lv : List Value} : gm_Go E d 57 37 lv st h r ↔ gm_Go E d 57 39 lv (.int (-9 : Int32) :: st) h r := gr_pure m57 f57_37 rfl
theorem f57_39 : gm_ft 57 39 = some (.invokevirtual 160, 3) := by decide +kernel
theorem n57_39 {st : List Value} {h : gm_H} {E : Nat → Value} {lv : List Value} {b0 : Value} {a : Nat} (hs : (st.map fun v => v.category).sum ≤ 8) (he : (gm_en1 [.ref a, b0]).length ≤ 2) {vs : List Value} (hr : gm_rd h a = some (0, vs)) : gm_next E 57 39 lv (b0 :: .ref a :: st) h = some (.inr (.inl (0, 22, [.ref a, b0], st))) := gn_call m57 f57_39 rfl rfl rfl rfl rfl rfl rfl (gc_virt (bs := [b0]) (w := 206) rfl rfl rfl rfl hs he hr) (by decide)
theorem f57_42 : gm_ft 57 42 = some (.ireturn, 1) := by decide +kernel
theorem r57_42 {E : Nat → Value} {d : Nat} {h : gm_H} {r : gm_R × gm_H} {lv : List Value} {x : Int32} : gm_Go E d 57 42 lv [.int x] h r ↔ r = (.inl (some (.int x)), h) := gr_ret m57 f57_42 rfl rfl rfl rfl rfl rfl rfl rfl (by unfold gm_rt; dsimp only; rw [if_pos ⟨rfl, rfl⟩])
theorem f57_43 : gm_ft 57 43 = some (.aload_n 3, 1) := by decide +kernel
theorem r57_43 {E : Nat → Value} {d : Nat} {st : List Value} {h : gm_H} {r : gm_R × gm_H} {a0 a1 a2 a4 a5 a6 a7 : Value} {x : Nat} : gm_Go E d 57 43 [a0, a1, a2, .ref x, a4, a5, a6, a7] st h r ↔ gm_Go E d 57 44 [a0, a1, a2, .ref x, a4, a5, a6, a7] (.ref x :: st) h r := gr_loc m57 f57_43 rfl rfl
theorem r57_43n {E : Nat → Value} {d : Nat} {st : List Value} {h : gm_H} {r : gm_R × gm_H} {a0 a1 a2 a4 a5 a6 a7 : Value}  : gm_Go E d 57 43 [a0, a1, a2, .null, a4, a5, a6, a7] st h r ↔ gm_Go E d 57 44 [a0, a1, a2, .null, a4, a5, a6, a7] (.null :: st) h r := gr_loc m57 f57_43 rfl rfl
theorem f57_44 : gm_ft 57 44 = some (.getfield 54, 3) := by decide +kernel
theorem r57_44 {E : Nat → Value} {d : Nat} {st : List Value} {h : gm_H} {r : gm_R × gm_H} {lv : List Value} {a : Nat} {vs : List Value} {v : Value} (hr : gm_rd h a = some (3, vs)) (hv : vs[1]? = some v) : gm_Go E d 57 44 lv (.ref a :: st) h r ↔ gm_Go E d 57 47 lv (v :: st) h r := gr_rd m57 f57_44 rfl rfl rfl rfl (gf_get k0_54 hr hv)
theorem f57_47 : gm_ft 57 47 = some (.ifCond .eq 11, 3) := by decide +kernel
theorem r57_47 {E : Nat → Value} {d : Nat} {st : List Value} {h : gm_H} {r : gm_R × gm_H} {lv : List Value} {x : Int32} : gm_Go E d 57 47 lv (.int x :: st) h r ↔ (if x = 0 then gm_Go E d 57 58 lv st h r else gm_Go E d 57 50 lv st h r) := (gr_br m57 f57_47 rfl rfl rfl rfl).trans gr_if
theorem f57_50 : gm_ft 57 50 = some (.aload_n 3, 1) := by decide +kernel
theorem r57_50 {E : Nat → Value} {d : Nat} {st : List Value} {h : gm_H} {r : gm_R × gm_H} {a0 a1 a2 a4 a5 a6 a7 : Value} {x : Nat} : gm_Go E d 57 50 [a0, a1, a2, .ref x, a4, a5, a6, a7] st h r ↔ gm_Go E d 57 51 [a0, a1, a2, .ref x, a4, a5, a6, a7] (.ref x :: st) h r := gr_loc m57 f57_50 rfl rfl
theorem r57_50n {E : Nat → Value} {d : Nat} {st : List Value} {h : gm_H} {r : gm_R × gm_H} {a0 a1 a2 a4 a5 a6 a7 : Value}  : gm_Go E d 57 50 [a0, a1, a2, .null, a4, a5, a6, a7] st h r ↔ gm_Go E d 57 51 [a0, a1, a2, .null, a4, a5, a6, a7] (.null :: st) h r := gr_loc m57 f57_50 rfl rfl
theorem f57_51 : gm_ft 57 51 = some (.getfield 54, 3) := by decide +kernel
theorem r57_51 {E : Nat → Value} {d : Nat} {st : List Value} {h : gm_H} {r : gm_R × gm_H} {lv : List Value} {a : Nat} {vs : List Value} {v : Value} (hr : gm_rd h a = some (3, vs)) (hv : vs[1]? = some v) : gm_Go E d 57 51 lv (.ref a :: st) h r ↔ gm_Go E d 57 54 lv (v :: st) h r := gr_rd m57 f57_51 rfl rfl rfl rfl (gf_get k0_54 hr hv)
theorem f57_54 : gm_ft 57 54 = some (.iconst 3, 1) := by decide +kernel
theorem r57_54 {E : Nat → Value} {d : Nat} {st : List Value} {h : gm_H} {r : gm_R × gm_H} {lv : List Value} : gm_Go E d 57 54 lv st h r ↔ gm_Go E d 57 55 lv (.int (3 : Int32) :: st) h r := gr_pure m57 f57_54 rfl
theorem f57_55 : gm_ft 57 55 = some (.if_icmp .ne 10, 3) := by decide +kernel
theorem r57_55 {E : Nat → Value} {d : Nat} {st : List Value} {h : gm_H} {r : gm_R × gm_H} {lv : List Value} {x y : Int32} : gm_Go E d 57 55 lv (.int y :: .int x :: st) h r ↔ (if x = y then gm_Go E d 57 58 lv st h r else gm_Go E d 57 65 lv st h r) := (gr_br m57 f57_55 rfl rfl rfl rfl).trans gr_ifn
theorem f57_58 : gm_ft 57 58 = some (.aload_n 0, 1) := by decide +kernel
theorem r57_58 {E : Nat → Value} {d : Nat} {st : List Value} {h : gm_H} {r : gm_R × gm_H} {a1 a2 a3 a4 a5 a6 a7 : Value} {x : Nat} : gm_Go E d 57 58 [.ref x, a1, a2, a3, a4, a5, a6, a7] st h r ↔ gm_Go E d 57 59 [.ref x, a1, a2, a3, a4, a5, a6, a7] (.ref x :: st) h r := gr_loc m57 f57_58 rfl rfl
theorem r57_58n {E : Nat → Value} {d : Nat} {st : List Value} {h : gm_H} {r : gm_R × gm_H} {a1 a2 a3 a4 a5 a6 a7 : Value}  : gm_Go E d 57 58 [.null, a1, a2, a3, a4, a5, a6, a7] st h r ↔ gm_Go E d 57 59 [.null, a1, a2, a3, a4, a5, a6, a7] (.null :: st) h r := gr_loc m57 f57_58 rfl rfl
theorem f57_59 : gm_ft 57 59 = some (.bipush (-5), 2) := by decide +kernel
theorem r57_59 {E : Nat → Value} {d : Nat} {st : List Value} {h : gm_H} {r : gm_R × gm_H} {lv : List Value} : gm_Go E d 57 59 lv st h r ↔ gm_Go E d 57 61 lv (.int (-5 : Int32) :: st) h r := gr_pure m57 f57_59 rfl
theorem f57_61 : gm_ft 57 61 = some (.invokevirtual 160, 3) := by decide +kernel
theorem n57_61 {st : List Value} {h : gm_H} {E : Nat → Value} {lv : List Value} {b0 : Value} {a : Nat} (hs : (st.map fun v => v.category).sum ≤ 8) (he : (gm_en1 [.ref a, b0]).length ≤ 2) {vs : List Value} (hr : gm_rd h a = some (0, vs)) : gm_next E 57 61 lv (b0 :: .ref a :: st) h = some (.inr (.inl (0, 22, [.ref a, b0], st))) := gn_call m57 f57_61 rfl rfl rfl rfl rfl rfl rfl (gc_virt (bs := [b0]) (w := 206) rfl rfl rfl rfl hs he hr) (by decide)
theorem f57_64 : gm_ft 57 64 = some (.ireturn, 1) := by decide +kernel
theorem r57_64 {E : Nat → Value} {d : Nat} {h : gm_H} {r : gm_R × gm_H} {lv : List Value} {x : Int32} : gm_Go E d 57 64 lv [.int x] h r ↔ r = (.inl (some (.int x)), h) := gr_ret m57 f57_64 rfl rfl rfl rfl rfl rfl rfl rfl (by unfold gm_rt; dsimp only; rw [if_pos ⟨rfl, rfl⟩])
theorem f57_65 : gm_ft 57 65 = some (.new 19, 3) := by decide +kernel
theorem r57_65 {E : Nat → Value} {d : Nat} {st : List Value} {h : gm_H} {r : gm_R × gm_H} {lv : List Value} : gm_Go E d 57 65 lv st h r ↔ gm_Go E d 57 68 lv (.ref h.1 :: st) (gm_nw h (4, (List.range (gm_N 4)).map (fun k => defaultValue (gm_ty 4 k))) (gm_N 4)) r := gr_nw m57 f57_65 rfl rfl rfl rfl rfl rfl rfl
theorem f57_68 : gm_ft 57 68 = some (.dup, 1) := by decide +kernel
theorem r57_68 {E : Nat → Value} {d : Nat} {st : List Value} {h : gm_H} {r : gm_R × gm_H} {lv : List Value} {a : Nat} : gm_Go E d 57 68 lv (.ref a :: st) h r ↔ gm_Go E d 57 69 lv (.ref a :: .ref a :: st) h r := gr_pure m57 f57_68 rfl
theorem r57_68i {E : Nat → Value} {d : Nat} {st : List Value} {h : gm_H} {r : gm_R × gm_H} {lv : List Value} {x : Int32} : gm_Go E d 57 68 lv (.int x :: st) h r ↔ gm_Go E d 57 69 lv (.int x :: .int x :: st) h r := gr_pure m57 f57_68 rfl
theorem f57_69 : gm_ft 57 69 = some (.iconst 0, 1) := by decide +kernel
theorem r57_69 {E : Nat → Value} {d : Nat} {st : List Value} {h : gm_H} {r : gm_R × gm_H} {lv : List Value} : gm_Go E d 57 69 lv st h r ↔ gm_Go E d 57 70 lv (.int (0 : Int32) :: st) h r := gr_pure m57 f57_69 rfl
theorem f57_70 : gm_ft 57 70 = some (.aload_n 3, 1) := by decide +kernel
theorem r57_70 {E : Nat → Value} {d : Nat} {st : List Value} {h : gm_H} {r : gm_R × gm_H} {a0 a1 a2 a4 a5 a6 a7 : Value} {x : Nat} : gm_Go E d 57 70 [a0, a1, a2, .ref x, a4, a5, a6, a7] st h r ↔ gm_Go E d 57 71 [a0, a1, a2, .ref x, a4, a5, a6, a7] (.ref x :: st) h r := gr_loc m57 f57_70 rfl rfl
theorem r57_70n {E : Nat → Value} {d : Nat} {st : List Value} {h : gm_H} {r : gm_R × gm_H} {a0 a1 a2 a4 a5 a6 a7 : Value}  : gm_Go E d 57 70 [a0, a1, a2, .null, a4, a5, a6, a7] st h r ↔ gm_Go E d 57 71 [a0, a1, a2, .null, a4, a5, a6, a7] (.null :: st) h r := gr_loc m57 f57_70 rfl rfl
theorem f57_71 : gm_ft 57 71 = some (.aload_n 3, 1) := by decide +kernel
theorem r57_71 {E : Nat → Value} {d : Nat} {st : List Value} {h : gm_H} {r : gm_R × gm_H} {a0 a1 a2 a4 a5 a6 a7 : Value} {x : Nat} : gm_Go E d 57 71 [a0, a1, a2, .ref x, a4, a5, a6, a7] st h r ↔ gm_Go E d 57 72 [a0, a1, a2, .ref x, a4, a5, a6, a7] (.ref x :: st) h r := gr_loc m57 f57_71 rfl rfl
theorem r57_71n {E : Nat → Value} {d : Nat} {st : List Value} {h : gm_H} {r : gm_R × gm_H} {a0 a1 a2 a4 a5 a6 a7 : Value}  : gm_Go E d 57 71 [a0, a1, a2, .null, a4, a5, a6, a7] st h r ↔ gm_Go E d 57 72 [a0, a1, a2, .null, a4, a5, a6, a7] (.null :: st) h r := gr_loc m57 f57_71 rfl rfl
theorem f57_72 : gm_ft 57 72 = some (.invokevirtual 267, 3) := by decide +kernel
theorem n57_72 {st : List Value} {h : gm_H} {E : Nat → Value} {lv : List Value} {a : Nat} (hs : (st.map fun v => v.category).sum ≤ 8) (he : (gm_en1 [.ref a]).length ≤ 3) {vs : List Value} (hr : gm_rd h a = some (3, vs)) : gm_next E 57 72 lv (.ref a :: st) h = some (.inr (.inl (0, 60, [.ref a], st))) := gn_call m57 f57_72 rfl rfl rfl rfl rfl rfl rfl (gc_virt (bs := []) (w := 514) rfl rfl rfl rfl hs he hr) (by decide)
theorem f57_75 : gm_ft 57 75 = some (.invokespecial 228, 3) := by decide +kernel
theorem n57_75 {st : List Value} {h : gm_H} {E : Nat → Value} {lv : List Value} {b0 b1 b2 : Value} {a : Nat} (hs : (st.map fun v => v.category).sum ≤ 8) (he : (gm_en1 [.ref a, b0, b1, b2]).length ≤ 4) : gm_next E 57 75 lv (b2 :: b1 :: b0 :: .ref a :: st) h = some (.inr (.inl (2, 61, [.ref a, b0, b1, b2], st))) := gn_call m57 f57_75 rfl rfl rfl rfl rfl rfl rfl (gc_init (bs := [b2, b1, b0]) (w := 518) rfl rfl rfl hs he (by decide)) (by decide)
theorem f57_78 : gm_ft 57 78 = some (.astore 4, 2) := by decide +kernel
theorem r57_78 {E : Nat → Value} {d : Nat} {st : List Value} {h : gm_H} {r : gm_R × gm_H} {a0 a1 a2 a3 a4 a5 a6 a7 : Value} {x : Nat} : gm_Go E d 57 78 [a0, a1, a2, a3, a4, a5, a6, a7] (.ref x :: st) h r ↔ gm_Go E d 57 80 [a0, a1, a2, gm_k a3, .ref x, a5, a6, a7] st h r := gr_loc m57 f57_78 rfl rfl
theorem r57_78n {E : Nat → Value} {d : Nat} {st : List Value} {h : gm_H} {r : gm_R × gm_H} {a0 a1 a2 a3 a4 a5 a6 a7 : Value}  : gm_Go E d 57 78 [a0, a1, a2, a3, a4, a5, a6, a7] (.null :: st) h r ↔ gm_Go E d 57 80 [a0, a1, a2, gm_k a3, .null, a5, a6, a7] st h r := gr_loc m57 f57_78 rfl rfl
theorem f57_80 : gm_ft 57 80 = some (.aload_n 3, 1) := by decide +kernel
theorem r57_80 {E : Nat → Value} {d : Nat} {st : List Value} {h : gm_H} {r : gm_R × gm_H} {a0 a1 a2 a4 a5 a6 a7 : Value} {x : Nat} : gm_Go E d 57 80 [a0, a1, a2, .ref x, a4, a5, a6, a7] st h r ↔ gm_Go E d 57 81 [a0, a1, a2, .ref x, a4, a5, a6, a7] (.ref x :: st) h r := gr_loc m57 f57_80 rfl rfl
theorem r57_80n {E : Nat → Value} {d : Nat} {st : List Value} {h : gm_H} {r : gm_R × gm_H} {a0 a1 a2 a4 a5 a6 a7 : Value}  : gm_Go E d 57 80 [a0, a1, a2, .null, a4, a5, a6, a7] st h r ↔ gm_Go E d 57 81 [a0, a1, a2, .null, a4, a5, a6, a7] (.null :: st) h r := gr_loc m57 f57_80 rfl rfl
theorem f57_81 : gm_ft 57 81 = some (.aload 4, 2) := by decide +kernel
theorem r57_81 {E : Nat → Value} {d : Nat} {st : List Value} {h : gm_H} {r : gm_R × gm_H} {a0 a1 a2 a3 a5 a6 a7 : Value} {x : Nat} : gm_Go E d 57 81 [a0, a1, a2, a3, .ref x, a5, a6, a7] st h r ↔ gm_Go E d 57 83 [a0, a1, a2, a3, .ref x, a5, a6, a7] (.ref x :: st) h r := gr_loc m57 f57_81 rfl rfl
theorem r57_81n {E : Nat → Value} {d : Nat} {st : List Value} {h : gm_H} {r : gm_R × gm_H} {a0 a1 a2 a3 a5 a6 a7 : Value}  : gm_Go E d 57 81 [a0, a1, a2, a3, .null, a5, a6, a7] st h r ↔ gm_Go E d 57 83 [a0, a1, a2, a3, .null, a5, a6, a7] (.null :: st) h r := gr_loc m57 f57_81 rfl rfl
theorem f57_83 : gm_ft 57 83 = some (.getfield 147, 3) := by decide +kernel
theorem r57_83 {E : Nat → Value} {d : Nat} {st : List Value} {h : gm_H} {r : gm_R × gm_H} {lv : List Value} {a : Nat} {vs : List Value} {v : Value} (hr : gm_rd h a = some (4, vs)) (hv : vs[2]? = some v) : gm_Go E d 57 83 lv (.ref a :: st) h r ↔ gm_Go E d 57 86 lv (v :: st) h r := gr_rd m57 f57_83 rfl rfl rfl rfl (gf_get k0_147 hr hv)
theorem f57_86 : gm_ft 57 86 = some (.invokevirtual 270, 3) := by decide +kernel
theorem n57_86 {st : List Value} {h : gm_H} {E : Nat → Value} {lv : List Value} {b0 : Value} {a : Nat} (hs : (st.map fun v => v.category).sum ≤ 8) (he : (gm_en1 [.ref a, b0]).length ≤ 5) {vs : List Value} (hr : gm_rd h a = some (3, vs)) : gm_next E 57 86 lv (b0 :: .ref a :: st) h = some (.inr (.inl (0, 62, [.ref a, b0], st))) := gn_call m57 f57_86 rfl rfl rfl rfl rfl rfl rfl (gc_virt (bs := [b0]) (w := 542) rfl rfl rfl rfl hs he hr) (by decide)
theorem f57_89 : gm_ft 57 89 = some (.aload_n 0, 1) := by decide +kernel
theorem r57_89 {E : Nat → Value} {d : Nat} {st : List Value} {h : gm_H} {r : gm_R × gm_H} {a1 a2 a3 a4 a5 a6 a7 : Value} {x : Nat} : gm_Go E d 57 89 [.ref x, a1, a2, a3, a4, a5, a6, a7] st h r ↔ gm_Go E d 57 90 [.ref x, a1, a2, a3, a4, a5, a6, a7] (.ref x :: st) h r := gr_loc m57 f57_89 rfl rfl
theorem r57_89n {E : Nat → Value} {d : Nat} {st : List Value} {h : gm_H} {r : gm_R × gm_H} {a1 a2 a3 a4 a5 a6 a7 : Value}  : gm_Go E d 57 89 [.null, a1, a2, a3, a4, a5, a6, a7] st h r ↔ gm_Go E d 57 90 [.null, a1, a2, a3, a4, a5, a6, a7] (.null :: st) h r := gr_loc m57 f57_89 rfl rfl
theorem f57_90 : gm_ft 57 90 = some (.aload 4, 2) := by decide +kernel
theorem r57_90 {E : Nat → Value} {d : Nat} {st : List Value} {h : gm_H} {r : gm_R × gm_H} {a0 a1 a2 a3 a5 a6 a7 : Value} {x : Nat} : gm_Go E d 57 90 [a0, a1, a2, a3, .ref x, a5, a6, a7] st h r ↔ gm_Go E d 57 92 [a0, a1, a2, a3, .ref x, a5, a6, a7] (.ref x :: st) h r := gr_loc m57 f57_90 rfl rfl
theorem r57_90n {E : Nat → Value} {d : Nat} {st : List Value} {h : gm_H} {r : gm_R × gm_H} {a0 a1 a2 a3 a5 a6 a7 : Value}  : gm_Go E d 57 90 [a0, a1, a2, a3, .null, a5, a6, a7] st h r ↔ gm_Go E d 57 92 [a0, a1, a2, a3, .null, a5, a6, a7] (.null :: st) h r := gr_loc m57 f57_90 rfl rfl
theorem f57_92 : gm_ft 57 92 = some (.invokevirtual 231, 3) := by decide +kernel
theorem n57_92 {st : List Value} {h : gm_H} {E : Nat → Value} {lv : List Value} {b0 : Value} {a : Nat} (hs : (st.map fun v => v.category).sum ≤ 8) (he : (gm_en1 [.ref a, b0]).length ≤ 2) {vs : List Value} (hr : gm_rd h a = some (0, vs)) : gm_next E 57 92 lv (b0 :: .ref a :: st) h = some (.inr (.inl (0, 65, [.ref a, b0], st))) := gn_call m57 f57_92 rfl rfl rfl rfl rfl rfl rfl (gc_virt (bs := [b0]) (w := 555) rfl rfl rfl rfl hs he hr) (by decide)
theorem f57_95 : gm_ft 57 95 = some (.istore 5, 2) := by decide +kernel
theorem r57_95 {E : Nat → Value} {d : Nat} {st : List Value} {h : gm_H} {r : gm_R × gm_H} {a0 a1 a2 a3 a4 a5 a6 a7 : Value} {x : Int32} : gm_Go E d 57 95 [a0, a1, a2, a3, a4, a5, a6, a7] (.int x :: st) h r ↔ gm_Go E d 57 97 [a0, a1, a2, a3, gm_k a4, .int x, a6, a7] st h r := gr_loc m57 f57_95 rfl rfl
theorem f57_97 : gm_ft 57 97 = some (.aload_n 0, 1) := by decide +kernel
theorem r57_97 {E : Nat → Value} {d : Nat} {st : List Value} {h : gm_H} {r : gm_R × gm_H} {a1 a2 a3 a4 a5 a6 a7 : Value} {x : Nat} : gm_Go E d 57 97 [.ref x, a1, a2, a3, a4, a5, a6, a7] st h r ↔ gm_Go E d 57 98 [.ref x, a1, a2, a3, a4, a5, a6, a7] (.ref x :: st) h r := gr_loc m57 f57_97 rfl rfl
theorem r57_97n {E : Nat → Value} {d : Nat} {st : List Value} {h : gm_H} {r : gm_R × gm_H} {a1 a2 a3 a4 a5 a6 a7 : Value}  : gm_Go E d 57 97 [.null, a1, a2, a3, a4, a5, a6, a7] st h r ↔ gm_Go E d 57 98 [.null, a1, a2, a3, a4, a5, a6, a7] (.null :: st) h r := gr_loc m57 f57_97 rfl rfl
theorem f57_98 : gm_ft 57 98 = some (.aload_n 3, 1) := by decide +kernel
theorem r57_98 {E : Nat → Value} {d : Nat} {st : List Value} {h : gm_H} {r : gm_R × gm_H} {a0 a1 a2 a4 a5 a6 a7 : Value} {x : Nat} : gm_Go E d 57 98 [a0, a1, a2, .ref x, a4, a5, a6, a7] st h r ↔ gm_Go E d 57 99 [a0, a1, a2, .ref x, a4, a5, a6, a7] (.ref x :: st) h r := gr_loc m57 f57_98 rfl rfl
theorem r57_98n {E : Nat → Value} {d : Nat} {st : List Value} {h : gm_H} {r : gm_R × gm_H} {a0 a1 a2 a4 a5 a6 a7 : Value}  : gm_Go E d 57 98 [a0, a1, a2, .null, a4, a5, a6, a7] st h r ↔ gm_Go E d 57 99 [a0, a1, a2, .null, a4, a5, a6, a7] (.null :: st) h r := gr_loc m57 f57_98 rfl rfl
theorem f57_99 : gm_ft 57 99 = some (.getfield 54, 3) := by decide +kernel
theorem r57_99 {E : Nat → Value} {d : Nat} {st : List Value} {h : gm_H} {r : gm_R × gm_H} {lv : List Value} {a : Nat} {vs : List Value} {v : Value} (hr : gm_rd h a = some (3, vs)) (hv : vs[1]? = some v) : gm_Go E d 57 99 lv (.ref a :: st) h r ↔ gm_Go E d 57 102 lv (v :: st) h r := gr_rd m57 f57_99 rfl rfl rfl rfl (gf_get k0_54 hr hv)
theorem f57_102 : gm_ft 57 102 = some (.iconst 4, 1) := by decide +kernel
theorem r57_102 {E : Nat → Value} {d : Nat} {st : List Value} {h : gm_H} {r : gm_R × gm_H} {lv : List Value} : gm_Go E d 57 102 lv st h r ↔ gm_Go E d 57 103 lv (.int (4 : Int32) :: st) h r := gr_pure m57 f57_102 rfl
theorem f57_103 : gm_ft 57 103 = some (.if_icmp .ne 8, 3) := by decide +kernel
theorem r57_103 {E : Nat → Value} {d : Nat} {st : List Value} {h : gm_H} {r : gm_R × gm_H} {lv : List Value} {x y : Int32} : gm_Go E d 57 103 lv (.int y :: .int x :: st) h r ↔ (if x = y then gm_Go E d 57 106 lv st h r else gm_Go E d 57 111 lv st h r) := (gr_br m57 f57_103 rfl rfl rfl rfl).trans gr_ifn
theorem f57_106 : gm_ft 57 106 = some (.bipush (-2), 2) := by decide +kernel
theorem r57_106 {E : Nat → Value} {d : Nat} {st : List Value} {h : gm_H} {r : gm_R × gm_H} {lv : List Value} : gm_Go E d 57 106 lv st h r ↔ gm_Go E d 57 108 lv (.int (-2 : Int32) :: st) h r := gr_pure m57 f57_106 rfl
theorem f57_108 : gm_ft 57 108 = some (.goto 5, 3) := by decide +kernel
theorem r57_108 {E : Nat → Value} {d : Nat} {st : List Value} {h : gm_H} {r : gm_R × gm_H} {lv : List Value} : gm_Go E d 57 108 lv st h r ↔ gm_Go E d 57 113 lv st h r := gr_brT m57 f57_108 rfl rfl rfl rfl
theorem f57_111 : gm_ft 57 111 = some (.iload 5, 2) := by decide +kernel
theorem r57_111 {E : Nat → Value} {d : Nat} {st : List Value} {h : gm_H} {r : gm_R × gm_H} {a0 a1 a2 a3 a4 a6 a7 : Value} {x : Int32} : gm_Go E d 57 111 [a0, a1, a2, a3, a4, .int x, a6, a7] st h r ↔ gm_Go E d 57 113 [a0, a1, a2, a3, a4, .int x, a6, a7] (.int x :: st) h r := gr_loc m57 f57_111 rfl rfl
theorem f57_113 : gm_ft 57 113 = some (.invokevirtual 222, 3) := by decide +kernel
theorem n57_113 {st : List Value} {h : gm_H} {E : Nat → Value} {lv : List Value} {b0 : Value} {a : Nat} (hs : (st.map fun v => v.category).sum ≤ 8) (he : (gm_en1 [.ref a, b0]).length ≤ 2) {vs : List Value} (hr : gm_rd h a = some (0, vs)) : gm_next E 57 113 lv (b0 :: .ref a :: st) h = some (.inr (.inl (0, 32, [.ref a, b0], st))) := gn_call m57 f57_113 rfl rfl rfl rfl rfl rfl rfl (gc_virt (bs := [b0]) (w := 348) rfl rfl rfl rfl hs he hr) (by decide)
theorem f57_116 : gm_ft 57 116 = some (.istore 6, 2) := by decide +kernel
theorem r57_116 {E : Nat → Value} {d : Nat} {st : List Value} {h : gm_H} {r : gm_R × gm_H} {a0 a1 a2 a3 a4 a5 a6 a7 : Value} {x : Int32} : gm_Go E d 57 116 [a0, a1, a2, a3, a4, a5, a6, a7] (.int x :: st) h r ↔ gm_Go E d 57 118 [a0, a1, a2, a3, a4, gm_k a5, .int x, a7] st h r := gr_loc m57 f57_116 rfl rfl
theorem f57_118 : gm_ft 57 118 = some (.aload_n 2, 1) := by decide +kernel
theorem r57_118 {E : Nat → Value} {d : Nat} {st : List Value} {h : gm_H} {r : gm_R × gm_H} {a0 a1 a3 a4 a5 a6 a7 : Value} {x : Nat} : gm_Go E d 57 118 [a0, a1, .ref x, a3, a4, a5, a6, a7] st h r ↔ gm_Go E d 57 119 [a0, a1, .ref x, a3, a4, a5, a6, a7] (.ref x :: st) h r := gr_loc m57 f57_118 rfl rfl
theorem r57_118n {E : Nat → Value} {d : Nat} {st : List Value} {h : gm_H} {r : gm_R × gm_H} {a0 a1 a3 a4 a5 a6 a7 : Value}  : gm_Go E d 57 118 [a0, a1, .null, a3, a4, a5, a6, a7] st h r ↔ gm_Go E d 57 119 [a0, a1, .null, a3, a4, a5, a6, a7] (.null :: st) h r := gr_loc m57 f57_118 rfl rfl
theorem f57_119 : gm_ft 57 119 = some (.getfield 274, 3) := by decide +kernel
theorem r57_119 {E : Nat → Value} {d : Nat} {st : List Value} {h : gm_H} {r : gm_R × gm_H} {lv : List Value} {a : Nat} {vs : List Value} {v : Value} (hr : gm_rd h a = some (1, vs)) (hv : vs[8]? = some v) : gm_Go E d 57 119 lv (.ref a :: st) h r ↔ gm_Go E d 57 122 lv (v :: st) h r := gr_rd m57 f57_119 rfl rfl rfl rfl (gf_get k0_274 hr hv)
theorem f57_122 : gm_ft 57 122 = some (.istore 7, 2) := by decide +kernel
theorem r57_122 {E : Nat → Value} {d : Nat} {st : List Value} {h : gm_H} {r : gm_R × gm_H} {a0 a1 a2 a3 a4 a5 a6 a7 : Value} {x : Int32} : gm_Go E d 57 122 [a0, a1, a2, a3, a4, a5, a6, a7] (.int x :: st) h r ↔ gm_Go E d 57 124 [a0, a1, a2, a3, a4, a5, gm_k a6, .int x] st h r := gr_loc m57 f57_122 rfl rfl
theorem f57_124 : gm_ft 57 124 = some (.iload 7, 2) := by decide +kernel
theorem r57_124 {E : Nat → Value} {d : Nat} {st : List Value} {h : gm_H} {r : gm_R × gm_H} {a0 a1 a2 a3 a4 a5 a6 : Value} {x : Int32} : gm_Go E d 57 124 [a0, a1, a2, a3, a4, a5, a6, .int x] st h r ↔ gm_Go E d 57 126 [a0, a1, a2, a3, a4, a5, a6, .int x] (.int x :: st) h r := gr_loc m57 f57_124 rfl rfl
theorem f57_126 : gm_ft 57 126 = some (.ifCond .lt 22, 3) := by decide +kernel
theorem r57_126 {E : Nat → Value} {d : Nat} {st : List Value} {h : gm_H} {r : gm_R × gm_H} {lv : List Value} {x : Int32} : gm_Go E d 57 126 lv (.int x :: st) h r ↔ (if x < 0 then gm_Go E d 57 148 lv st h r else gm_Go E d 57 129 lv st h r) := (gr_br m57 f57_126 rfl rfl rfl rfl).trans gr_if
theorem f57_129 : gm_ft 57 129 = some (.aload_n 0, 1) := by decide +kernel
theorem r57_129 {E : Nat → Value} {d : Nat} {st : List Value} {h : gm_H} {r : gm_R × gm_H} {a1 a2 a3 a4 a5 a6 a7 : Value} {x : Nat} : gm_Go E d 57 129 [.ref x, a1, a2, a3, a4, a5, a6, a7] st h r ↔ gm_Go E d 57 130 [.ref x, a1, a2, a3, a4, a5, a6, a7] (.ref x :: st) h r := gr_loc m57 f57_129 rfl rfl
theorem r57_129n {E : Nat → Value} {d : Nat} {st : List Value} {h : gm_H} {r : gm_R × gm_H} {a1 a2 a3 a4 a5 a6 a7 : Value}  : gm_Go E d 57 129 [.null, a1, a2, a3, a4, a5, a6, a7] st h r ↔ gm_Go E d 57 130 [.null, a1, a2, a3, a4, a5, a6, a7] (.null :: st) h r := gr_loc m57 f57_129 rfl rfl
theorem f57_130 : gm_ft 57 130 = some (.aload_n 2, 1) := by decide +kernel
theorem r57_130 {E : Nat → Value} {d : Nat} {st : List Value} {h : gm_H} {r : gm_R × gm_H} {a0 a1 a3 a4 a5 a6 a7 : Value} {x : Nat} : gm_Go E d 57 130 [a0, a1, .ref x, a3, a4, a5, a6, a7] st h r ↔ gm_Go E d 57 131 [a0, a1, .ref x, a3, a4, a5, a6, a7] (.ref x :: st) h r := gr_loc m57 f57_130 rfl rfl
theorem r57_130n {E : Nat → Value} {d : Nat} {st : List Value} {h : gm_H} {r : gm_R × gm_H} {a0 a1 a3 a4 a5 a6 a7 : Value}  : gm_Go E d 57 130 [a0, a1, .null, a3, a4, a5, a6, a7] st h r ↔ gm_Go E d 57 131 [a0, a1, .null, a3, a4, a5, a6, a7] (.null :: st) h r := gr_loc m57 f57_130 rfl rfl
theorem f57_131 : gm_ft 57 131 = some (.iload 7, 2) := by decide +kernel
theorem r57_131 {E : Nat → Value} {d : Nat} {st : List Value} {h : gm_H} {r : gm_R × gm_H} {a0 a1 a2 a3 a4 a5 a6 : Value} {x : Int32} : gm_Go E d 57 131 [a0, a1, a2, a3, a4, a5, a6, .int x] st h r ↔ gm_Go E d 57 133 [a0, a1, a2, a3, a4, a5, a6, .int x] (.int x :: st) h r := gr_loc m57 f57_131 rfl rfl
theorem f57_133 : gm_ft 57 133 = some (.invokevirtual 277, 3) := by decide +kernel
theorem n57_133 {st : List Value} {h : gm_H} {E : Nat → Value} {lv : List Value} {b0 : Value} {a : Nat} (hs : (st.map fun v => v.category).sum ≤ 8) (he : (gm_en1 [.ref a, b0]).length ≤ 4) {vs : List Value} (hr : gm_rd h a = some (1, vs)) : gm_next E 57 133 lv (b0 :: .ref a :: st) h = some (.inr (.inl (0, 66, [.ref a, b0], st))) := gn_call m57 f57_133 rfl rfl rfl rfl rfl rfl rfl (gc_virt (bs := [b0]) (w := 559) rfl rfl rfl rfl hs he hr) (by decide)
theorem f57_136 : gm_ft 57 136 = some (.aload 4, 2) := by decide +kernel
theorem r57_136 {E : Nat → Value} {d : Nat} {st : List Value} {h : gm_H} {r : gm_R × gm_H} {a0 a1 a2 a3 a5 a6 a7 : Value} {x : Nat} : gm_Go E d 57 136 [a0, a1, a2, a3, .ref x, a5, a6, a7] st h r ↔ gm_Go E d 57 138 [a0, a1, a2, a3, .ref x, a5, a6, a7] (.ref x :: st) h r := gr_loc m57 f57_136 rfl rfl
theorem r57_136n {E : Nat → Value} {d : Nat} {st : List Value} {h : gm_H} {r : gm_R × gm_H} {a0 a1 a2 a3 a5 a6 a7 : Value}  : gm_Go E d 57 136 [a0, a1, a2, a3, .null, a5, a6, a7] st h r ↔ gm_Go E d 57 138 [a0, a1, a2, a3, .null, a5, a6, a7] (.null :: st) h r := gr_loc m57 f57_136 rfl rfl
theorem f57_138 : gm_ft 57 138 = some (.iload_n 1, 1) := by decide +kernel
theorem r57_138 {E : Nat → Value} {d : Nat} {st : List Value} {h : gm_H} {r : gm_R × gm_H} {a0 a2 a3 a4 a5 a6 a7 : Value} {x : Int32} : gm_Go E d 57 138 [a0, .int x, a2, a3, a4, a5, a6, a7] st h r ↔ gm_Go E d 57 139 [a0, .int x, a2, a3, a4, a5, a6, a7] (.int x :: st) h r := gr_loc m57 f57_138 rfl rfl
theorem f57_139 : gm_ft 57 139 = some (.invokevirtual 280, 3) := by decide +kernel
theorem n57_139 {st : List Value} {h : gm_H} {E : Nat → Value} {lv : List Value} {b0 b1 b2 : Value} {a : Nat} (hs : (st.map fun v => v.category).sum ≤ 8) (he : (gm_en1 [.ref a, b0, b1, b2]).length ≤ 10) {vs : List Value} (hr : gm_rd h a = some (0, vs)) : gm_next E 57 139 lv (b2 :: b1 :: b0 :: .ref a :: st) h = some (.inr (.inl (0, 67, [.ref a, b0, b1, b2], st))) := gn_call m57 f57_139 rfl rfl rfl rfl rfl rfl rfl (gc_virt (bs := [b2, b1, b0]) (w := 563) rfl rfl rfl rfl hs he hr) (by decide)
theorem f57_142 : gm_ft 57 142 = some (.iinc 7 (-1), 3) := by decide +kernel
theorem r57_142 {E : Nat → Value} {d : Nat} {st : List Value} {h : gm_H} {r : gm_R × gm_H} {a0 a1 a2 a3 a4 a5 a6 : Value} {x : Int32} : gm_Go E d 57 142 [a0, a1, a2, a3, a4, a5, a6, .int x] st h r ↔ gm_Go E d 57 145 [a0, a1, a2, a3, a4, a5, gm_k a6, .int (x + (-1 : Int32))] st h r := gr_loc m57 f57_142 rfl rfl
theorem f57_145 : gm_ft 57 145 = some (.goto (-21), 3) := by decide +kernel
theorem r57_145 {E : Nat → Value} {d : Nat} {st : List Value} {h : gm_H} {r : gm_R × gm_H} {lv : List Value} : gm_Go E d 57 145 lv st h r ↔ gm_Go E d 57 124 lv st h r := gr_brT m57 f57_145 rfl rfl rfl rfl
theorem f57_148 : gm_ft 57 148 = some (.aload_n 3, 1) := by decide +kernel
theorem r57_148 {E : Nat → Value} {d : Nat} {st : List Value} {h : gm_H} {r : gm_R × gm_H} {a0 a1 a2 a4 a5 a6 a7 : Value} {x : Nat} : gm_Go E d 57 148 [a0, a1, a2, .ref x, a4, a5, a6, a7] st h r ↔ gm_Go E d 57 149 [a0, a1, a2, .ref x, a4, a5, a6, a7] (.ref x :: st) h r := gr_loc m57 f57_148 rfl rfl
theorem r57_148n {E : Nat → Value} {d : Nat} {st : List Value} {h : gm_H} {r : gm_R × gm_H} {a0 a1 a2 a4 a5 a6 a7 : Value}  : gm_Go E d 57 148 [a0, a1, a2, .null, a4, a5, a6, a7] st h r ↔ gm_Go E d 57 149 [a0, a1, a2, .null, a4, a5, a6, a7] (.null :: st) h r := gr_loc m57 f57_148 rfl rfl
theorem f57_149 : gm_ft 57 149 = some (.getfield 54, 3) := by decide +kernel
theorem r57_149 {E : Nat → Value} {d : Nat} {st : List Value} {h : gm_H} {r : gm_R × gm_H} {lv : List Value} {a : Nat} {vs : List Value} {v : Value} (hr : gm_rd h a = some (3, vs)) (hv : vs[1]? = some v) : gm_Go E d 57 149 lv (.ref a :: st) h r ↔ gm_Go E d 57 152 lv (v :: st) h r := gr_rd m57 f57_149 rfl rfl rfl rfl (gf_get k0_54 hr hv)
theorem f57_152 : gm_ft 57 152 = some (.iconst 4, 1) := by decide +kernel
theorem r57_152 {E : Nat → Value} {d : Nat} {st : List Value} {h : gm_H} {r : gm_R × gm_H} {lv : List Value} : gm_Go E d 57 152 lv st h r ↔ gm_Go E d 57 153 lv (.int (4 : Int32) :: st) h r := gr_pure m57 f57_152 rfl
theorem f57_153 : gm_ft 57 153 = some (.if_icmp .ne 18, 3) := by decide +kernel
theorem r57_153 {E : Nat → Value} {d : Nat} {st : List Value} {h : gm_H} {r : gm_R × gm_H} {lv : List Value} {x y : Int32} : gm_Go E d 57 153 lv (.int y :: .int x :: st) h r ↔ (if x = y then gm_Go E d 57 156 lv st h r else gm_Go E d 57 171 lv st h r) := (gr_br m57 f57_153 rfl rfl rfl rfl).trans gr_ifn
theorem f57_156 : gm_ft 57 156 = some (.aload 4, 2) := by decide +kernel
theorem r57_156 {E : Nat → Value} {d : Nat} {st : List Value} {h : gm_H} {r : gm_R × gm_H} {a0 a1 a2 a3 a5 a6 a7 : Value} {x : Nat} : gm_Go E d 57 156 [a0, a1, a2, a3, .ref x, a5, a6, a7] st h r ↔ gm_Go E d 57 158 [a0, a1, a2, a3, .ref x, a5, a6, a7] (.ref x :: st) h r := gr_loc m57 f57_156 rfl rfl
theorem r57_156n {E : Nat → Value} {d : Nat} {st : List Value} {h : gm_H} {r : gm_R × gm_H} {a0 a1 a2 a3 a5 a6 a7 : Value}  : gm_Go E d 57 156 [a0, a1, a2, a3, .null, a5, a6, a7] st h r ↔ gm_Go E d 57 158 [a0, a1, a2, a3, .null, a5, a6, a7] (.null :: st) h r := gr_loc m57 f57_156 rfl rfl
theorem f57_158 : gm_ft 57 158 = some (.invokestatic 284, 3) := by decide +kernel
theorem n57_158 {st : List Value} {h : gm_H} {E : Nat → Value} {lv : List Value} {b0 : Value} (hs : (st.map fun v => v.category).sum ≤ 8) (he : (gm_en1 [b0]).length ≤ 1) : gm_next E 57 158 lv (b0 :: st) h = some (.inr (.inl (1, 73, [b0], st))) := gn_call m57 f57_158 rfl rfl rfl rfl rfl rfl rfl (gc_stat (bs := [b0]) (w := 590) rfl rfl rfl hs he) (by decide)
theorem f57_161 : gm_ft 57 161 = some (.ifCond .ne 10, 3) := by decide +kernel
theorem r57_161 {E : Nat → Value} {d : Nat} {st : List Value} {h : gm_H} {r : gm_R × gm_H} {lv : List Value} {x : Int32} : gm_Go E d 57 161 lv (.int x :: st) h r ↔ (if x = 0 then gm_Go E d 57 164 lv st h r else gm_Go E d 57 171 lv st h r) := (gr_br m57 f57_161 rfl rfl rfl rfl).trans gr_ifn
theorem f57_164 : gm_ft 57 164 = some (.aload_n 0, 1) := by decide +kernel
theorem r57_164 {E : Nat → Value} {d : Nat} {st : List Value} {h : gm_H} {r : gm_R × gm_H} {a1 a2 a3 a4 a5 a6 a7 : Value} {x : Nat} : gm_Go E d 57 164 [.ref x, a1, a2, a3, a4, a5, a6, a7] st h r ↔ gm_Go E d 57 165 [.ref x, a1, a2, a3, a4, a5, a6, a7] (.ref x :: st) h r := gr_loc m57 f57_164 rfl rfl
theorem r57_164n {E : Nat → Value} {d : Nat} {st : List Value} {h : gm_H} {r : gm_R × gm_H} {a1 a2 a3 a4 a5 a6 a7 : Value}  : gm_Go E d 57 164 [.null, a1, a2, a3, a4, a5, a6, a7] st h r ↔ gm_Go E d 57 165 [.null, a1, a2, a3, a4, a5, a6, a7] (.null :: st) h r := gr_loc m57 f57_164 rfl rfl
theorem f57_165 : gm_ft 57 165 = some (.bipush (-6), 2) := by decide +kernel
theorem r57_165 {E : Nat → Value} {d : Nat} {st : List Value} {h : gm_H} {r : gm_R × gm_H} {lv : List Value} : gm_Go E d 57 165 lv st h r ↔ gm_Go E d 57 167 lv (.int (-6 : Int32) :: st) h r := gr_pure m57 f57_165 rfl
theorem f57_167 : gm_ft 57 167 = some (.invokevirtual 160, 3) := by decide +kernel
theorem n57_167 {st : List Value} {h : gm_H} {E : Nat → Value} {lv : List Value} {b0 : Value} {a : Nat} (hs : (st.map fun v => v.category).sum ≤ 8) (he : (gm_en1 [.ref a, b0]).length ≤ 2) {vs : List Value} (hr : gm_rd h a = some (0, vs)) : gm_next E 57 167 lv (b0 :: .ref a :: st) h = some (.inr (.inl (0, 22, [.ref a, b0], st))) := gn_call m57 f57_167 rfl rfl rfl rfl rfl rfl rfl (gc_virt (bs := [b0]) (w := 206) rfl rfl rfl rfl hs he hr) (by decide)
theorem f57_170 : gm_ft 57 170 = some (.ireturn, 1) := by decide +kernel
theorem r57_170 {E : Nat → Value} {d : Nat} {h : gm_H} {r : gm_R × gm_H} {lv : List Value} {x : Int32} : gm_Go E d 57 170 lv [.int x] h r ↔ r = (.inl (some (.int x)), h) := gr_ret m57 f57_170 rfl rfl rfl rfl rfl rfl rfl rfl (by unfold gm_rt; dsimp only; rw [if_pos ⟨rfl, rfl⟩])
theorem f57_171 : gm_ft 57 171 = some (.aload_n 0, 1) := by decide +kernel
theorem r57_171 {E : Nat → Value} {d : Nat} {st : List Value} {h : gm_H} {r : gm_R × gm_H} {a1 a2 a3 a4 a5 a6 a7 : Value} {x : Nat} : gm_Go E d 57 171 [.ref x, a1, a2, a3, a4, a5, a6, a7] st h r ↔ gm_Go E d 57 172 [.ref x, a1, a2, a3, a4, a5, a6, a7] (.ref x :: st) h r := gr_loc m57 f57_171 rfl rfl
theorem r57_171n {E : Nat → Value} {d : Nat} {st : List Value} {h : gm_H} {r : gm_R × gm_H} {a1 a2 a3 a4 a5 a6 a7 : Value}  : gm_Go E d 57 171 [.null, a1, a2, a3, a4, a5, a6, a7] st h r ↔ gm_Go E d 57 172 [.null, a1, a2, a3, a4, a5, a6, a7] (.null :: st) h r := gr_loc m57 f57_171 rfl rfl
theorem f57_172 : gm_ft 57 172 = some (.getfield 28, 3) := by decide +kernel
theorem r57_172 {E : Nat → Value} {d : Nat} {st : List Value} {h : gm_H} {r : gm_R × gm_H} {lv : List Value} {a : Nat} {vs : List Value} {v : Value} (hr : gm_rd h a = some (0, vs)) (hv : vs[10]? = some v) : gm_Go E d 57 172 lv (.ref a :: st) h r ↔ gm_Go E d 57 175 lv (v :: st) h r := gr_rd m57 f57_172 rfl rfl rfl rfl (gf_get k0_28 hr hv)
theorem f57_175 : gm_ft 57 175 = some (.getfield 215, 3) := by decide +kernel
theorem r57_175 {E : Nat → Value} {d : Nat} {st : List Value} {h : gm_H} {r : gm_R × gm_H} {lv : List Value} {a : Nat} {vs : List Value} {v : Value} (hr : gm_rd h a = some (2, vs)) (hv : vs[0]? = some v) : gm_Go E d 57 175 lv (.ref a :: st) h r ↔ gm_Go E d 57 178 lv (v :: st) h r := gr_rd m57 f57_175 rfl rfl rfl rfl (gf_get k0_215 hr hv)
theorem f57_178 : gm_ft 57 178 = some (.iload 6, 2) := by decide +kernel
theorem r57_178 {E : Nat → Value} {d : Nat} {st : List Value} {h : gm_H} {r : gm_R × gm_H} {a0 a1 a2 a3 a4 a5 a7 : Value} {x : Int32} : gm_Go E d 57 178 [a0, a1, a2, a3, a4, a5, .int x, a7] st h r ↔ gm_Go E d 57 180 [a0, a1, a2, a3, a4, a5, .int x, a7] (.int x :: st) h r := gr_loc m57 f57_178 rfl rfl
theorem f57_180 : gm_ft 57 180 = some (.iload 5, 2) := by decide +kernel
theorem r57_180 {E : Nat → Value} {d : Nat} {st : List Value} {h : gm_H} {r : gm_R × gm_H} {a0 a1 a2 a3 a4 a6 a7 : Value} {x : Int32} : gm_Go E d 57 180 [a0, a1, a2, a3, a4, .int x, a6, a7] st h r ↔ gm_Go E d 57 182 [a0, a1, a2, a3, a4, .int x, a6, a7] (.int x :: st) h r := gr_loc m57 f57_180 rfl rfl
theorem f57_182 : gm_ft 57 182 = some (.iastore, 1) := by decide +kernel
theorem r57_182 {E : Nat → Value} {d : Nat} {st : List Value} {h : gm_H} {r : gm_R × gm_H} {lv : List Value} {a k j : Nat} {vs : List Value} {x : Int32} (hr : gm_rd h a = some (k, vs)) (hk : 100 ≤ k ∧ k % 100 = 0 ∧ gm_ko k = 1 ∧ 1 < 3) (hj : j < 2 ^ 31) (hl : j < vs.length) : gm_Go E d 57 182 lv (.int x :: .int (nI j) :: .ref a :: st) h r ↔ gm_Go E d 57 183 lv st (gm_wr h a (k, vs.set j (.int x))) r := gr_wr m57 f57_182 rfl rfl rfl rfl rfl (ga_st hr hk hj hl)
theorem f57_183 : gm_ft 57 183 = some (.iload 5, 2) := by decide +kernel
theorem r57_183 {E : Nat → Value} {d : Nat} {st : List Value} {h : gm_H} {r : gm_R × gm_H} {a0 a1 a2 a3 a4 a6 a7 : Value} {x : Int32} : gm_Go E d 57 183 [a0, a1, a2, a3, a4, .int x, a6, a7] st h r ↔ gm_Go E d 57 185 [a0, a1, a2, a3, a4, .int x, a6, a7] (.int x :: st) h r := gr_loc m57 f57_183 rfl rfl
theorem f57_185 : gm_ft 57 185 = some (.ireturn, 1) := by decide +kernel
theorem r57_185 {E : Nat → Value} {d : Nat} {h : gm_H} {r : gm_R × gm_H} {lv : List Value} {x : Int32} : gm_Go E d 57 185 lv [.int x] h r ↔ r = (.inl (some (.int x)), h) := gr_ret m57 f57_185 rfl rfl rfl rfl rfl rfl rfl rfl (by unfold gm_rt; dsimp only; rw [if_pos ⟨rfl, rfl⟩])
/-! GraphReader.readPresentDescriptor(I)LGraphReader$Descriptor; -/
theorem m58 : gm_mt[58]? = some (⟨"GraphReader", "readPresentDescriptor", "(I)LGraphReader$Descriptor;"⟩, prog_1_method_46_code, 3, (some (.object "GraphReader$Descriptor")), [], 0, 1) := rfl
theorem f58_0 : gm_ft 58 0 = some (.aload_n 0, 1) := by decide +kernel
theorem r58_0 {E : Nat → Value} {d : Nat} {st : List Value} {h : gm_H} {r : gm_R × gm_H} {a1 a2 : Value} {x : Nat} : gm_Go E d 58 0 [.ref x, a1, a2] st h r ↔ gm_Go E d 58 1 [.ref x, a1, a2] (.ref x :: st) h r := gr_loc m58 f58_0 rfl rfl
theorem r58_0n {E : Nat → Value} {d : Nat} {st : List Value} {h : gm_H} {r : gm_R × gm_H} {a1 a2 : Value}  : gm_Go E d 58 0 [.null, a1, a2] st h r ↔ gm_Go E d 58 1 [.null, a1, a2] (.null :: st) h r := gr_loc m58 f58_0 rfl rfl
theorem f58_1 : gm_ft 58 1 = some (.iload_n 1, 1) := by decide +kernel
theorem r58_1 {E : Nat → Value} {d : Nat} {st : List Value} {h : gm_H} {r : gm_R × gm_H} {a0 a2 : Value} {x : Int32} : gm_Go E d 58 1 [a0, .int x, a2] st h r ↔ gm_Go E d 58 2 [a0, .int x, a2] (.int x :: st) h r := gr_loc m58 f58_1 rfl rfl
theorem f58_2 : gm_ft 58 2 = some (.iconst 1, 1) := by decide +kernel
theorem r58_2 {E : Nat → Value} {d : Nat} {st : List Value} {h : gm_H} {r : gm_R × gm_H} {lv : List Value} : gm_Go E d 58 2 lv st h r ↔ gm_Go E d 58 3 lv (.int (1 : Int32) :: st) h r := gr_pure m58 f58_2 rfl
theorem f58_3 : gm_ft 58 3 = some (.invokevirtual 198, 3) := by decide +kernel
theorem n58_3 {st : List Value} {h : gm_H} {E : Nat → Value} {lv : List Value} {b0 b1 : Value} {a : Nat} (hs : (st.map fun v => v.category).sum ≤ 8) (he : (gm_en1 [.ref a, b0, b1]).length ≤ 8) {vs : List Value} (hr : gm_rd h a = some (0, vs)) : gm_next E 58 3 lv (b1 :: b0 :: .ref a :: st) h = some (.inr (.inl (0, 29, [.ref a, b0, b1], st))) := gn_call m58 f58_3 rfl rfl rfl rfl rfl rfl rfl (gc_virt (bs := [b1, b0]) (w := 295) rfl rfl rfl rfl hs he hr) (by decide)
theorem f58_6 : gm_ft 58 6 = some (.astore_n 2, 1) := by decide +kernel
theorem r58_6 {E : Nat → Value} {d : Nat} {st : List Value} {h : gm_H} {r : gm_R × gm_H} {a0 a1 a2 : Value} {x : Nat} : gm_Go E d 58 6 [a0, a1, a2] (.ref x :: st) h r ↔ gm_Go E d 58 7 [a0, gm_k a1, .ref x] st h r := gr_loc m58 f58_6 rfl rfl
theorem r58_6n {E : Nat → Value} {d : Nat} {st : List Value} {h : gm_H} {r : gm_R × gm_H} {a0 a1 a2 : Value}  : gm_Go E d 58 6 [a0, a1, a2] (.null :: st) h r ↔ gm_Go E d 58 7 [a0, gm_k a1, .null] st h r := gr_loc m58 f58_6 rfl rfl
theorem f58_7 : gm_ft 58 7 = some (.aload_n 2, 1) := by decide +kernel
theorem r58_7 {E : Nat → Value} {d : Nat} {st : List Value} {h : gm_H} {r : gm_R × gm_H} {a0 a1 : Value} {x : Nat} : gm_Go E d 58 7 [a0, a1, .ref x] st h r ↔ gm_Go E d 58 8 [a0, a1, .ref x] (.ref x :: st) h r := gr_loc m58 f58_7 rfl rfl
theorem r58_7n {E : Nat → Value} {d : Nat} {st : List Value} {h : gm_H} {r : gm_R × gm_H} {a0 a1 : Value}  : gm_Go E d 58 7 [a0, a1, .null] st h r ↔ gm_Go E d 58 8 [a0, a1, .null] (.null :: st) h r := gr_loc m58 f58_7 rfl rfl
theorem f58_8 : gm_ft 58 8 = some (.ifnonnull 10, 3) := by decide +kernel
theorem r58_8n {E : Nat → Value} {d : Nat} {st : List Value} {h : gm_H} {r : gm_R × gm_H} {lv : List Value} : gm_Go E d 58 8 lv (.null :: st) h r ↔ gm_Go E d 58 11 lv st h r := gr_brF m58 f58_8 rfl rfl rfl rfl
theorem r58_8 {E : Nat → Value} {d : Nat} {st : List Value} {h : gm_H} {r : gm_R × gm_H} {lv : List Value} {a : Nat} : gm_Go E d 58 8 lv (.ref a :: st) h r ↔ gm_Go E d 58 18 lv st h r := gr_brT m58 f58_8 rfl rfl rfl rfl
theorem f58_11 : gm_ft 58 11 = some (.aload_n 0, 1) := by decide +kernel
theorem r58_11 {E : Nat → Value} {d : Nat} {st : List Value} {h : gm_H} {r : gm_R × gm_H} {a1 a2 : Value} {x : Nat} : gm_Go E d 58 11 [.ref x, a1, a2] st h r ↔ gm_Go E d 58 12 [.ref x, a1, a2] (.ref x :: st) h r := gr_loc m58 f58_11 rfl rfl
theorem r58_11n {E : Nat → Value} {d : Nat} {st : List Value} {h : gm_H} {r : gm_R × gm_H} {a1 a2 : Value}  : gm_Go E d 58 11 [.null, a1, a2] st h r ↔ gm_Go E d 58 12 [.null, a1, a2] (.null :: st) h r := gr_loc m58 f58_11 rfl rfl
theorem f58_12 : gm_ft 58 12 = some (.bipush (-4), 2) := by decide +kernel
theorem r58_12 {E : Nat → Value} {d : Nat} {st : List Value} {h : gm_H} {r : gm_R × gm_H} {lv : List Value} : gm_Go E d 58 12 lv st h r ↔ gm_Go E d 58 14 lv (.int (-4 : Int32) :: st) h r := gr_pure m58 f58_12 rfl
theorem f58_14 : gm_ft 58 14 = some (.invokevirtual 160, 3) := by decide +kernel
theorem n58_14 {st : List Value} {h : gm_H} {E : Nat → Value} {lv : List Value} {b0 : Value} {a : Nat} (hs : (st.map fun v => v.category).sum ≤ 8) (he : (gm_en1 [.ref a, b0]).length ≤ 2) {vs : List Value} (hr : gm_rd h a = some (0, vs)) : gm_next E 58 14 lv (b0 :: .ref a :: st) h = some (.inr (.inl (0, 22, [.ref a, b0], st))) := gn_call m58 f58_14 rfl rfl rfl rfl rfl rfl rfl (gc_virt (bs := [b0]) (w := 206) rfl rfl rfl rfl hs he hr) (by decide)
theorem f58_17 : gm_ft 58 17 = some (.pop, 1) := by decide +kernel
theorem r58_17 {E : Nat → Value} {d : Nat} {st : List Value} {h : gm_H} {r : gm_R × gm_H} {lv : List Value} {x : Int32} : gm_Go E d 58 17 lv (.int x :: st) h r ↔ gm_Go E d 58 18 lv st h r := gr_pure m58 f58_17 rfl
theorem r58_17a {E : Nat → Value} {d : Nat} {st : List Value} {h : gm_H} {r : gm_R × gm_H} {lv : List Value} {a : Nat} : gm_Go E d 58 17 lv (.ref a :: st) h r ↔ gm_Go E d 58 18 lv st h r := gr_pure m58 f58_17 rfl
theorem r58_17n {E : Nat → Value} {d : Nat} {st : List Value} {h : gm_H} {r : gm_R × gm_H} {lv : List Value} : gm_Go E d 58 17 lv (.null :: st) h r ↔ gm_Go E d 58 18 lv st h r := gr_pure m58 f58_17 rfl
theorem f58_18 : gm_ft 58 18 = some (.aload_n 2, 1) := by decide +kernel
theorem r58_18 {E : Nat → Value} {d : Nat} {st : List Value} {h : gm_H} {r : gm_R × gm_H} {a0 a1 : Value} {x : Nat} : gm_Go E d 58 18 [a0, a1, .ref x] st h r ↔ gm_Go E d 58 19 [a0, a1, .ref x] (.ref x :: st) h r := gr_loc m58 f58_18 rfl rfl
theorem r58_18n {E : Nat → Value} {d : Nat} {st : List Value} {h : gm_H} {r : gm_R × gm_H} {a0 a1 : Value}  : gm_Go E d 58 18 [a0, a1, .null] st h r ↔ gm_Go E d 58 19 [a0, a1, .null] (.null :: st) h r := gr_loc m58 f58_18 rfl rfl
theorem f58_19 : gm_ft 58 19 = some (.areturn, 1) := by decide +kernel
theorem r58_19 {E : Nat → Value} {d : Nat} {h : gm_H} {r : gm_R × gm_H} {lv : List Value} {a : Nat} : gm_Go E d 58 19 lv [.ref a] h r ↔ r = (.inl (some (.ref a)), h) := gr_ret m58 f58_19 rfl rfl rfl rfl rfl rfl rfl rfl rfl
theorem r58_19n {E : Nat → Value} {d : Nat} {h : gm_H} {r : gm_R × gm_H} {lv : List Value} : gm_Go E d 58 19 lv [.null] h r ↔ r = (.inl (some .null), h) := gr_ret m58 f58_19 rfl rfl rfl rfl rfl rfl rfl rfl rfl
/-! GraphReader.askLimits(LGraphReader$Descriptor;II)V -/
theorem m59 : gm_mt[59]? = some (⟨"GraphReader", "askLimits", "(LGraphReader$Descriptor;II)V"⟩, prog_1_method_30_code, 5, none, [], 0, 1) := rfl
theorem f59_0 : gm_ft 59 0 = some (.aload_n 1, 1) := by decide +kernel
theorem r59_0 {E : Nat → Value} {d : Nat} {st : List Value} {h : gm_H} {r : gm_R × gm_H} {a0 a2 a3 a4 : Value} {x : Nat} : gm_Go E d 59 0 [a0, .ref x, a2, a3, a4] st h r ↔ gm_Go E d 59 1 [a0, .ref x, a2, a3, a4] (.ref x :: st) h r := gr_loc m59 f59_0 rfl rfl
theorem r59_0n {E : Nat → Value} {d : Nat} {st : List Value} {h : gm_H} {r : gm_R × gm_H} {a0 a2 a3 a4 : Value}  : gm_Go E d 59 0 [a0, .null, a2, a3, a4] st h r ↔ gm_Go E d 59 1 [a0, .null, a2, a3, a4] (.null :: st) h r := gr_loc m59 f59_0 rfl rfl
theorem f59_1 : gm_ft 59 1 = some (.getfield 188, 3) := by decide +kernel
theorem r59_1 {E : Nat → Value} {d : Nat} {st : List Value} {h : gm_H} {r : gm_R × gm_H} {lv : List Value} {a : Nat} {vs : List Value} {v : Value} (hr : gm_rd h a = some (1, vs)) (hv : vs[9]? = some v) : gm_Go E d 59 1 lv (.ref a :: st) h r ↔ gm_Go E d 59 4 lv (v :: st) h r := gr_rd m59 f59_1 rfl rfl rfl rfl (gf_get k0_188 hr hv)
theorem f59_4 : gm_ft 59 4 = some (.ifnull 17, 3) := by decide +kernel
theorem r59_4n {E : Nat → Value} {d : Nat} {st : List Value} {h : gm_H} {r : gm_R × gm_H} {lv : List Value} : gm_Go E d 59 4 lv (.null :: st) h r ↔ gm_Go E d 59 21 lv st h r := gr_brT m59 f59_4 rfl rfl rfl rfl
theorem r59_4 {E : Nat → Value} {d : Nat} {st : List Value} {h : gm_H} {r : gm_R × gm_H} {lv : List Value} {a : Nat} : gm_Go E d 59 4 lv (.ref a :: st) h r ↔ gm_Go E d 59 7 lv st h r := gr_brF m59 f59_4 rfl rfl rfl rfl
theorem f59_7 : gm_ft 59 7 = some (.aload_n 1, 1) := by decide +kernel
theorem r59_7 {E : Nat → Value} {d : Nat} {st : List Value} {h : gm_H} {r : gm_R × gm_H} {a0 a2 a3 a4 : Value} {x : Nat} : gm_Go E d 59 7 [a0, .ref x, a2, a3, a4] st h r ↔ gm_Go E d 59 8 [a0, .ref x, a2, a3, a4] (.ref x :: st) h r := gr_loc m59 f59_7 rfl rfl
theorem r59_7n {E : Nat → Value} {d : Nat} {st : List Value} {h : gm_H} {r : gm_R × gm_H} {a0 a2 a3 a4 : Value}  : gm_Go E d 59 7 [a0, .null, a2, a3, a4] st h r ↔ gm_Go E d 59 8 [a0, .null, a2, a3, a4] (.null :: st) h r := gr_loc m59 f59_7 rfl rfl
theorem f59_8 : gm_ft 59 8 = some (.getfield 188, 3) := by decide +kernel
theorem r59_8 {E : Nat → Value} {d : Nat} {st : List Value} {h : gm_H} {r : gm_R × gm_H} {lv : List Value} {a : Nat} {vs : List Value} {v : Value} (hr : gm_rd h a = some (1, vs)) (hv : vs[9]? = some v) : gm_Go E d 59 8 lv (.ref a :: st) h r ↔ gm_Go E d 59 11 lv (v :: st) h r := gr_rd m59 f59_8 rfl rfl rfl rfl (gf_get k0_188 hr hv)
theorem f59_11 : gm_ft 59 11 = some (.getfield 86, 3) := by decide +kernel
theorem r59_11 {E : Nat → Value} {d : Nat} {st : List Value} {h : gm_H} {r : gm_R × gm_H} {lv : List Value} {a : Nat} {vs : List Value} {v : Value} (hr : gm_rd h a = some (3, vs)) (hv : vs[7]? = some v) : gm_Go E d 59 11 lv (.ref a :: st) h r ↔ gm_Go E d 59 14 lv (v :: st) h r := gr_rd m59 f59_11 rfl rfl rfl rfl (gf_get k0_86 hr hv)
theorem f59_14 : gm_ft 59 14 = some (.ifCond .eq 7, 3) := by decide +kernel
theorem r59_14 {E : Nat → Value} {d : Nat} {st : List Value} {h : gm_H} {r : gm_R × gm_H} {lv : List Value} {x : Int32} : gm_Go E d 59 14 lv (.int x :: st) h r ↔ (if x = 0 then gm_Go E d 59 21 lv st h r else gm_Go E d 59 17 lv st h r) := (gr_br m59 f59_14 rfl rfl rfl rfl).trans gr_if
theorem f59_17 : gm_ft 59 17 = some (.iconst 1, 1) := by decide +kernel
theorem r59_17 {E : Nat → Value} {d : Nat} {st : List Value} {h : gm_H} {r : gm_R × gm_H} {lv : List Value} : gm_Go E d 59 17 lv st h r ↔ gm_Go E d 59 18 lv (.int (1 : Int32) :: st) h r := gr_pure m59 f59_17 rfl
theorem f59_18 : gm_ft 59 18 = some (.goto 4, 3) := by decide +kernel
theorem r59_18 {E : Nat → Value} {d : Nat} {st : List Value} {h : gm_H} {r : gm_R × gm_H} {lv : List Value} : gm_Go E d 59 18 lv st h r ↔ gm_Go E d 59 22 lv st h r := gr_brT m59 f59_18 rfl rfl rfl rfl
theorem f59_21 : gm_ft 59 21 = some (.iconst 0, 1) := by decide +kernel
theorem r59_21 {E : Nat → Value} {d : Nat} {st : List Value} {h : gm_H} {r : gm_R × gm_H} {lv : List Value} : gm_Go E d 59 21 lv st h r ↔ gm_Go E d 59 22 lv (.int (0 : Int32) :: st) h r := gr_pure m59 f59_21 rfl
theorem f59_22 : gm_ft 59 22 = some (.istore 4, 2) := by decide +kernel
theorem r59_22 {E : Nat → Value} {d : Nat} {st : List Value} {h : gm_H} {r : gm_R × gm_H} {a0 a1 a2 a3 a4 : Value} {x : Int32} : gm_Go E d 59 22 [a0, a1, a2, a3, a4] (.int x :: st) h r ↔ gm_Go E d 59 24 [a0, a1, a2, gm_k a3, .int x] st h r := gr_loc m59 f59_22 rfl rfl
theorem f59_24 : gm_ft 59 24 = some (.iload 4, 2) := by decide +kernel
theorem r59_24 {E : Nat → Value} {d : Nat} {st : List Value} {h : gm_H} {r : gm_R × gm_H} {a0 a1 a2 a3 : Value} {x : Int32} : gm_Go E d 59 24 [a0, a1, a2, a3, .int x] st h r ↔ gm_Go E d 59 26 [a0, a1, a2, a3, .int x] (.int x :: st) h r := gr_loc m59 f59_24 rfl rfl
theorem f59_26 : gm_ft 59 26 = some (.ifCond .ne 44, 3) := by decide +kernel
theorem r59_26 {E : Nat → Value} {d : Nat} {st : List Value} {h : gm_H} {r : gm_R × gm_H} {lv : List Value} {x : Int32} : gm_Go E d 59 26 lv (.int x :: st) h r ↔ (if x = 0 then gm_Go E d 59 29 lv st h r else gm_Go E d 59 70 lv st h r) := (gr_br m59 f59_26 rfl rfl rfl rfl).trans gr_ifn
theorem f59_29 : gm_ft 59 29 = some (.iload_n 2, 1) := by decide +kernel
theorem r59_29 {E : Nat → Value} {d : Nat} {st : List Value} {h : gm_H} {r : gm_R × gm_H} {a0 a1 a3 a4 : Value} {x : Int32} : gm_Go E d 59 29 [a0, a1, .int x, a3, a4] st h r ↔ gm_Go E d 59 30 [a0, a1, .int x, a3, a4] (.int x :: st) h r := gr_loc m59 f59_29 rfl rfl
theorem f59_30 : gm_ft 59 30 = some (.aload_n 0, 1) := by decide +kernel
theorem r59_30 {E : Nat → Value} {d : Nat} {st : List Value} {h : gm_H} {r : gm_R × gm_H} {a1 a2 a3 a4 : Value} {x : Nat} : gm_Go E d 59 30 [.ref x, a1, a2, a3, a4] st h r ↔ gm_Go E d 59 31 [.ref x, a1, a2, a3, a4] (.ref x :: st) h r := gr_loc m59 f59_30 rfl rfl
theorem r59_30n {E : Nat → Value} {d : Nat} {st : List Value} {h : gm_H} {r : gm_R × gm_H} {a1 a2 a3 a4 : Value}  : gm_Go E d 59 30 [.null, a1, a2, a3, a4] st h r ↔ gm_Go E d 59 31 [.null, a1, a2, a3, a4] (.null :: st) h r := gr_loc m59 f59_30 rfl rfl
theorem f59_31 : gm_ft 59 31 = some (.getfield 41, 3) := by decide +kernel
theorem r59_31 {E : Nat → Value} {d : Nat} {st : List Value} {h : gm_H} {r : gm_R × gm_H} {lv : List Value} {a : Nat} {vs : List Value} {v : Value} (hr : gm_rd h a = some (0, vs)) (hv : vs[0]? = some v) : gm_Go E d 59 31 lv (.ref a :: st) h r ↔ gm_Go E d 59 34 lv (v :: st) h r := gr_rd m59 f59_31 rfl rfl rfl rfl (gf_get k0_41 hr hv)
theorem f59_34 : gm_ft 59 34 = some (.if_icmp .gt 36, 3) := by decide +kernel
theorem r59_34 {E : Nat → Value} {d : Nat} {st : List Value} {h : gm_H} {r : gm_R × gm_H} {lv : List Value} {x y : Int32} : gm_Go E d 59 34 lv (.int y :: .int x :: st) h r ↔ (if y < x then gm_Go E d 59 70 lv st h r else gm_Go E d 59 37 lv st h r) := (gr_br m59 f59_34 rfl rfl rfl rfl).trans gr_if
theorem f59_37 : gm_ft 59 37 = some (.aload_n 0, 1) := by decide +kernel
theorem r59_37 {E : Nat → Value} {d : Nat} {st : List Value} {h : gm_H} {r : gm_R × gm_H} {a1 a2 a3 a4 : Value} {x : Nat} : gm_Go E d 59 37 [.ref x, a1, a2, a3, a4] st h r ↔ gm_Go E d 59 38 [.ref x, a1, a2, a3, a4] (.ref x :: st) h r := gr_loc m59 f59_37 rfl rfl
theorem r59_37n {E : Nat → Value} {d : Nat} {st : List Value} {h : gm_H} {r : gm_R × gm_H} {a1 a2 a3 a4 : Value}  : gm_Go E d 59 37 [.null, a1, a2, a3, a4] st h r ↔ gm_Go E d 59 38 [.null, a1, a2, a3, a4] (.null :: st) h r := gr_loc m59 f59_37 rfl rfl
theorem f59_38 : gm_ft 59 38 = some (.getfield 28, 3) := by decide +kernel
theorem r59_38 {E : Nat → Value} {d : Nat} {st : List Value} {h : gm_H} {r : gm_R × gm_H} {lv : List Value} {a : Nat} {vs : List Value} {v : Value} (hr : gm_rd h a = some (0, vs)) (hv : vs[10]? = some v) : gm_Go E d 59 38 lv (.ref a :: st) h r ↔ gm_Go E d 59 41 lv (v :: st) h r := gr_rd m59 f59_38 rfl rfl rfl rfl (gf_get k0_28 hr hv)
theorem f59_41 : gm_ft 59 41 = some (.invokevirtual 156, 3) := by decide +kernel
theorem n59_41 {st : List Value} {h : gm_H} {E : Nat → Value} {lv : List Value} {a : Nat} (hs : (st.map fun v => v.category).sum ≤ 8) (he : (gm_en1 [.ref a]).length ≤ 1) {vs : List Value} (hr : gm_rd h a = some (2, vs)) : gm_next E 59 41 lv (.ref a :: st) h = some (.inr (.inl (0, 21, [.ref a], st))) := gn_call m59 f59_41 rfl rfl rfl rfl rfl rfl rfl (gc_virt (bs := []) (w := 202) rfl rfl rfl rfl hs he hr) (by decide)
theorem f59_44 : gm_ft 59 44 = some (.aload_n 0, 1) := by decide +kernel
theorem r59_44 {E : Nat → Value} {d : Nat} {st : List Value} {h : gm_H} {r : gm_R × gm_H} {a1 a2 a3 a4 : Value} {x : Nat} : gm_Go E d 59 44 [.ref x, a1, a2, a3, a4] st h r ↔ gm_Go E d 59 45 [.ref x, a1, a2, a3, a4] (.ref x :: st) h r := gr_loc m59 f59_44 rfl rfl
theorem r59_44n {E : Nat → Value} {d : Nat} {st : List Value} {h : gm_H} {r : gm_R × gm_H} {a1 a2 a3 a4 : Value}  : gm_Go E d 59 44 [.null, a1, a2, a3, a4] st h r ↔ gm_Go E d 59 45 [.null, a1, a2, a3, a4] (.null :: st) h r := gr_loc m59 f59_44 rfl rfl
theorem f59_45 : gm_ft 59 45 = some (.getfield 45, 3) := by decide +kernel
theorem r59_45 {E : Nat → Value} {d : Nat} {st : List Value} {h : gm_H} {r : gm_R × gm_H} {lv : List Value} {a : Nat} {vs : List Value} {v : Value} (hr : gm_rd h a = some (0, vs)) (hv : vs[1]? = some v) : gm_Go E d 59 45 lv (.ref a :: st) h r ↔ gm_Go E d 59 48 lv (v :: st) h r := gr_rd m59 f59_45 rfl rfl rfl rfl (gf_get k0_45 hr hv)
theorem f59_48 : gm_ft 59 48 = some (.if_icmp .gt 22, 3) := by decide +kernel
theorem r59_48 {E : Nat → Value} {d : Nat} {st : List Value} {h : gm_H} {r : gm_R × gm_H} {lv : List Value} {x y : Int32} : gm_Go E d 59 48 lv (.int y :: .int x :: st) h r ↔ (if y < x then gm_Go E d 59 70 lv st h r else gm_Go E d 59 51 lv st h r) := (gr_br m59 f59_48 rfl rfl rfl rfl).trans gr_if
theorem f59_51 : gm_ft 59 51 = some (.iload_n 3, 1) := by decide +kernel
theorem r59_51 {E : Nat → Value} {d : Nat} {st : List Value} {h : gm_H} {r : gm_R × gm_H} {a0 a1 a2 a4 : Value} {x : Int32} : gm_Go E d 59 51 [a0, a1, a2, .int x, a4] st h r ↔ gm_Go E d 59 52 [a0, a1, a2, .int x, a4] (.int x :: st) h r := gr_loc m59 f59_51 rfl rfl
theorem f59_52 : gm_ft 59 52 = some (.aload_n 0, 1) := by decide +kernel
theorem r59_52 {E : Nat → Value} {d : Nat} {st : List Value} {h : gm_H} {r : gm_R × gm_H} {a1 a2 a3 a4 : Value} {x : Nat} : gm_Go E d 59 52 [.ref x, a1, a2, a3, a4] st h r ↔ gm_Go E d 59 53 [.ref x, a1, a2, a3, a4] (.ref x :: st) h r := gr_loc m59 f59_52 rfl rfl
theorem r59_52n {E : Nat → Value} {d : Nat} {st : List Value} {h : gm_H} {r : gm_R × gm_H} {a1 a2 a3 a4 : Value}  : gm_Go E d 59 52 [.null, a1, a2, a3, a4] st h r ↔ gm_Go E d 59 53 [.null, a1, a2, a3, a4] (.null :: st) h r := gr_loc m59 f59_52 rfl rfl
theorem f59_53 : gm_ft 59 53 = some (.getfield 48, 3) := by decide +kernel
theorem r59_53 {E : Nat → Value} {d : Nat} {st : List Value} {h : gm_H} {r : gm_R × gm_H} {lv : List Value} {a : Nat} {vs : List Value} {v : Value} (hr : gm_rd h a = some (0, vs)) (hv : vs[2]? = some v) : gm_Go E d 59 53 lv (.ref a :: st) h r ↔ gm_Go E d 59 56 lv (v :: st) h r := gr_rd m59 f59_53 rfl rfl rfl rfl (gf_get k0_48 hr hv)
theorem f59_56 : gm_ft 59 56 = some (.if_icmp .gt 14, 3) := by decide +kernel
theorem r59_56 {E : Nat → Value} {d : Nat} {st : List Value} {h : gm_H} {r : gm_R × gm_H} {lv : List Value} {x y : Int32} : gm_Go E d 59 56 lv (.int y :: .int x :: st) h r ↔ (if y < x then gm_Go E d 59 70 lv st h r else gm_Go E d 59 59 lv st h r) := (gr_br m59 f59_56 rfl rfl rfl rfl).trans gr_if
theorem f59_59 : gm_ft 59 59 = some (.aload_n 0, 1) := by decide +kernel
theorem r59_59 {E : Nat → Value} {d : Nat} {st : List Value} {h : gm_H} {r : gm_R × gm_H} {a1 a2 a3 a4 : Value} {x : Nat} : gm_Go E d 59 59 [.ref x, a1, a2, a3, a4] st h r ↔ gm_Go E d 59 60 [.ref x, a1, a2, a3, a4] (.ref x :: st) h r := gr_loc m59 f59_59 rfl rfl
theorem r59_59n {E : Nat → Value} {d : Nat} {st : List Value} {h : gm_H} {r : gm_R × gm_H} {a1 a2 a3 a4 : Value}  : gm_Go E d 59 59 [.null, a1, a2, a3, a4] st h r ↔ gm_Go E d 59 60 [.null, a1, a2, a3, a4] (.null :: st) h r := gr_loc m59 f59_59 rfl rfl
theorem f59_60 : gm_ft 59 60 = some (.getfield 96, 3) := by decide +kernel
theorem r59_60 {E : Nat → Value} {d : Nat} {st : List Value} {h : gm_H} {r : gm_R × gm_H} {lv : List Value} {a : Nat} {vs : List Value} {v : Value} (hr : gm_rd h a = some (0, vs)) (hv : vs[7]? = some v) : gm_Go E d 59 60 lv (.ref a :: st) h r ↔ gm_Go E d 59 63 lv (v :: st) h r := gr_rd m59 f59_60 rfl rfl rfl rfl (gf_get k0_96 hr hv)
theorem f59_63 : gm_ft 59 63 = some (.aload_n 0, 1) := by decide +kernel
theorem r59_63 {E : Nat → Value} {d : Nat} {st : List Value} {h : gm_H} {r : gm_R × gm_H} {a1 a2 a3 a4 : Value} {x : Nat} : gm_Go E d 59 63 [.ref x, a1, a2, a3, a4] st h r ↔ gm_Go E d 59 64 [.ref x, a1, a2, a3, a4] (.ref x :: st) h r := gr_loc m59 f59_63 rfl rfl
theorem r59_63n {E : Nat → Value} {d : Nat} {st : List Value} {h : gm_H} {r : gm_R × gm_H} {a1 a2 a3 a4 : Value}  : gm_Go E d 59 63 [.null, a1, a2, a3, a4] st h r ↔ gm_Go E d 59 64 [.null, a1, a2, a3, a4] (.null :: st) h r := gr_loc m59 f59_63 rfl rfl
theorem f59_64 : gm_ft 59 64 = some (.getfield 51, 3) := by decide +kernel
theorem r59_64 {E : Nat → Value} {d : Nat} {st : List Value} {h : gm_H} {r : gm_R × gm_H} {lv : List Value} {a : Nat} {vs : List Value} {v : Value} (hr : gm_rd h a = some (0, vs)) (hv : vs[3]? = some v) : gm_Go E d 59 64 lv (.ref a :: st) h r ↔ gm_Go E d 59 67 lv (v :: st) h r := gr_rd m59 f59_64 rfl rfl rfl rfl (gf_get k0_51 hr hv)
theorem f59_67 : gm_ft 59 67 = some (.if_icmp .le 10, 3) := by decide +kernel
theorem r59_67 {E : Nat → Value} {d : Nat} {st : List Value} {h : gm_H} {r : gm_R × gm_H} {lv : List Value} {x y : Int32} : gm_Go E d 59 67 lv (.int y :: .int x :: st) h r ↔ (if x ≤ y then gm_Go E d 59 77 lv st h r else gm_Go E d 59 70 lv st h r) := (gr_br m59 f59_67 rfl rfl rfl rfl).trans gr_if
theorem f59_70 : gm_ft 59 70 = some (.aload_n 0, 1) := by decide +kernel
theorem r59_70 {E : Nat → Value} {d : Nat} {st : List Value} {h : gm_H} {r : gm_R × gm_H} {a1 a2 a3 a4 : Value} {x : Nat} : gm_Go E d 59 70 [.ref x, a1, a2, a3, a4] st h r ↔ gm_Go E d 59 71 [.ref x, a1, a2, a3, a4] (.ref x :: st) h r := gr_loc m59 f59_70 rfl rfl
theorem r59_70n {E : Nat → Value} {d : Nat} {st : List Value} {h : gm_H} {r : gm_R × gm_H} {a1 a2 a3 a4 : Value}  : gm_Go E d 59 70 [.null, a1, a2, a3, a4] st h r ↔ gm_Go E d 59 71 [.null, a1, a2, a3, a4] (.null :: st) h r := gr_loc m59 f59_70 rfl rfl
theorem f59_71 : gm_ft 59 71 = some (.bipush (-8), 2) := by decide +kernel
theorem r59_71 {E : Nat → Value} {d : Nat} {st : List Value} {h : gm_H} {r : gm_R × gm_H} {lv : List Value} : gm_Go E d 59 71 lv st h r ↔ gm_Go E d 59 73 lv (.int (-8 : Int32) :: st) h r := gr_pure m59 f59_71 rfl
theorem f59_73 : gm_ft 59 73 = some (.invokevirtual 160, 3) := by decide +kernel
theorem n59_73 {st : List Value} {h : gm_H} {E : Nat → Value} {lv : List Value} {b0 : Value} {a : Nat} (hs : (st.map fun v => v.category).sum ≤ 8) (he : (gm_en1 [.ref a, b0]).length ≤ 2) {vs : List Value} (hr : gm_rd h a = some (0, vs)) : gm_next E 59 73 lv (b0 :: .ref a :: st) h = some (.inr (.inl (0, 22, [.ref a, b0], st))) := gn_call m59 f59_73 rfl rfl rfl rfl rfl rfl rfl (gc_virt (bs := [b0]) (w := 206) rfl rfl rfl rfl hs he hr) (by decide)
theorem f59_76 : gm_ft 59 76 = some (.pop, 1) := by decide +kernel
theorem r59_76 {E : Nat → Value} {d : Nat} {st : List Value} {h : gm_H} {r : gm_R × gm_H} {lv : List Value} {x : Int32} : gm_Go E d 59 76 lv (.int x :: st) h r ↔ gm_Go E d 59 77 lv st h r := gr_pure m59 f59_76 rfl
theorem r59_76a {E : Nat → Value} {d : Nat} {st : List Value} {h : gm_H} {r : gm_R × gm_H} {lv : List Value} {a : Nat} : gm_Go E d 59 76 lv (.ref a :: st) h r ↔ gm_Go E d 59 77 lv st h r := gr_pure m59 f59_76 rfl
theorem r59_76n {E : Nat → Value} {d : Nat} {st : List Value} {h : gm_H} {r : gm_R × gm_H} {lv : List Value} : gm_Go E d 59 76 lv (.null :: st) h r ↔ gm_Go E d 59 77 lv st h r := gr_pure m59 f59_76 rfl
theorem f59_77 : gm_ft 59 77 = some (.return_, 1) := by decide +kernel
theorem r59_77 {E : Nat → Value} {d : Nat} {h : gm_H} {r : gm_R × gm_H} {lv : List Value} : gm_Go E d 59 77 lv [] h r ↔ r = (.inl none, h) := gr_ret m59 f59_77 rfl rfl rfl rfl rfl rfl rfl rfl rfl
/-! GraphReader$LocalClass.slotCount()I -/
theorem m60 : gm_mt[60]? = some (⟨"GraphReader$LocalClass", "slotCount", "()I"⟩, prog_4_method_6_code, 3, (some .int), [], 3, 1) := rfl
theorem f60_0 : gm_ft 60 0 = some (.iconst 0, 1) := by decide +kernel
theorem r60_0 {E : Nat → Value} {d : Nat} {st : List Value} {h : gm_H} {r : gm_R × gm_H} {lv : List Value} : gm_Go E d 60 0 lv st h r ↔ gm_Go E d 60 1 lv (.int (0 : Int32) :: st) h r := gr_pure m60 f60_0 rfl
theorem f60_1 : gm_ft 60 1 = some (.istore_n 1, 1) := by decide +kernel
theorem r60_1 {E : Nat → Value} {d : Nat} {st : List Value} {h : gm_H} {r : gm_R × gm_H} {a0 a1 a2 : Value} {x : Int32} : gm_Go E d 60 1 [a0, a1, a2] (.int x :: st) h r ↔ gm_Go E d 60 2 [gm_k a0, .int x, a2] st h r := gr_loc m60 f60_1 rfl rfl
theorem f60_2 : gm_ft 60 2 = some (.aload_n 0, 1) := by decide +kernel
theorem r60_2 {E : Nat → Value} {d : Nat} {st : List Value} {h : gm_H} {r : gm_R × gm_H} {a1 a2 : Value} {x : Nat} : gm_Go E d 60 2 [.ref x, a1, a2] st h r ↔ gm_Go E d 60 3 [.ref x, a1, a2] (.ref x :: st) h r := gr_loc m60 f60_2 rfl rfl
theorem r60_2n {E : Nat → Value} {d : Nat} {st : List Value} {h : gm_H} {r : gm_R × gm_H} {a1 a2 : Value}  : gm_Go E d 60 2 [.null, a1, a2] st h r ↔ gm_Go E d 60 3 [.null, a1, a2] (.null :: st) h r := gr_loc m60 f60_2 rfl rfl
theorem f60_3 : gm_ft 60 3 = some (.astore_n 2, 1) := by decide +kernel
theorem r60_3 {E : Nat → Value} {d : Nat} {st : List Value} {h : gm_H} {r : gm_R × gm_H} {a0 a1 a2 : Value} {x : Nat} : gm_Go E d 60 3 [a0, a1, a2] (.ref x :: st) h r ↔ gm_Go E d 60 4 [a0, gm_k a1, .ref x] st h r := gr_loc m60 f60_3 rfl rfl
theorem r60_3n {E : Nat → Value} {d : Nat} {st : List Value} {h : gm_H} {r : gm_R × gm_H} {a0 a1 a2 : Value}  : gm_Go E d 60 3 [a0, a1, a2] (.null :: st) h r ↔ gm_Go E d 60 4 [a0, gm_k a1, .null] st h r := gr_loc m60 f60_3 rfl rfl
theorem f60_4 : gm_ft 60 4 = some (.aload_n 2, 1) := by decide +kernel
theorem r60_4 {E : Nat → Value} {d : Nat} {st : List Value} {h : gm_H} {r : gm_R × gm_H} {a0 a1 : Value} {x : Nat} : gm_Go E d 60 4 [a0, a1, .ref x] st h r ↔ gm_Go E d 60 5 [a0, a1, .ref x] (.ref x :: st) h r := gr_loc m60 f60_4 rfl rfl
theorem r60_4n {E : Nat → Value} {d : Nat} {st : List Value} {h : gm_H} {r : gm_R × gm_H} {a0 a1 : Value}  : gm_Go E d 60 4 [a0, a1, .null] st h r ↔ gm_Go E d 60 5 [a0, a1, .null] (.null :: st) h r := gr_loc m60 f60_4 rfl rfl
theorem f60_5 : gm_ft 60 5 = some (.ifnull 18, 3) := by decide +kernel
theorem r60_5n {E : Nat → Value} {d : Nat} {st : List Value} {h : gm_H} {r : gm_R × gm_H} {lv : List Value} : gm_Go E d 60 5 lv (.null :: st) h r ↔ gm_Go E d 60 23 lv st h r := gr_brT m60 f60_5 rfl rfl rfl rfl
theorem r60_5 {E : Nat → Value} {d : Nat} {st : List Value} {h : gm_H} {r : gm_R × gm_H} {lv : List Value} {a : Nat} : gm_Go E d 60 5 lv (.ref a :: st) h r ↔ gm_Go E d 60 8 lv st h r := gr_brF m60 f60_5 rfl rfl rfl rfl
theorem f60_8 : gm_ft 60 8 = some (.iload_n 1, 1) := by decide +kernel
theorem r60_8 {E : Nat → Value} {d : Nat} {st : List Value} {h : gm_H} {r : gm_R × gm_H} {a0 a2 : Value} {x : Int32} : gm_Go E d 60 8 [a0, .int x, a2] st h r ↔ gm_Go E d 60 9 [a0, .int x, a2] (.int x :: st) h r := gr_loc m60 f60_8 rfl rfl
theorem f60_9 : gm_ft 60 9 = some (.aload_n 2, 1) := by decide +kernel
theorem r60_9 {E : Nat → Value} {d : Nat} {st : List Value} {h : gm_H} {r : gm_R × gm_H} {a0 a1 : Value} {x : Nat} : gm_Go E d 60 9 [a0, a1, .ref x] st h r ↔ gm_Go E d 60 10 [a0, a1, .ref x] (.ref x :: st) h r := gr_loc m60 f60_9 rfl rfl
theorem r60_9n {E : Nat → Value} {d : Nat} {st : List Value} {h : gm_H} {r : gm_R × gm_H} {a0 a1 : Value}  : gm_Go E d 60 9 [a0, a1, .null] st h r ↔ gm_Go E d 60 10 [a0, a1, .null] (.null :: st) h r := gr_loc m60 f60_9 rfl rfl
theorem f60_10 : gm_ft 60 10 = some (.getfield 33, 3) := by decide +kernel
theorem r60_10 {E : Nat → Value} {d : Nat} {st : List Value} {h : gm_H} {r : gm_R × gm_H} {lv : List Value} {a : Nat} {vs : List Value} {v : Value} (hr : gm_rd h a = some (3, vs)) (hv : vs[6]? = some v) : gm_Go E d 60 10 lv (.ref a :: st) h r ↔ gm_Go E d 60 13 lv (v :: st) h r := gr_rd m60 f60_10 rfl rfl rfl rfl (gf_get k3_33 hr hv)
theorem f60_13 : gm_ft 60 13 = some (.iadd, 1) := by decide +kernel
theorem r60_13 {E : Nat → Value} {d : Nat} {st : List Value} {h : gm_H} {r : gm_R × gm_H} {lv : List Value} {x y : Int32} : gm_Go E d 60 13 lv (.int y :: .int x :: st) h r ↔ gm_Go E d 60 14 lv (.int (x + y) :: st) h r := gr_pure m60 f60_13 rfl
theorem f60_14 : gm_ft 60 14 = some (.istore_n 1, 1) := by decide +kernel
theorem r60_14 {E : Nat → Value} {d : Nat} {st : List Value} {h : gm_H} {r : gm_R × gm_H} {a0 a1 a2 : Value} {x : Int32} : gm_Go E d 60 14 [a0, a1, a2] (.int x :: st) h r ↔ gm_Go E d 60 15 [gm_k a0, .int x, a2] st h r := gr_loc m60 f60_14 rfl rfl
theorem f60_15 : gm_ft 60 15 = some (.aload_n 2, 1) := by decide +kernel
theorem r60_15 {E : Nat → Value} {d : Nat} {st : List Value} {h : gm_H} {r : gm_R × gm_H} {a0 a1 : Value} {x : Nat} : gm_Go E d 60 15 [a0, a1, .ref x] st h r ↔ gm_Go E d 60 16 [a0, a1, .ref x] (.ref x :: st) h r := gr_loc m60 f60_15 rfl rfl
theorem r60_15n {E : Nat → Value} {d : Nat} {st : List Value} {h : gm_H} {r : gm_R × gm_H} {a0 a1 : Value}  : gm_Go E d 60 15 [a0, a1, .null] st h r ↔ gm_Go E d 60 16 [a0, a1, .null] (.null :: st) h r := gr_loc m60 f60_15 rfl rfl
theorem f60_16 : gm_ft 60 16 = some (.getfield 25, 3) := by decide +kernel
theorem r60_16 {E : Nat → Value} {d : Nat} {st : List Value} {h : gm_H} {r : gm_R × gm_H} {lv : List Value} {a : Nat} {vs : List Value} {v : Value} (hr : gm_rd h a = some (3, vs)) (hv : vs[2]? = some v) : gm_Go E d 60 16 lv (.ref a :: st) h r ↔ gm_Go E d 60 19 lv (v :: st) h r := gr_rd m60 f60_16 rfl rfl rfl rfl (gf_get k3_25 hr hv)
theorem f60_19 : gm_ft 60 19 = some (.astore_n 2, 1) := by decide +kernel
theorem r60_19 {E : Nat → Value} {d : Nat} {st : List Value} {h : gm_H} {r : gm_R × gm_H} {a0 a1 a2 : Value} {x : Nat} : gm_Go E d 60 19 [a0, a1, a2] (.ref x :: st) h r ↔ gm_Go E d 60 20 [a0, gm_k a1, .ref x] st h r := gr_loc m60 f60_19 rfl rfl
theorem r60_19n {E : Nat → Value} {d : Nat} {st : List Value} {h : gm_H} {r : gm_R × gm_H} {a0 a1 a2 : Value}  : gm_Go E d 60 19 [a0, a1, a2] (.null :: st) h r ↔ gm_Go E d 60 20 [a0, gm_k a1, .null] st h r := gr_loc m60 f60_19 rfl rfl
theorem f60_20 : gm_ft 60 20 = some (.goto (-16), 3) := by decide +kernel
theorem r60_20 {E : Nat → Value} {d : Nat} {st : List Value} {h : gm_H} {r : gm_R × gm_H} {lv : List Value} : gm_Go E d 60 20 lv st h r ↔ gm_Go E d 60 4 lv st h r := gr_brT m60 f60_20 rfl rfl rfl rfl
theorem f60_23 : gm_ft 60 23 = some (.iload_n 1, 1) := by decide +kernel
theorem r60_23 {E : Nat → Value} {d : Nat} {st : List Value} {h : gm_H} {r : gm_R × gm_H} {a0 a2 : Value} {x : Int32} : gm_Go E d 60 23 [a0, .int x, a2] st h r ↔ gm_Go E d 60 24 [a0, .int x, a2] (.int x :: st) h r := gr_loc m60 f60_23 rfl rfl
theorem f60_24 : gm_ft 60 24 = some (.ireturn, 1) := by decide +kernel
theorem r60_24 {E : Nat → Value} {d : Nat} {h : gm_H} {r : gm_R × gm_H} {lv : List Value} {x : Int32} : gm_Go E d 60 24 lv [.int x] h r ↔ r = (.inl (some (.int x)), h) := gr_ret m60 f60_24 rfl rfl rfl rfl rfl rfl rfl rfl (by unfold gm_rt; dsimp only; rw [if_pos ⟨rfl, rfl⟩])
