/-! GraphReader.isValidRecord(LGraphReader$Thing;)Z -/
theorem m91 : gm_mt[91]? = some (⟨"GraphReader", "isValidRecord", "(LGraphReader$Thing;)Z"⟩, prog_1_method_41_code, 1, (some .boolean), [], 0, 1) := rfl
theorem f91_0 : gm_ft 91 0 = some (.aload_n 0, 1) := by decide +kernel
theorem r91_0 {E : Nat → Value} {d : Nat} {st : List Value} {h : gm_H} {r : gm_R × gm_H}  {x : Nat} : gm_Go E d 91 0 [.ref x] st h r ↔ gm_Go E d 91 1 [.ref x] (.ref x :: st) h r := gr_loc m91 f91_0 rfl rfl
theorem r91_0n {E : Nat → Value} {d : Nat} {st : List Value} {h : gm_H} {r : gm_R × gm_H}   : gm_Go E d 91 0 [.null] st h r ↔ gm_Go E d 91 1 [.null] (.null :: st) h r := gr_loc m91 f91_0 rfl rfl
theorem f91_1 : gm_ft 91 1 = some (.getfield 137, 3) := by decide +kernel
theorem r91_1 {E : Nat → Value} {d : Nat} {st : List Value} {h : gm_H} {r : gm_R × gm_H} {lv : List Value} {a : Nat} {vs : List Value} {v : Value} (hr : gm_rd h a = some (4, vs)) (hv : vs[1]? = some v) : gm_Go E d 91 1 lv (.ref a :: st) h r ↔ gm_Go E d 91 4 lv (v :: st) h r := gr_rd m91 f91_1 rfl rfl rfl rfl (gf_get k0_137 hr hv)
theorem f91_4 : gm_ft 91 4 = some (.getfield 75, 3) := by decide +kernel
theorem r91_4 {E : Nat → Value} {d : Nat} {st : List Value} {h : gm_H} {r : gm_R × gm_H} {lv : List Value} {a : Nat} {vs : List Value} {v : Value} (hr : gm_rd h a = some (3, vs)) (hv : vs[6]? = some v) : gm_Go E d 91 4 lv (.ref a :: st) h r ↔ gm_Go E d 91 7 lv (v :: st) h r := gr_rd m91 f91_4 rfl rfl rfl rfl (gf_get k0_75 hr hv)
theorem f91_7 : gm_ft 91 7 = some (.ifCond .eq 17, 3) := by decide +kernel
theorem r91_7 {E : Nat → Value} {d : Nat} {st : List Value} {h : gm_H} {r : gm_R × gm_H} {lv : List Value} {x : Int32} : gm_Go E d 91 7 lv (.int x :: st) h r ↔ (if x = 0 then gm_Go E d 91 24 lv st h r else gm_Go E d 91 10 lv st h r) := (gr_br m91 f91_7 rfl rfl rfl rfl).trans gr_if
theorem f91_10 : gm_ft 91 10 = some (.aload_n 0, 1) := by decide +kernel
theorem r91_10 {E : Nat → Value} {d : Nat} {st : List Value} {h : gm_H} {r : gm_R × gm_H}  {x : Nat} : gm_Go E d 91 10 [.ref x] st h r ↔ gm_Go E d 91 11 [.ref x] (.ref x :: st) h r := gr_loc m91 f91_10 rfl rfl
theorem r91_10n {E : Nat → Value} {d : Nat} {st : List Value} {h : gm_H} {r : gm_R × gm_H}   : gm_Go E d 91 10 [.null] st h r ↔ gm_Go E d 91 11 [.null] (.null :: st) h r := gr_loc m91 f91_10 rfl rfl
theorem f91_11 : gm_ft 91 11 = some (.getfield 137, 3) := by decide +kernel
theorem r91_11 {E : Nat → Value} {d : Nat} {st : List Value} {h : gm_H} {r : gm_R × gm_H} {lv : List Value} {a : Nat} {vs : List Value} {v : Value} (hr : gm_rd h a = some (4, vs)) (hv : vs[1]? = some v) : gm_Go E d 91 11 lv (.ref a :: st) h r ↔ gm_Go E d 91 14 lv (v :: st) h r := gr_rd m91 f91_11 rfl rfl rfl rfl (gf_get k0_137 hr hv)
theorem f91_14 : gm_ft 91 14 = some (.getfield 288, 3) := by decide +kernel
theorem r91_14 {E : Nat → Value} {d : Nat} {st : List Value} {h : gm_H} {r : gm_R × gm_H} {lv : List Value} {a : Nat} {vs : List Value} {v : Value} (hr : gm_rd h a = some (3, vs)) (hv : vs[5]? = some v) : gm_Go E d 91 14 lv (.ref a :: st) h r ↔ gm_Go E d 91 17 lv (v :: st) h r := gr_rd m91 f91_14 rfl rfl rfl rfl (gf_get k0_288 hr hv)
theorem f91_17 : gm_ft 91 17 = some (.iconst 0, 1) := by decide +kernel
theorem r91_17 {E : Nat → Value} {d : Nat} {st : List Value} {h : gm_H} {r : gm_R × gm_H} {lv : List Value} : gm_Go E d 91 17 lv st h r ↔ gm_Go E d 91 18 lv (.int (0 : Int32) :: st) h r := gr_pure m91 f91_17 rfl
theorem f91_18 : gm_ft 91 18 = some (.iaload, 1) := by decide +kernel
theorem r91_18 {E : Nat → Value} {d : Nat} {st : List Value} {h : gm_H} {r : gm_R × gm_H} {lv : List Value} {a k j : Nat} {vs : List Value} {v : Value} (hr : gm_rd h a = some (k, vs)) (hk : 100 ≤ k ∧ (fun t => t == 0) (k % 100) = true) (hj : j < 2 ^ 31) (hv : vs[j]? = some v) : gm_Go E d 91 18 lv (.int (nI j) :: .ref a :: st) h r ↔ gm_Go E d 91 19 lv (v :: st) h r := gr_rd m91 f91_18 rfl rfl rfl rfl (ga_ld (P := fun t => t == 0) hr hk hj hv)
theorem f91_19 : gm_ft 91 19 = some (.bipush 6, 2) := by decide +kernel
theorem r91_19 {E : Nat → Value} {d : Nat} {st : List Value} {h : gm_H} {r : gm_R × gm_H} {lv : List Value} : gm_Go E d 91 19 lv st h r ↔ gm_Go E d 91 21 lv (.int (6 : Int32) :: st) h r := gr_pure m91 f91_19 rfl
theorem f91_21 : gm_ft 91 21 = some (.if_icmp .lt 5, 3) := by decide +kernel
theorem r91_21 {E : Nat → Value} {d : Nat} {st : List Value} {h : gm_H} {r : gm_R × gm_H} {lv : List Value} {x y : Int32} : gm_Go E d 91 21 lv (.int y :: .int x :: st) h r ↔ (if x < y then gm_Go E d 91 26 lv st h r else gm_Go E d 91 24 lv st h r) := (gr_br m91 f91_21 rfl rfl rfl rfl).trans gr_if
theorem f91_24 : gm_ft 91 24 = some (.iconst 1, 1) := by decide +kernel
theorem r91_24 {E : Nat → Value} {d : Nat} {st : List Value} {h : gm_H} {r : gm_R × gm_H} {lv : List Value} : gm_Go E d 91 24 lv st h r ↔ gm_Go E d 91 25 lv (.int (1 : Int32) :: st) h r := gr_pure m91 f91_24 rfl
theorem f91_25 : gm_ft 91 25 = some (.ireturn, 1) := by decide +kernel
theorem r91_25_0 {E : Nat → Value} {d : Nat} {h : gm_H} {r : gm_R × gm_H} {lv : List Value} : gm_Go E d 91 25 lv [.int (0 : Int32)] h r ↔ r = (.inl (some (.int (0 : Int32))), h) := gr_ret m91 f91_25 rfl rfl rfl rfl rfl rfl rfl rfl (by unfold gm_rt; dsimp only; rw [if_pos ⟨rfl, rfl⟩])
theorem r91_25_1 {E : Nat → Value} {d : Nat} {h : gm_H} {r : gm_R × gm_H} {lv : List Value} : gm_Go E d 91 25 lv [.int (1 : Int32)] h r ↔ r = (.inl (some (.int (1 : Int32))), h) := gr_ret m91 f91_25 rfl rfl rfl rfl rfl rfl rfl rfl (by unfold gm_rt; dsimp only; rw [if_pos ⟨rfl, rfl⟩])
theorem f91_26 : gm_ft 91 26 = some (.aload_n 0, 1) := by decide +kernel
theorem r91_26 {E : Nat → Value} {d : Nat} {st : List Value} {h : gm_H} {r : gm_R × gm_H}  {x : Nat} : gm_Go E d 91 26 [.ref x] st h r ↔ gm_Go E d 91 27 [.ref x] (.ref x :: st) h r := gr_loc m91 f91_26 rfl rfl
theorem r91_26n {E : Nat → Value} {d : Nat} {st : List Value} {h : gm_H} {r : gm_R × gm_H}   : gm_Go E d 91 26 [.null] st h r ↔ gm_Go E d 91 27 [.null] (.null :: st) h r := gr_loc m91 f91_26 rfl rfl
theorem f91_27 : gm_ft 91 27 = some (.getfield 147, 3) := by decide +kernel
theorem r91_27 {E : Nat → Value} {d : Nat} {st : List Value} {h : gm_H} {r : gm_R × gm_H} {lv : List Value} {a : Nat} {vs : List Value} {v : Value} (hr : gm_rd h a = some (4, vs)) (hv : vs[2]? = some v) : gm_Go E d 91 27 lv (.ref a :: st) h r ↔ gm_Go E d 91 30 lv (v :: st) h r := gr_rd m91 f91_27 rfl rfl rfl rfl (gf_get k0_147 hr hv)
theorem f91_30 : gm_ft 91 30 = some (.iconst 0, 1) := by decide +kernel
theorem r91_30 {E : Nat → Value} {d : Nat} {st : List Value} {h : gm_H} {r : gm_R × gm_H} {lv : List Value} : gm_Go E d 91 30 lv st h r ↔ gm_Go E d 91 31 lv (.int (0 : Int32) :: st) h r := gr_pure m91 f91_30 rfl
theorem f91_31 : gm_ft 91 31 = some (.laload, 1) := by decide +kernel
theorem r91_31 {E : Nat → Value} {d : Nat} {st : List Value} {h : gm_H} {r : gm_R × gm_H} {lv : List Value} {a k j : Nat} {vs : List Value} {v : Value} (hr : gm_rd h a = some (k, vs)) (hk : 100 ≤ k ∧ (fun t => t == 1) (k % 100) = true) (hj : j < 2 ^ 31) (hv : vs[j]? = some v) : gm_Go E d 91 31 lv (.int (nI j) :: .ref a :: st) h r ↔ gm_Go E d 91 32 lv (v :: st) h r := gr_rd m91 f91_31 rfl rfl rfl rfl (ga_ld (P := fun t => t == 1) hr hk hj hv)
theorem f91_32 : gm_ft 91 32 = some (.lconst 0, 1) := by decide +kernel
theorem r91_32 {E : Nat → Value} {d : Nat} {st : List Value} {h : gm_H} {r : gm_R × gm_H} {lv : List Value} : gm_Go E d 91 32 lv st h r ↔ gm_Go E d 91 33 lv (.long 0 :: st) h r := gr_pure m91 f91_32 rfl
theorem f91_33 : gm_ft 91 33 = some (.lcmp, 1) := by decide +kernel
theorem r91_33 {E : Nat → Value} {d : Nat} {st : List Value} {h : gm_H} {r : gm_R × gm_H} {lv : List Value} {x y : Int64} : gm_Go E d 91 33 lv (.long y :: .long x :: st) h r ↔ gm_Go E d 91 34 lv (.int (lg_cmp x y) :: st) h r := gr_pure m91 f91_33 rfl
theorem f91_34 : gm_ft 91 34 = some (.ifCond .lt 7, 3) := by decide +kernel
theorem r91_34 {E : Nat → Value} {d : Nat} {st : List Value} {h : gm_H} {r : gm_R × gm_H} {lv : List Value} {x : Int32} : gm_Go E d 91 34 lv (.int x :: st) h r ↔ (if x < 0 then gm_Go E d 91 41 lv st h r else gm_Go E d 91 37 lv st h r) := (gr_br m91 f91_34 rfl rfl rfl rfl).trans gr_if
theorem f91_37 : gm_ft 91 37 = some (.iconst 1, 1) := by decide +kernel
theorem r91_37 {E : Nat → Value} {d : Nat} {st : List Value} {h : gm_H} {r : gm_R × gm_H} {lv : List Value} : gm_Go E d 91 37 lv st h r ↔ gm_Go E d 91 38 lv (.int (1 : Int32) :: st) h r := gr_pure m91 f91_37 rfl
theorem f91_38 : gm_ft 91 38 = some (.goto 4, 3) := by decide +kernel
theorem r91_38 {E : Nat → Value} {d : Nat} {st : List Value} {h : gm_H} {r : gm_R × gm_H} {lv : List Value} : gm_Go E d 91 38 lv st h r ↔ gm_Go E d 91 42 lv st h r := gr_brT m91 f91_38 rfl rfl rfl rfl
theorem f91_41 : gm_ft 91 41 = some (.iconst 0, 1) := by decide +kernel
theorem r91_41 {E : Nat → Value} {d : Nat} {st : List Value} {h : gm_H} {r : gm_R × gm_H} {lv : List Value} : gm_Go E d 91 41 lv st h r ↔ gm_Go E d 91 42 lv (.int (0 : Int32) :: st) h r := gr_pure m91 f91_41 rfl
theorem f91_42 : gm_ft 91 42 = some (.ireturn, 1) := by decide +kernel
theorem r91_42_0 {E : Nat → Value} {d : Nat} {h : gm_H} {r : gm_R × gm_H} {lv : List Value} : gm_Go E d 91 42 lv [.int (0 : Int32)] h r ↔ r = (.inl (some (.int (0 : Int32))), h) := gr_ret m91 f91_42 rfl rfl rfl rfl rfl rfl rfl rfl (by unfold gm_rt; dsimp only; rw [if_pos ⟨rfl, rfl⟩])
theorem r91_42_1 {E : Nat → Value} {d : Nat} {h : gm_H} {r : gm_R × gm_H} {lv : List Value} : gm_Go E d 91 42 lv [.int (1 : Int32)] h r ↔ r = (.inl (some (.int (1 : Int32))), h) := gr_ret m91 f91_42 rfl rfl rfl rfl rfl rfl rfl rfl (by unfold gm_rt; dsimp only; rw [if_pos ⟨rfl, rfl⟩])
/-! GraphReader.readData(LGraphReader$Descriptor;LGraphReader$Thing;I)V -/
theorem m92 : gm_mt[92]? = some (⟨"GraphReader", "readData", "(LGraphReader$Descriptor;LGraphReader$Thing;I)V"⟩, prog_1_method_42_code, 10, none, [], 0, 1) := rfl
theorem f92_0 : gm_ft 92 0 = some (.aload_n 2, 1) := by decide +kernel
theorem r92_0 {E : Nat → Value} {d : Nat} {st : List Value} {h : gm_H} {r : gm_R × gm_H} {a0 a1 a3 a4 a5 a6 a7 a8 a9 : Value} {x : Nat} : gm_Go E d 92 0 [a0, a1, .ref x, a3, a4, a5, a6, a7, a8, a9] st h r ↔ gm_Go E d 92 1 [a0, a1, .ref x, a3, a4, a5, a6, a7, a8, a9] (.ref x :: st) h r := gr_loc m92 f92_0 rfl rfl
theorem r92_0n {E : Nat → Value} {d : Nat} {st : List Value} {h : gm_H} {r : gm_R × gm_H} {a0 a1 a3 a4 a5 a6 a7 a8 a9 : Value}  : gm_Go E d 92 0 [a0, a1, .null, a3, a4, a5, a6, a7, a8, a9] st h r ↔ gm_Go E d 92 1 [a0, a1, .null, a3, a4, a5, a6, a7, a8, a9] (.null :: st) h r := gr_loc m92 f92_0 rfl rfl
theorem f92_1 : gm_ft 92 1 = some (.getfield 137, 3) := by decide +kernel
theorem r92_1 {E : Nat → Value} {d : Nat} {st : List Value} {h : gm_H} {r : gm_R × gm_H} {lv : List Value} {a : Nat} {vs : List Value} {v : Value} (hr : gm_rd h a = some (4, vs)) (hv : vs[1]? = some v) : gm_Go E d 92 1 lv (.ref a :: st) h r ↔ gm_Go E d 92 4 lv (v :: st) h r := gr_rd m92 f92_1 rfl rfl rfl rfl (gf_get k0_137 hr hv)
theorem f92_4 : gm_ft 92 4 = some (.aload_n 1, 1) := by decide +kernel
theorem r92_4 {E : Nat → Value} {d : Nat} {st : List Value} {h : gm_H} {r : gm_R × gm_H} {a0 a2 a3 a4 a5 a6 a7 a8 a9 : Value} {x : Nat} : gm_Go E d 92 4 [a0, .ref x, a2, a3, a4, a5, a6, a7, a8, a9] st h r ↔ gm_Go E d 92 5 [a0, .ref x, a2, a3, a4, a5, a6, a7, a8, a9] (.ref x :: st) h r := gr_loc m92 f92_4 rfl rfl
theorem r92_4n {E : Nat → Value} {d : Nat} {st : List Value} {h : gm_H} {r : gm_R × gm_H} {a0 a2 a3 a4 a5 a6 a7 a8 a9 : Value}  : gm_Go E d 92 4 [a0, .null, a2, a3, a4, a5, a6, a7, a8, a9] st h r ↔ gm_Go E d 92 5 [a0, .null, a2, a3, a4, a5, a6, a7, a8, a9] (.null :: st) h r := gr_loc m92 f92_4 rfl rfl
theorem f92_5 : gm_ft 92 5 = some (.getfield 188, 3) := by decide +kernel
theorem r92_5 {E : Nat → Value} {d : Nat} {st : List Value} {h : gm_H} {r : gm_R × gm_H} {lv : List Value} {a : Nat} {vs : List Value} {v : Value} (hr : gm_rd h a = some (1, vs)) (hv : vs[9]? = some v) : gm_Go E d 92 5 lv (.ref a :: st) h r ↔ gm_Go E d 92 8 lv (v :: st) h r := gr_rd m92 f92_5 rfl rfl rfl rfl (gf_get k0_188 hr hv)
theorem f92_8 : gm_ft 92 8 = some (.invokevirtual 291, 3) := by decide +kernel
theorem n92_8 {st : List Value} {h : gm_H} {E : Nat → Value} {lv : List Value} {b0 : Value} {a : Nat} (hs : (st.map fun v => v.category).sum ≤ 8) (he : (gm_en1 [.ref a, b0]).length ≤ 3) {vs : List Value} (hr : gm_rd h a = some (3, vs)) : gm_next E 92 8 lv (b0 :: .ref a :: st) h = some (.inr (.inl (0, 117, [.ref a, b0], st))) := gn_call m92 f92_8 rfl rfl rfl rfl rfl rfl rfl (gc_virt (bs := [b0]) (w := 567) rfl rfl rfl rfl hs he hr) (by decide)
theorem f92_11 : gm_ft 92 11 = some (.ifCond .eq 10, 3) := by decide +kernel
theorem r92_11 {E : Nat → Value} {d : Nat} {st : List Value} {h : gm_H} {r : gm_R × gm_H} {lv : List Value} {x : Int32} : gm_Go E d 92 11 lv (.int x :: st) h r ↔ (if x = 0 then gm_Go E d 92 21 lv st h r else gm_Go E d 92 14 lv st h r) := (gr_br m92 f92_11 rfl rfl rfl rfl).trans gr_if
theorem f92_14 : gm_ft 92 14 = some (.aload_n 1, 1) := by decide +kernel
theorem r92_14 {E : Nat → Value} {d : Nat} {st : List Value} {h : gm_H} {r : gm_R × gm_H} {a0 a2 a3 a4 a5 a6 a7 a8 a9 : Value} {x : Nat} : gm_Go E d 92 14 [a0, .ref x, a2, a3, a4, a5, a6, a7, a8, a9] st h r ↔ gm_Go E d 92 15 [a0, .ref x, a2, a3, a4, a5, a6, a7, a8, a9] (.ref x :: st) h r := gr_loc m92 f92_14 rfl rfl
theorem r92_14n {E : Nat → Value} {d : Nat} {st : List Value} {h : gm_H} {r : gm_R × gm_H} {a0 a2 a3 a4 a5 a6 a7 a8 a9 : Value}  : gm_Go E d 92 14 [a0, .null, a2, a3, a4, a5, a6, a7, a8, a9] st h r ↔ gm_Go E d 92 15 [a0, .null, a2, a3, a4, a5, a6, a7, a8, a9] (.null :: st) h r := gr_loc m92 f92_14 rfl rfl
theorem f92_15 : gm_ft 92 15 = some (.getfield 188, 3) := by decide +kernel
theorem r92_15 {E : Nat → Value} {d : Nat} {st : List Value} {h : gm_H} {r : gm_R × gm_H} {lv : List Value} {a : Nat} {vs : List Value} {v : Value} (hr : gm_rd h a = some (1, vs)) (hv : vs[9]? = some v) : gm_Go E d 92 15 lv (.ref a :: st) h r ↔ gm_Go E d 92 18 lv (v :: st) h r := gr_rd m92 f92_15 rfl rfl rfl rfl (gf_get k0_188 hr hv)
theorem f92_18 : gm_ft 92 18 = some (.goto 4, 3) := by decide +kernel
theorem r92_18 {E : Nat → Value} {d : Nat} {st : List Value} {h : gm_H} {r : gm_R × gm_H} {lv : List Value} : gm_Go E d 92 18 lv st h r ↔ gm_Go E d 92 22 lv st h r := gr_brT m92 f92_18 rfl rfl rfl rfl
theorem f92_21 : gm_ft 92 21 = some (.aconst_null, 1) := by decide +kernel
theorem r92_21 {E : Nat → Value} {d : Nat} {st : List Value} {h : gm_H} {r : gm_R × gm_H} {lv : List Value} : gm_Go E d 92 21 lv st h r ↔ gm_Go E d 92 22 lv (.null :: st) h r := gr_pure m92 f92_21 rfl
theorem f92_22 : gm_ft 92 22 = some (.astore 4, 2) := by decide +kernel
theorem r92_22 {E : Nat → Value} {d : Nat} {st : List Value} {h : gm_H} {r : gm_R × gm_H} {a0 a1 a2 a3 a4 a5 a6 a7 a8 a9 : Value} {x : Nat} : gm_Go E d 92 22 [a0, a1, a2, a3, a4, a5, a6, a7, a8, a9] (.ref x :: st) h r ↔ gm_Go E d 92 24 [a0, a1, a2, gm_k a3, .ref x, a5, a6, a7, a8, a9] st h r := gr_loc m92 f92_22 rfl rfl
theorem r92_22n {E : Nat → Value} {d : Nat} {st : List Value} {h : gm_H} {r : gm_R × gm_H} {a0 a1 a2 a3 a4 a5 a6 a7 a8 a9 : Value}  : gm_Go E d 92 22 [a0, a1, a2, a3, a4, a5, a6, a7, a8, a9] (.null :: st) h r ↔ gm_Go E d 92 24 [a0, a1, a2, gm_k a3, .null, a5, a6, a7, a8, a9] st h r := gr_loc m92 f92_22 rfl rfl
theorem f92_24 : gm_ft 92 24 = some (.iconst 0, 1) := by decide +kernel
theorem r92_24 {E : Nat → Value} {d : Nat} {st : List Value} {h : gm_H} {r : gm_R × gm_H} {lv : List Value} : gm_Go E d 92 24 lv st h r ↔ gm_Go E d 92 25 lv (.int (0 : Int32) :: st) h r := gr_pure m92 f92_24 rfl
theorem f92_25 : gm_ft 92 25 = some (.istore 5, 2) := by decide +kernel
theorem r92_25 {E : Nat → Value} {d : Nat} {st : List Value} {h : gm_H} {r : gm_R × gm_H} {a0 a1 a2 a3 a4 a5 a6 a7 a8 a9 : Value} {x : Int32} : gm_Go E d 92 25 [a0, a1, a2, a3, a4, a5, a6, a7, a8, a9] (.int x :: st) h r ↔ gm_Go E d 92 27 [a0, a1, a2, a3, gm_k a4, .int x, a6, a7, a8, a9] st h r := gr_loc m92 f92_25 rfl rfl
theorem f92_27 : gm_ft 92 27 = some (.iload 5, 2) := by decide +kernel
theorem r92_27 {E : Nat → Value} {d : Nat} {st : List Value} {h : gm_H} {r : gm_R × gm_H} {a0 a1 a2 a3 a4 a6 a7 a8 a9 : Value} {x : Int32} : gm_Go E d 92 27 [a0, a1, a2, a3, a4, .int x, a6, a7, a8, a9] st h r ↔ gm_Go E d 92 29 [a0, a1, a2, a3, a4, .int x, a6, a7, a8, a9] (.int x :: st) h r := gr_loc m92 f92_27 rfl rfl
theorem f92_29 : gm_ft 92 29 = some (.aload_n 1, 1) := by decide +kernel
theorem r92_29 {E : Nat → Value} {d : Nat} {st : List Value} {h : gm_H} {r : gm_R × gm_H} {a0 a2 a3 a4 a5 a6 a7 a8 a9 : Value} {x : Nat} : gm_Go E d 92 29 [a0, .ref x, a2, a3, a4, a5, a6, a7, a8, a9] st h r ↔ gm_Go E d 92 30 [a0, .ref x, a2, a3, a4, a5, a6, a7, a8, a9] (.ref x :: st) h r := gr_loc m92 f92_29 rfl rfl
theorem r92_29n {E : Nat → Value} {d : Nat} {st : List Value} {h : gm_H} {r : gm_R × gm_H} {a0 a2 a3 a4 a5 a6 a7 a8 a9 : Value}  : gm_Go E d 92 29 [a0, .null, a2, a3, a4, a5, a6, a7, a8, a9] st h r ↔ gm_Go E d 92 30 [a0, .null, a2, a3, a4, a5, a6, a7, a8, a9] (.null :: st) h r := gr_loc m92 f92_29 rfl rfl
theorem f92_30 : gm_ft 92 30 = some (.getfield 295, 3) := by decide +kernel
theorem r92_30 {E : Nat → Value} {d : Nat} {st : List Value} {h : gm_H} {r : gm_R × gm_H} {lv : List Value} {a : Nat} {vs : List Value} {v : Value} (hr : gm_rd h a = some (1, vs)) (hv : vs[4]? = some v) : gm_Go E d 92 30 lv (.ref a :: st) h r ↔ gm_Go E d 92 33 lv (v :: st) h r := gr_rd m92 f92_30 rfl rfl rfl rfl (gf_get k0_295 hr hv)
theorem f92_33 : gm_ft 92 33 = some (.if_icmp .ge 107, 3) := by decide +kernel
theorem r92_33 {E : Nat → Value} {d : Nat} {st : List Value} {h : gm_H} {r : gm_R × gm_H} {lv : List Value} {x y : Int32} : gm_Go E d 92 33 lv (.int y :: .int x :: st) h r ↔ (if y ≤ x then gm_Go E d 92 140 lv st h r else gm_Go E d 92 36 lv st h r) := (gr_br m92 f92_33 rfl rfl rfl rfl).trans gr_if
theorem f92_36 : gm_ft 92 36 = some (.aload_n 1, 1) := by decide +kernel
theorem r92_36 {E : Nat → Value} {d : Nat} {st : List Value} {h : gm_H} {r : gm_R × gm_H} {a0 a2 a3 a4 a5 a6 a7 a8 a9 : Value} {x : Nat} : gm_Go E d 92 36 [a0, .ref x, a2, a3, a4, a5, a6, a7, a8, a9] st h r ↔ gm_Go E d 92 37 [a0, .ref x, a2, a3, a4, a5, a6, a7, a8, a9] (.ref x :: st) h r := gr_loc m92 f92_36 rfl rfl
theorem r92_36n {E : Nat → Value} {d : Nat} {st : List Value} {h : gm_H} {r : gm_R × gm_H} {a0 a2 a3 a4 a5 a6 a7 a8 a9 : Value}  : gm_Go E d 92 36 [a0, .null, a2, a3, a4, a5, a6, a7, a8, a9] st h r ↔ gm_Go E d 92 37 [a0, .null, a2, a3, a4, a5, a6, a7, a8, a9] (.null :: st) h r := gr_loc m92 f92_36 rfl rfl
theorem f92_37 : gm_ft 92 37 = some (.getfield 296, 3) := by decide +kernel
theorem r92_37 {E : Nat → Value} {d : Nat} {st : List Value} {h : gm_H} {r : gm_R × gm_H} {lv : List Value} {a : Nat} {vs : List Value} {v : Value} (hr : gm_rd h a = some (1, vs)) (hv : vs[6]? = some v) : gm_Go E d 92 37 lv (.ref a :: st) h r ↔ gm_Go E d 92 40 lv (v :: st) h r := gr_rd m92 f92_37 rfl rfl rfl rfl (gf_get k0_296 hr hv)
theorem f92_40 : gm_ft 92 40 = some (.iload 5, 2) := by decide +kernel
theorem r92_40 {E : Nat → Value} {d : Nat} {st : List Value} {h : gm_H} {r : gm_R × gm_H} {a0 a1 a2 a3 a4 a6 a7 a8 a9 : Value} {x : Int32} : gm_Go E d 92 40 [a0, a1, a2, a3, a4, .int x, a6, a7, a8, a9] st h r ↔ gm_Go E d 92 42 [a0, a1, a2, a3, a4, .int x, a6, a7, a8, a9] (.int x :: st) h r := gr_loc m92 f92_40 rfl rfl
theorem f92_42 : gm_ft 92 42 = some (.iaload, 1) := by decide +kernel
theorem r92_42 {E : Nat → Value} {d : Nat} {st : List Value} {h : gm_H} {r : gm_R × gm_H} {lv : List Value} {a k j : Nat} {vs : List Value} {v : Value} (hr : gm_rd h a = some (k, vs)) (hk : 100 ≤ k ∧ (fun t => t == 0) (k % 100) = true) (hj : j < 2 ^ 31) (hv : vs[j]? = some v) : gm_Go E d 92 42 lv (.int (nI j) :: .ref a :: st) h r ↔ gm_Go E d 92 43 lv (v :: st) h r := gr_rd m92 f92_42 rfl rfl rfl rfl (ga_ld (P := fun t => t == 0) hr hk hj hv)
theorem f92_43 : gm_ft 92 43 = some (.istore 6, 2) := by decide +kernel
theorem r92_43 {E : Nat → Value} {d : Nat} {st : List Value} {h : gm_H} {r : gm_R × gm_H} {a0 a1 a2 a3 a4 a5 a6 a7 a8 a9 : Value} {x : Int32} : gm_Go E d 92 43 [a0, a1, a2, a3, a4, a5, a6, a7, a8, a9] (.int x :: st) h r ↔ gm_Go E d 92 45 [a0, a1, a2, a3, a4, gm_k a5, .int x, a7, a8, a9] st h r := gr_loc m92 f92_43 rfl rfl
theorem f92_45 : gm_ft 92 45 = some (.iload 6, 2) := by decide +kernel
theorem r92_45 {E : Nat → Value} {d : Nat} {st : List Value} {h : gm_H} {r : gm_R × gm_H} {a0 a1 a2 a3 a4 a5 a7 a8 a9 : Value} {x : Int32} : gm_Go E d 92 45 [a0, a1, a2, a3, a4, a5, .int x, a7, a8, a9] st h r ↔ gm_Go E d 92 47 [a0, a1, a2, a3, a4, a5, .int x, a7, a8, a9] (.int x :: st) h r := gr_loc m92 f92_45 rfl rfl
theorem f92_47 : gm_ft 92 47 = some (.bipush 6, 2) := by decide +kernel
theorem r92_47 {E : Nat → Value} {d : Nat} {st : List Value} {h : gm_H} {r : gm_R × gm_H} {lv : List Value} : gm_Go E d 92 47 lv st h r ↔ gm_Go E d 92 49 lv (.int (6 : Int32) :: st) h r := gr_pure m92 f92_47 rfl
theorem f92_49 : gm_ft 92 49 = some (.if_icmp .ge 12, 3) := by decide +kernel
theorem r92_49 {E : Nat → Value} {d : Nat} {st : List Value} {h : gm_H} {r : gm_R × gm_H} {lv : List Value} {x y : Int32} : gm_Go E d 92 49 lv (.int y :: .int x :: st) h r ↔ (if y ≤ x then gm_Go E d 92 61 lv st h r else gm_Go E d 92 52 lv st h r) := (gr_br m92 f92_49 rfl rfl rfl rfl).trans gr_if
theorem f92_52 : gm_ft 92 52 = some (.aload_n 0, 1) := by decide +kernel
theorem r92_52 {E : Nat → Value} {d : Nat} {st : List Value} {h : gm_H} {r : gm_R × gm_H} {a1 a2 a3 a4 a5 a6 a7 a8 a9 : Value} {x : Nat} : gm_Go E d 92 52 [.ref x, a1, a2, a3, a4, a5, a6, a7, a8, a9] st h r ↔ gm_Go E d 92 53 [.ref x, a1, a2, a3, a4, a5, a6, a7, a8, a9] (.ref x :: st) h r := gr_loc m92 f92_52 rfl rfl
theorem r92_52n {E : Nat → Value} {d : Nat} {st : List Value} {h : gm_H} {r : gm_R × gm_H} {a1 a2 a3 a4 a5 a6 a7 a8 a9 : Value}  : gm_Go E d 92 52 [.null, a1, a2, a3, a4, a5, a6, a7, a8, a9] st h r ↔ gm_Go E d 92 53 [.null, a1, a2, a3, a4, a5, a6, a7, a8, a9] (.null :: st) h r := gr_loc m92 f92_52 rfl rfl
theorem f92_53 : gm_ft 92 53 = some (.iload 6, 2) := by decide +kernel
theorem r92_53 {E : Nat → Value} {d : Nat} {st : List Value} {h : gm_H} {r : gm_R × gm_H} {a0 a1 a2 a3 a4 a5 a7 a8 a9 : Value} {x : Int32} : gm_Go E d 92 53 [a0, a1, a2, a3, a4, a5, .int x, a7, a8, a9] st h r ↔ gm_Go E d 92 55 [a0, a1, a2, a3, a4, a5, .int x, a7, a8, a9] (.int x :: st) h r := gr_loc m92 f92_53 rfl rfl
theorem f92_55 : gm_ft 92 55 = some (.invokevirtual 297, 3) := by decide +kernel
theorem n92_55 {st : List Value} {h : gm_H} {E : Nat → Value} {lv : List Value} {b0 : Value} {a : Nat} (hs : (st.map fun v => v.category).sum ≤ 8) (he : (gm_en1 [.ref a, b0]).length ≤ 4) {vs : List Value} (hr : gm_rd h a = some (0, vs)) : gm_next E 92 55 lv (b0 :: .ref a :: st) h = some (.inr (.inl (0, 93, [.ref a, b0], st))) := gn_call m92 f92_55 rfl rfl rfl rfl rfl rfl rfl (gc_virt (bs := [b0]) (w := 571) rfl rfl rfl rfl hs he hr) (by decide)
theorem f92_58 : gm_ft 92 58 = some (.goto 11, 3) := by decide +kernel
theorem r92_58 {E : Nat → Value} {d : Nat} {st : List Value} {h : gm_H} {r : gm_R × gm_H} {lv : List Value} : gm_Go E d 92 58 lv st h r ↔ gm_Go E d 92 69 lv st h r := gr_brT m92 f92_58 rfl rfl rfl rfl
theorem f92_61 : gm_ft 92 61 = some (.aload_n 0, 1) := by decide +kernel
theorem r92_61 {E : Nat → Value} {d : Nat} {st : List Value} {h : gm_H} {r : gm_R × gm_H} {a1 a2 a3 a4 a5 a6 a7 a8 a9 : Value} {x : Nat} : gm_Go E d 92 61 [.ref x, a1, a2, a3, a4, a5, a6, a7, a8, a9] st h r ↔ gm_Go E d 92 62 [.ref x, a1, a2, a3, a4, a5, a6, a7, a8, a9] (.ref x :: st) h r := gr_loc m92 f92_61 rfl rfl
theorem r92_61n {E : Nat → Value} {d : Nat} {st : List Value} {h : gm_H} {r : gm_R × gm_H} {a1 a2 a3 a4 a5 a6 a7 a8 a9 : Value}  : gm_Go E d 92 61 [.null, a1, a2, a3, a4, a5, a6, a7, a8, a9] st h r ↔ gm_Go E d 92 62 [.null, a1, a2, a3, a4, a5, a6, a7, a8, a9] (.null :: st) h r := gr_loc m92 f92_61 rfl rfl
theorem f92_62 : gm_ft 92 62 = some (.iload_n 3, 1) := by decide +kernel
theorem r92_62 {E : Nat → Value} {d : Nat} {st : List Value} {h : gm_H} {r : gm_R × gm_H} {a0 a1 a2 a4 a5 a6 a7 a8 a9 : Value} {x : Int32} : gm_Go E d 92 62 [a0, a1, a2, .int x, a4, a5, a6, a7, a8, a9] st h r ↔ gm_Go E d 92 63 [a0, a1, a2, .int x, a4, a5, a6, a7, a8, a9] (.int x :: st) h r := gr_loc m92 f92_62 rfl rfl
theorem f92_63 : gm_ft 92 63 = some (.iconst 1, 1) := by decide +kernel
theorem r92_63 {E : Nat → Value} {d : Nat} {st : List Value} {h : gm_H} {r : gm_R × gm_H} {lv : List Value} : gm_Go E d 92 63 lv st h r ↔ gm_Go E d 92 64 lv (.int (1 : Int32) :: st) h r := gr_pure m92 f92_63 rfl
theorem f92_64 : gm_ft 92 64 = some (.iadd, 1) := by decide +kernel
theorem r92_64 {E : Nat → Value} {d : Nat} {st : List Value} {h : gm_H} {r : gm_R × gm_H} {lv : List Value} {x y : Int32} : gm_Go E d 92 64 lv (.int y :: .int x :: st) h r ↔ gm_Go E d 92 65 lv (.int (x + y) :: st) h r := gr_pure m92 f92_64 rfl
theorem f92_65 : gm_ft 92 65 = some (.invokevirtual 182, 3) := by decide +kernel
theorem n92_65 {st : List Value} {h : gm_H} {E : Nat → Value} {lv : List Value} {b0 : Value} {a : Nat} (hs : (st.map fun v => v.category).sum ≤ 8) (he : (gm_en1 [.ref a, b0]).length ≤ 2) {vs : List Value} (hr : gm_rd h a = some (0, vs)) : gm_next E 92 65 lv (b0 :: .ref a :: st) h = some (.inr (.inl (0, 82, [.ref a, b0], st))) := gn_call m92 f92_65 rfl rfl rfl rfl rfl rfl rfl (gc_virt (bs := [b0]) (w := 270) rfl rfl rfl rfl hs he hr) (by decide)
theorem f92_68 : gm_ft 92 68 = some (.i2l, 1) := by decide +kernel
theorem r92_68 {E : Nat → Value} {d : Nat} {st : List Value} {h : gm_H} {r : gm_R × gm_H} {lv : List Value} {x : Int32} : gm_Go E d 92 68 lv (.int x :: st) h r ↔ gm_Go E d 92 69 lv (.long (x.toInt64) :: st) h r := gr_pure m92 f92_68 rfl
theorem f92_69 : gm_ft 92 69 = some (.lstore 7, 2) := by decide +kernel
theorem r92_69 {E : Nat → Value} {d : Nat} {st : List Value} {h : gm_H} {r : gm_R × gm_H} {a0 a1 a2 a3 a4 a5 a6 a7 a8 a9 : Value} {x : Int64} : gm_Go E d 92 69 [a0, a1, a2, a3, a4, a5, a6, a7, a8, a9] (.long x :: st) h r ↔ gm_Go E d 92 71 [a0, a1, a2, a3, a4, a5, gm_k a6, .long x, gm_u, a9] st h r := gr_loc m92 f92_69 rfl rfl
theorem f92_71 : gm_ft 92 71 = some (.aload 4, 2) := by decide +kernel
theorem r92_71 {E : Nat → Value} {d : Nat} {st : List Value} {h : gm_H} {r : gm_R × gm_H} {a0 a1 a2 a3 a5 a6 a7 a8 a9 : Value} {x : Nat} : gm_Go E d 92 71 [a0, a1, a2, a3, .ref x, a5, a6, a7, a8, a9] st h r ↔ gm_Go E d 92 73 [a0, a1, a2, a3, .ref x, a5, a6, a7, a8, a9] (.ref x :: st) h r := gr_loc m92 f92_71 rfl rfl
theorem r92_71n {E : Nat → Value} {d : Nat} {st : List Value} {h : gm_H} {r : gm_R × gm_H} {a0 a1 a2 a3 a5 a6 a7 a8 a9 : Value}  : gm_Go E d 92 71 [a0, a1, a2, a3, .null, a5, a6, a7, a8, a9] st h r ↔ gm_Go E d 92 73 [a0, a1, a2, a3, .null, a5, a6, a7, a8, a9] (.null :: st) h r := gr_loc m92 f92_71 rfl rfl
theorem f92_73 : gm_ft 92 73 = some (.ifnonnull 7, 3) := by decide +kernel
theorem r92_73n {E : Nat → Value} {d : Nat} {st : List Value} {h : gm_H} {r : gm_R × gm_H} {lv : List Value} : gm_Go E d 92 73 lv (.null :: st) h r ↔ gm_Go E d 92 76 lv st h r := gr_brF m92 f92_73 rfl rfl rfl rfl
theorem r92_73 {E : Nat → Value} {d : Nat} {st : List Value} {h : gm_H} {r : gm_R × gm_H} {lv : List Value} {a : Nat} : gm_Go E d 92 73 lv (.ref a :: st) h r ↔ gm_Go E d 92 80 lv st h r := gr_brT m92 f92_73 rfl rfl rfl rfl
theorem f92_76 : gm_ft 92 76 = some (.iconst (-1), 1) := by decide +kernel
theorem r92_76 {E : Nat → Value} {d : Nat} {st : List Value} {h : gm_H} {r : gm_R × gm_H} {lv : List Value} : gm_Go E d 92 76 lv st h r ↔ gm_Go E d 92 77 lv (.int (-1 : Int32) :: st) h r := gr_pure m92 f92_76 rfl
theorem f92_77 : gm_ft 92 77 = some (.goto 17, 3) := by decide +kernel
theorem r92_77 {E : Nat → Value} {d : Nat} {st : List Value} {h : gm_H} {r : gm_R × gm_H} {lv : List Value} : gm_Go E d 92 77 lv st h r ↔ gm_Go E d 92 94 lv st h r := gr_brT m92 f92_77 rfl rfl rfl rfl
theorem f92_80 : gm_ft 92 80 = some (.aload 4, 2) := by decide +kernel
theorem r92_80 {E : Nat → Value} {d : Nat} {st : List Value} {h : gm_H} {r : gm_R × gm_H} {a0 a1 a2 a3 a5 a6 a7 a8 a9 : Value} {x : Nat} : gm_Go E d 92 80 [a0, a1, a2, a3, .ref x, a5, a6, a7, a8, a9] st h r ↔ gm_Go E d 92 82 [a0, a1, a2, a3, .ref x, a5, a6, a7, a8, a9] (.ref x :: st) h r := gr_loc m92 f92_80 rfl rfl
theorem r92_80n {E : Nat → Value} {d : Nat} {st : List Value} {h : gm_H} {r : gm_R × gm_H} {a0 a1 a2 a3 a5 a6 a7 a8 a9 : Value}  : gm_Go E d 92 80 [a0, a1, a2, a3, .null, a5, a6, a7, a8, a9] st h r ↔ gm_Go E d 92 82 [a0, a1, a2, a3, .null, a5, a6, a7, a8, a9] (.null :: st) h r := gr_loc m92 f92_80 rfl rfl
theorem f92_82 : gm_ft 92 82 = some (.aload_n 1, 1) := by decide +kernel
theorem r92_82 {E : Nat → Value} {d : Nat} {st : List Value} {h : gm_H} {r : gm_R × gm_H} {a0 a2 a3 a4 a5 a6 a7 a8 a9 : Value} {x : Nat} : gm_Go E d 92 82 [a0, .ref x, a2, a3, a4, a5, a6, a7, a8, a9] st h r ↔ gm_Go E d 92 83 [a0, .ref x, a2, a3, a4, a5, a6, a7, a8, a9] (.ref x :: st) h r := gr_loc m92 f92_82 rfl rfl
theorem r92_82n {E : Nat → Value} {d : Nat} {st : List Value} {h : gm_H} {r : gm_R × gm_H} {a0 a2 a3 a4 a5 a6 a7 a8 a9 : Value}  : gm_Go E d 92 82 [a0, .null, a2, a3, a4, a5, a6, a7, a8, a9] st h r ↔ gm_Go E d 92 83 [a0, .null, a2, a3, a4, a5, a6, a7, a8, a9] (.null :: st) h r := gr_loc m92 f92_82 rfl rfl
theorem f92_83 : gm_ft 92 83 = some (.getfield 300, 3) := by decide +kernel
theorem r92_83 {E : Nat → Value} {d : Nat} {st : List Value} {h : gm_H} {r : gm_R × gm_H} {lv : List Value} {a : Nat} {vs : List Value} {v : Value} (hr : gm_rd h a = some (1, vs)) (hv : vs[5]? = some v) : gm_Go E d 92 83 lv (.ref a :: st) h r ↔ gm_Go E d 92 86 lv (v :: st) h r := gr_rd m92 f92_83 rfl rfl rfl rfl (gf_get k0_300 hr hv)
theorem f92_86 : gm_ft 92 86 = some (.iload 5, 2) := by decide +kernel
theorem r92_86 {E : Nat → Value} {d : Nat} {st : List Value} {h : gm_H} {r : gm_R × gm_H} {a0 a1 a2 a3 a4 a6 a7 a8 a9 : Value} {x : Int32} : gm_Go E d 92 86 [a0, a1, a2, a3, a4, .int x, a6, a7, a8, a9] st h r ↔ gm_Go E d 92 88 [a0, a1, a2, a3, a4, .int x, a6, a7, a8, a9] (.int x :: st) h r := gr_loc m92 f92_86 rfl rfl
theorem f92_88 : gm_ft 92 88 = some (.iaload, 1) := by decide +kernel
theorem r92_88 {E : Nat → Value} {d : Nat} {st : List Value} {h : gm_H} {r : gm_R × gm_H} {lv : List Value} {a k j : Nat} {vs : List Value} {v : Value} (hr : gm_rd h a = some (k, vs)) (hk : 100 ≤ k ∧ (fun t => t == 0) (k % 100) = true) (hj : j < 2 ^ 31) (hv : vs[j]? = some v) : gm_Go E d 92 88 lv (.int (nI j) :: .ref a :: st) h r ↔ gm_Go E d 92 89 lv (v :: st) h r := gr_rd m92 f92_88 rfl rfl rfl rfl (ga_ld (P := fun t => t == 0) hr hk hj hv)
theorem f92_89 : gm_ft 92 89 = some (.iload 6, 2) := by decide +kernel
theorem r92_89 {E : Nat → Value} {d : Nat} {st : List Value} {h : gm_H} {r : gm_R × gm_H} {a0 a1 a2 a3 a4 a5 a7 a8 a9 : Value} {x : Int32} : gm_Go E d 92 89 [a0, a1, a2, a3, a4, a5, .int x, a7, a8, a9] st h r ↔ gm_Go E d 92 91 [a0, a1, a2, a3, a4, a5, .int x, a7, a8, a9] (.int x :: st) h r := gr_loc m92 f92_89 rfl rfl
theorem f92_91 : gm_ft 92 91 = some (.invokevirtual 303, 3) := by decide +kernel
theorem n92_91 {st : List Value} {h : gm_H} {E : Nat → Value} {lv : List Value} {b0 b1 : Value} {a : Nat} (hs : (st.map fun v => v.category).sum ≤ 8) (he : (gm_en1 [.ref a, b0, b1]).length ≤ 4) {vs : List Value} (hr : gm_rd h a = some (3, vs)) : gm_next E 92 91 lv (b1 :: b0 :: .ref a :: st) h = some (.inr (.inl (0, 120, [.ref a, b0, b1], st))) := gn_call m92 f92_91 rfl rfl rfl rfl rfl rfl rfl (gc_virt (bs := [b1, b0]) (w := 577) rfl rfl rfl rfl hs he hr) (by decide)
theorem f92_94 : gm_ft 92 94 = some (.istore 9, 2) := by decide +kernel
theorem r92_94 {E : Nat → Value} {d : Nat} {st : List Value} {h : gm_H} {r : gm_R × gm_H} {a0 a1 a2 a3 a4 a5 a6 a7 a8 a9 : Value} {x : Int32} : gm_Go E d 92 94 [a0, a1, a2, a3, a4, a5, a6, a7, a8, a9] (.int x :: st) h r ↔ gm_Go E d 92 96 [a0, a1, a2, a3, a4, a5, a6, a7, gm_k a8, .int x] st h r := gr_loc m92 f92_94 rfl rfl
theorem f92_96 : gm_ft 92 96 = some (.iload 9, 2) := by decide +kernel
theorem r92_96 {E : Nat → Value} {d : Nat} {st : List Value} {h : gm_H} {r : gm_R × gm_H} {a0 a1 a2 a3 a4 a5 a6 a7 a8 : Value} {x : Int32} : gm_Go E d 92 96 [a0, a1, a2, a3, a4, a5, a6, a7, a8, .int x] st h r ↔ gm_Go E d 92 98 [a0, a1, a2, a3, a4, a5, a6, a7, a8, .int x] (.int x :: st) h r := gr_loc m92 f92_96 rfl rfl
theorem f92_98 : gm_ft 92 98 = some (.ifCond .lt 36, 3) := by decide +kernel
theorem r92_98 {E : Nat → Value} {d : Nat} {st : List Value} {h : gm_H} {r : gm_R × gm_H} {lv : List Value} {x : Int32} : gm_Go E d 92 98 lv (.int x :: st) h r ↔ (if x < 0 then gm_Go E d 92 134 lv st h r else gm_Go E d 92 101 lv st h r) := (gr_br m92 f92_98 rfl rfl rfl rfl).trans gr_if
theorem f92_101 : gm_ft 92 101 = some (.iload 6, 2) := by decide +kernel
theorem r92_101 {E : Nat → Value} {d : Nat} {st : List Value} {h : gm_H} {r : gm_R × gm_H} {a0 a1 a2 a3 a4 a5 a7 a8 a9 : Value} {x : Int32} : gm_Go E d 92 101 [a0, a1, a2, a3, a4, a5, .int x, a7, a8, a9] st h r ↔ gm_Go E d 92 103 [a0, a1, a2, a3, a4, a5, .int x, a7, a8, a9] (.int x :: st) h r := gr_loc m92 f92_101 rfl rfl
theorem f92_103 : gm_ft 92 103 = some (.bipush 6, 2) := by decide +kernel
theorem r92_103 {E : Nat → Value} {d : Nat} {st : List Value} {h : gm_H} {r : gm_R × gm_H} {lv : List Value} : gm_Go E d 92 103 lv st h r ↔ gm_Go E d 92 105 lv (.int (6 : Int32) :: st) h r := gr_pure m92 f92_103 rfl
theorem f92_105 : gm_ft 92 105 = some (.if_icmp .ne 20, 3) := by decide +kernel
theorem r92_105 {E : Nat → Value} {d : Nat} {st : List Value} {h : gm_H} {r : gm_R × gm_H} {lv : List Value} {x y : Int32} : gm_Go E d 92 105 lv (.int y :: .int x :: st) h r ↔ (if x = y then gm_Go E d 92 108 lv st h r else gm_Go E d 92 125 lv st h r) := (gr_br m92 f92_105 rfl rfl rfl rfl).trans gr_ifn
theorem f92_108 : gm_ft 92 108 = some (.aload_n 0, 1) := by decide +kernel
theorem r92_108 {E : Nat → Value} {d : Nat} {st : List Value} {h : gm_H} {r : gm_R × gm_H} {a1 a2 a3 a4 a5 a6 a7 a8 a9 : Value} {x : Nat} : gm_Go E d 92 108 [.ref x, a1, a2, a3, a4, a5, a6, a7, a8, a9] st h r ↔ gm_Go E d 92 109 [.ref x, a1, a2, a3, a4, a5, a6, a7, a8, a9] (.ref x :: st) h r := gr_loc m92 f92_108 rfl rfl
theorem r92_108n {E : Nat → Value} {d : Nat} {st : List Value} {h : gm_H} {r : gm_R × gm_H} {a1 a2 a3 a4 a5 a6 a7 a8 a9 : Value}  : gm_Go E d 92 108 [.null, a1, a2, a3, a4, a5, a6, a7, a8, a9] st h r ↔ gm_Go E d 92 109 [.null, a1, a2, a3, a4, a5, a6, a7, a8, a9] (.null :: st) h r := gr_loc m92 f92_108 rfl rfl
theorem f92_109 : gm_ft 92 109 = some (.lload 7, 2) := by decide +kernel
theorem r92_109 {E : Nat → Value} {d : Nat} {st : List Value} {h : gm_H} {r : gm_R × gm_H} {a0 a1 a2 a3 a4 a5 a6 a8 a9 : Value} {x : Int64} : gm_Go E d 92 109 [a0, a1, a2, a3, a4, a5, a6, .long x, a8, a9] st h r ↔ gm_Go E d 92 111 [a0, a1, a2, a3, a4, a5, a6, .long x, a8, a9] (.long x :: st) h r := gr_loc m92 f92_109 rfl rfl
theorem f92_111 : gm_ft 92 111 = some (.l2i, 1) := by decide +kernel
theorem r92_111 {E : Nat → Value} {d : Nat} {st : List Value} {h : gm_H} {r : gm_R × gm_H} {lv : List Value} {x : Int64} : gm_Go E d 92 111 lv (.long x :: st) h r ↔ gm_Go E d 92 112 lv (.int (x.toInt32) :: st) h r := gr_pure m92 f92_111 rfl
theorem f92_112 : gm_ft 92 112 = some (.invokevirtual 306, 3) := by decide +kernel
theorem n92_112 {st : List Value} {h : gm_H} {E : Nat → Value} {lv : List Value} {b0 : Value} {a : Nat} (hs : (st.map fun v => v.category).sum ≤ 8) (he : (gm_en1 [.ref a, b0]).length ≤ 2) {vs : List Value} (hr : gm_rd h a = some (0, vs)) : gm_next E 92 112 lv (b0 :: .ref a :: st) h = some (.inr (.inl (0, 94, [.ref a, b0], st))) := gn_call m92 f92_112 rfl rfl rfl rfl rfl rfl rfl (gc_virt (bs := [b0]) (w := 582) rfl rfl rfl rfl hs he hr) (by decide)
theorem f92_115 : gm_ft 92 115 = some (.ifCond .ne 10, 3) := by decide +kernel
theorem r92_115 {E : Nat → Value} {d : Nat} {st : List Value} {h : gm_H} {r : gm_R × gm_H} {lv : List Value} {x : Int32} : gm_Go E d 92 115 lv (.int x :: st) h r ↔ (if x = 0 then gm_Go E d 92 118 lv st h r else gm_Go E d 92 125 lv st h r) := (gr_br m92 f92_115 rfl rfl rfl rfl).trans gr_ifn
theorem f92_118 : gm_ft 92 118 = some (.aload_n 0, 1) := by decide +kernel
theorem r92_118 {E : Nat → Value} {d : Nat} {st : List Value} {h : gm_H} {r : gm_R × gm_H} {a1 a2 a3 a4 a5 a6 a7 a8 a9 : Value} {x : Nat} : gm_Go E d 92 118 [.ref x, a1, a2, a3, a4, a5, a6, a7, a8, a9] st h r ↔ gm_Go E d 92 119 [.ref x, a1, a2, a3, a4, a5, a6, a7, a8, a9] (.ref x :: st) h r := gr_loc m92 f92_118 rfl rfl
theorem r92_118n {E : Nat → Value} {d : Nat} {st : List Value} {h : gm_H} {r : gm_R × gm_H} {a1 a2 a3 a4 a5 a6 a7 a8 a9 : Value}  : gm_Go E d 92 118 [.null, a1, a2, a3, a4, a5, a6, a7, a8, a9] st h r ↔ gm_Go E d 92 119 [.null, a1, a2, a3, a4, a5, a6, a7, a8, a9] (.null :: st) h r := gr_loc m92 f92_118 rfl rfl
theorem f92_119 : gm_ft 92 119 = some (.bipush (-6), 2) := by decide +kernel
theorem r92_119 {E : Nat → Value} {d : Nat} {st : List Value} {h : gm_H} {r : gm_R × gm_H} {lv : List Value} : gm_Go E d 92 119 lv st h r ↔ gm_Go E d 92 121 lv (.int (-6 : Int32) :: st) h r := gr_pure m92 f92_119 rfl
theorem f92_121 : gm_ft 92 121 = some (.invokevirtual 160, 3) := by decide +kernel
theorem n92_121 {st : List Value} {h : gm_H} {E : Nat → Value} {lv : List Value} {b0 : Value} {a : Nat} (hs : (st.map fun v => v.category).sum ≤ 8) (he : (gm_en1 [.ref a, b0]).length ≤ 2) {vs : List Value} (hr : gm_rd h a = some (0, vs)) : gm_next E 92 121 lv (b0 :: .ref a :: st) h = some (.inr (.inl (0, 66, [.ref a, b0], st))) := gn_call m92 f92_121 rfl rfl rfl rfl rfl rfl rfl (gc_virt (bs := [b0]) (w := 206) rfl rfl rfl rfl hs he hr) (by decide)
theorem f92_124 : gm_ft 92 124 = some (.pop, 1) := by decide +kernel
theorem r92_124 {E : Nat → Value} {d : Nat} {st : List Value} {h : gm_H} {r : gm_R × gm_H} {lv : List Value} {x : Int32} : gm_Go E d 92 124 lv (.int x :: st) h r ↔ gm_Go E d 92 125 lv st h r := gr_pure m92 f92_124 rfl
theorem r92_124a {E : Nat → Value} {d : Nat} {st : List Value} {h : gm_H} {r : gm_R × gm_H} {lv : List Value} {a : Nat} : gm_Go E d 92 124 lv (.ref a :: st) h r ↔ gm_Go E d 92 125 lv st h r := gr_pure m92 f92_124 rfl
theorem r92_124n {E : Nat → Value} {d : Nat} {st : List Value} {h : gm_H} {r : gm_R × gm_H} {lv : List Value} : gm_Go E d 92 124 lv (.null :: st) h r ↔ gm_Go E d 92 125 lv st h r := gr_pure m92 f92_124 rfl
theorem f92_125 : gm_ft 92 125 = some (.aload_n 2, 1) := by decide +kernel
theorem r92_125 {E : Nat → Value} {d : Nat} {st : List Value} {h : gm_H} {r : gm_R × gm_H} {a0 a1 a3 a4 a5 a6 a7 a8 a9 : Value} {x : Nat} : gm_Go E d 92 125 [a0, a1, .ref x, a3, a4, a5, a6, a7, a8, a9] st h r ↔ gm_Go E d 92 126 [a0, a1, .ref x, a3, a4, a5, a6, a7, a8, a9] (.ref x :: st) h r := gr_loc m92 f92_125 rfl rfl
theorem r92_125n {E : Nat → Value} {d : Nat} {st : List Value} {h : gm_H} {r : gm_R × gm_H} {a0 a1 a3 a4 a5 a6 a7 a8 a9 : Value}  : gm_Go E d 92 125 [a0, a1, .null, a3, a4, a5, a6, a7, a8, a9] st h r ↔ gm_Go E d 92 126 [a0, a1, .null, a3, a4, a5, a6, a7, a8, a9] (.null :: st) h r := gr_loc m92 f92_125 rfl rfl
theorem f92_126 : gm_ft 92 126 = some (.getfield 147, 3) := by decide +kernel
theorem r92_126 {E : Nat → Value} {d : Nat} {st : List Value} {h : gm_H} {r : gm_R × gm_H} {lv : List Value} {a : Nat} {vs : List Value} {v : Value} (hr : gm_rd h a = some (4, vs)) (hv : vs[2]? = some v) : gm_Go E d 92 126 lv (.ref a :: st) h r ↔ gm_Go E d 92 129 lv (v :: st) h r := gr_rd m92 f92_126 rfl rfl rfl rfl (gf_get k0_147 hr hv)
theorem f92_129 : gm_ft 92 129 = some (.iload 9, 2) := by decide +kernel
theorem r92_129 {E : Nat → Value} {d : Nat} {st : List Value} {h : gm_H} {r : gm_R × gm_H} {a0 a1 a2 a3 a4 a5 a6 a7 a8 : Value} {x : Int32} : gm_Go E d 92 129 [a0, a1, a2, a3, a4, a5, a6, a7, a8, .int x] st h r ↔ gm_Go E d 92 131 [a0, a1, a2, a3, a4, a5, a6, a7, a8, .int x] (.int x :: st) h r := gr_loc m92 f92_129 rfl rfl
theorem f92_131 : gm_ft 92 131 = some (.lload 7, 2) := by decide +kernel
theorem r92_131 {E : Nat → Value} {d : Nat} {st : List Value} {h : gm_H} {r : gm_R × gm_H} {a0 a1 a2 a3 a4 a5 a6 a8 a9 : Value} {x : Int64} : gm_Go E d 92 131 [a0, a1, a2, a3, a4, a5, a6, .long x, a8, a9] st h r ↔ gm_Go E d 92 133 [a0, a1, a2, a3, a4, a5, a6, .long x, a8, a9] (.long x :: st) h r := gr_loc m92 f92_131 rfl rfl
theorem f92_133 : gm_ft 92 133 = some (.lastore, 1) := by decide +kernel
theorem r92_133 {E : Nat → Value} {d : Nat} {st : List Value} {h : gm_H} {r : gm_R × gm_H} {lv : List Value} {a k j : Nat} {vs : List Value} {x : Int64} (hr : gm_rd h a = some (k, vs)) (hk : 100 ≤ k ∧ k % 100 = 1 ∧ gm_ko k = 1 ∧ 1 < 3) (hj : j < 2 ^ 31) (hl : j < vs.length) : gm_Go E d 92 133 lv (.long x :: .int (nI j) :: .ref a :: st) h r ↔ gm_Go E d 92 134 lv st (gm_wr h a (k, vs.set j (.long x))) r := gr_wr m92 f92_133 rfl rfl rfl rfl rfl (ga_st hr hk hj hl)
theorem f92_134 : gm_ft 92 134 = some (.iinc 5 1, 3) := by decide +kernel
theorem r92_134 {E : Nat → Value} {d : Nat} {st : List Value} {h : gm_H} {r : gm_R × gm_H} {a0 a1 a2 a3 a4 a6 a7 a8 a9 : Value} {x : Int32} : gm_Go E d 92 134 [a0, a1, a2, a3, a4, .int x, a6, a7, a8, a9] st h r ↔ gm_Go E d 92 137 [a0, a1, a2, a3, gm_k a4, .int (x + (1 : Int32)), a6, a7, a8, a9] st h r := gr_loc m92 f92_134 rfl rfl
theorem f92_137 : gm_ft 92 137 = some (.goto (-110), 3) := by decide +kernel
theorem r92_137 {E : Nat → Value} {d : Nat} {st : List Value} {h : gm_H} {r : gm_R × gm_H} {lv : List Value} : gm_Go E d 92 137 lv st h r ↔ gm_Go E d 92 27 lv st h r := gr_brT m92 f92_137 rfl rfl rfl rfl
theorem f92_140 : gm_ft 92 140 = some (.aload_n 1, 1) := by decide +kernel
theorem r92_140 {E : Nat → Value} {d : Nat} {st : List Value} {h : gm_H} {r : gm_R × gm_H} {a0 a2 a3 a4 a5 a6 a7 a8 a9 : Value} {x : Nat} : gm_Go E d 92 140 [a0, .ref x, a2, a3, a4, a5, a6, a7, a8, a9] st h r ↔ gm_Go E d 92 141 [a0, .ref x, a2, a3, a4, a5, a6, a7, a8, a9] (.ref x :: st) h r := gr_loc m92 f92_140 rfl rfl
theorem r92_140n {E : Nat → Value} {d : Nat} {st : List Value} {h : gm_H} {r : gm_R × gm_H} {a0 a2 a3 a4 a5 a6 a7 a8 a9 : Value}  : gm_Go E d 92 140 [a0, .null, a2, a3, a4, a5, a6, a7, a8, a9] st h r ↔ gm_Go E d 92 141 [a0, .null, a2, a3, a4, a5, a6, a7, a8, a9] (.null :: st) h r := gr_loc m92 f92_140 rfl rfl
theorem f92_141 : gm_ft 92 141 = some (.iconst 1, 1) := by decide +kernel
theorem r92_141 {E : Nat → Value} {d : Nat} {st : List Value} {h : gm_H} {r : gm_R × gm_H} {lv : List Value} : gm_Go E d 92 141 lv st h r ↔ gm_Go E d 92 142 lv (.int (1 : Int32) :: st) h r := gr_pure m92 f92_141 rfl
theorem f92_142 : gm_ft 92 142 = some (.invokevirtual 309, 3) := by decide +kernel
theorem n92_142 {st : List Value} {h : gm_H} {E : Nat → Value} {lv : List Value} {b0 : Value} {a : Nat} (hs : (st.map fun v => v.category).sum ≤ 8) (he : (gm_en1 [.ref a, b0]).length ≤ 2) {vs : List Value} (hr : gm_rd h a = some (1, vs)) : gm_next E 92 142 lv (b0 :: .ref a :: st) h = some (.inr (.inl (0, 103, [.ref a, b0], st))) := gn_call m92 f92_142 rfl rfl rfl rfl rfl rfl rfl (gc_virt (bs := [b0]) (w := 360) rfl rfl rfl rfl hs he hr) (by decide)
theorem f92_145 : gm_ft 92 145 = some (.ifCond .eq 27, 3) := by decide +kernel
theorem r92_145 {E : Nat → Value} {d : Nat} {st : List Value} {h : gm_H} {r : gm_R × gm_H} {lv : List Value} {x : Int32} : gm_Go E d 92 145 lv (.int x :: st) h r ↔ (if x = 0 then gm_Go E d 92 172 lv st h r else gm_Go E d 92 148 lv st h r) := (gr_br m92 f92_145 rfl rfl rfl rfl).trans gr_if
theorem f92_148 : gm_ft 92 148 = some (.aload 4, 2) := by decide +kernel
theorem r92_148 {E : Nat → Value} {d : Nat} {st : List Value} {h : gm_H} {r : gm_R × gm_H} {a0 a1 a2 a3 a5 a6 a7 a8 a9 : Value} {x : Nat} : gm_Go E d 92 148 [a0, a1, a2, a3, .ref x, a5, a6, a7, a8, a9] st h r ↔ gm_Go E d 92 150 [a0, a1, a2, a3, .ref x, a5, a6, a7, a8, a9] (.ref x :: st) h r := gr_loc m92 f92_148 rfl rfl
theorem r92_148n {E : Nat → Value} {d : Nat} {st : List Value} {h : gm_H} {r : gm_R × gm_H} {a0 a1 a2 a3 a5 a6 a7 a8 a9 : Value}  : gm_Go E d 92 148 [a0, a1, a2, a3, .null, a5, a6, a7, a8, a9] st h r ↔ gm_Go E d 92 150 [a0, a1, a2, a3, .null, a5, a6, a7, a8, a9] (.null :: st) h r := gr_loc m92 f92_148 rfl rfl
theorem f92_150 : gm_ft 92 150 = some (.ifnull 17, 3) := by decide +kernel
theorem r92_150n {E : Nat → Value} {d : Nat} {st : List Value} {h : gm_H} {r : gm_R × gm_H} {lv : List Value} : gm_Go E d 92 150 lv (.null :: st) h r ↔ gm_Go E d 92 167 lv st h r := gr_brT m92 f92_150 rfl rfl rfl rfl
theorem r92_150 {E : Nat → Value} {d : Nat} {st : List Value} {h : gm_H} {r : gm_R × gm_H} {lv : List Value} {a : Nat} : gm_Go E d 92 150 lv (.ref a :: st) h r ↔ gm_Go E d 92 153 lv st h r := gr_brF m92 f92_150 rfl rfl rfl rfl
theorem f92_153 : gm_ft 92 153 = some (.aload 4, 2) := by decide +kernel
theorem r92_153 {E : Nat → Value} {d : Nat} {st : List Value} {h : gm_H} {r : gm_R × gm_H} {a0 a1 a2 a3 a5 a6 a7 a8 a9 : Value} {x : Nat} : gm_Go E d 92 153 [a0, a1, a2, a3, .ref x, a5, a6, a7, a8, a9] st h r ↔ gm_Go E d 92 155 [a0, a1, a2, a3, .ref x, a5, a6, a7, a8, a9] (.ref x :: st) h r := gr_loc m92 f92_153 rfl rfl
theorem r92_153n {E : Nat → Value} {d : Nat} {st : List Value} {h : gm_H} {r : gm_R × gm_H} {a0 a1 a2 a3 a5 a6 a7 a8 a9 : Value}  : gm_Go E d 92 153 [a0, a1, a2, a3, .null, a5, a6, a7, a8, a9] st h r ↔ gm_Go E d 92 155 [a0, a1, a2, a3, .null, a5, a6, a7, a8, a9] (.null :: st) h r := gr_loc m92 f92_153 rfl rfl
theorem f92_155 : gm_ft 92 155 = some (.getfield 54, 3) := by decide +kernel
theorem r92_155 {E : Nat → Value} {d : Nat} {st : List Value} {h : gm_H} {r : gm_R × gm_H} {lv : List Value} {a : Nat} {vs : List Value} {v : Value} (hr : gm_rd h a = some (3, vs)) (hv : vs[1]? = some v) : gm_Go E d 92 155 lv (.ref a :: st) h r ↔ gm_Go E d 92 158 lv (v :: st) h r := gr_rd m92 f92_155 rfl rfl rfl rfl (gf_get k0_54 hr hv)
theorem f92_158 : gm_ft 92 158 = some (.iconst 2, 1) := by decide +kernel
theorem r92_158 {E : Nat → Value} {d : Nat} {st : List Value} {h : gm_H} {r : gm_R × gm_H} {lv : List Value} : gm_Go E d 92 158 lv st h r ↔ gm_Go E d 92 159 lv (.int (2 : Int32) :: st) h r := gr_pure m92 f92_158 rfl
theorem f92_159 : gm_ft 92 159 = some (.if_icmp .ne 8, 3) := by decide +kernel
theorem r92_159 {E : Nat → Value} {d : Nat} {st : List Value} {h : gm_H} {r : gm_R × gm_H} {lv : List Value} {x y : Int32} : gm_Go E d 92 159 lv (.int y :: .int x :: st) h r ↔ (if x = y then gm_Go E d 92 162 lv st h r else gm_Go E d 92 167 lv st h r) := (gr_br m92 f92_159 rfl rfl rfl rfl).trans gr_ifn
theorem f92_162 : gm_ft 92 162 = some (.aload_n 0, 1) := by decide +kernel
theorem r92_162 {E : Nat → Value} {d : Nat} {st : List Value} {h : gm_H} {r : gm_R × gm_H} {a1 a2 a3 a4 a5 a6 a7 a8 a9 : Value} {x : Nat} : gm_Go E d 92 162 [.ref x, a1, a2, a3, a4, a5, a6, a7, a8, a9] st h r ↔ gm_Go E d 92 163 [.ref x, a1, a2, a3, a4, a5, a6, a7, a8, a9] (.ref x :: st) h r := gr_loc m92 f92_162 rfl rfl
theorem r92_162n {E : Nat → Value} {d : Nat} {st : List Value} {h : gm_H} {r : gm_R × gm_H} {a1 a2 a3 a4 a5 a6 a7 a8 a9 : Value}  : gm_Go E d 92 162 [.null, a1, a2, a3, a4, a5, a6, a7, a8, a9] st h r ↔ gm_Go E d 92 163 [.null, a1, a2, a3, a4, a5, a6, a7, a8, a9] (.null :: st) h r := gr_loc m92 f92_162 rfl rfl
theorem f92_163 : gm_ft 92 163 = some (.aload_n 2, 1) := by decide +kernel
theorem r92_163 {E : Nat → Value} {d : Nat} {st : List Value} {h : gm_H} {r : gm_R × gm_H} {a0 a1 a3 a4 a5 a6 a7 a8 a9 : Value} {x : Nat} : gm_Go E d 92 163 [a0, a1, .ref x, a3, a4, a5, a6, a7, a8, a9] st h r ↔ gm_Go E d 92 164 [a0, a1, .ref x, a3, a4, a5, a6, a7, a8, a9] (.ref x :: st) h r := gr_loc m92 f92_163 rfl rfl
theorem r92_163n {E : Nat → Value} {d : Nat} {st : List Value} {h : gm_H} {r : gm_R × gm_H} {a0 a1 a3 a4 a5 a6 a7 a8 a9 : Value}  : gm_Go E d 92 163 [a0, a1, .null, a3, a4, a5, a6, a7, a8, a9] st h r ↔ gm_Go E d 92 164 [a0, a1, .null, a3, a4, a5, a6, a7, a8, a9] (.null :: st) h r := gr_loc m92 f92_163 rfl rfl
theorem f92_164 : gm_ft 92 164 = some (.invokevirtual 312, 3) := by decide +kernel
theorem n92_164 {st : List Value} {h : gm_H} {E : Nat → Value} {lv : List Value} {b0 : Value} {a : Nat} (hs : (st.map fun v => v.category).sum ≤ 8) (he : (gm_en1 [.ref a, b0]).length ≤ 3) {vs : List Value} (hr : gm_rd h a = some (0, vs)) : gm_next E 92 164 lv (b0 :: .ref a :: st) h = some (.inr (.inl (0, 95, [.ref a, b0], st))) := gn_call m92 f92_164 rfl rfl rfl rfl rfl rfl rfl (gc_virt (bs := [b0]) (w := 586) rfl rfl rfl rfl hs he hr) (by decide)
theorem f92_167 : gm_ft 92 167 = some (.aload_n 0, 1) := by decide +kernel
theorem r92_167 {E : Nat → Value} {d : Nat} {st : List Value} {h : gm_H} {r : gm_R × gm_H} {a1 a2 a3 a4 a5 a6 a7 a8 a9 : Value} {x : Nat} : gm_Go E d 92 167 [.ref x, a1, a2, a3, a4, a5, a6, a7, a8, a9] st h r ↔ gm_Go E d 92 168 [.ref x, a1, a2, a3, a4, a5, a6, a7, a8, a9] (.ref x :: st) h r := gr_loc m92 f92_167 rfl rfl
theorem r92_167n {E : Nat → Value} {d : Nat} {st : List Value} {h : gm_H} {r : gm_R × gm_H} {a1 a2 a3 a4 a5 a6 a7 a8 a9 : Value}  : gm_Go E d 92 167 [.null, a1, a2, a3, a4, a5, a6, a7, a8, a9] st h r ↔ gm_Go E d 92 168 [.null, a1, a2, a3, a4, a5, a6, a7, a8, a9] (.null :: st) h r := gr_loc m92 f92_167 rfl rfl
theorem f92_168 : gm_ft 92 168 = some (.iload_n 3, 1) := by decide +kernel
theorem r92_168 {E : Nat → Value} {d : Nat} {st : List Value} {h : gm_H} {r : gm_R × gm_H} {a0 a1 a2 a4 a5 a6 a7 a8 a9 : Value} {x : Int32} : gm_Go E d 92 168 [a0, a1, a2, .int x, a4, a5, a6, a7, a8, a9] st h r ↔ gm_Go E d 92 169 [a0, a1, a2, .int x, a4, a5, a6, a7, a8, a9] (.int x :: st) h r := gr_loc m92 f92_168 rfl rfl
theorem f92_169 : gm_ft 92 169 = some (.invokevirtual 316, 3) := by decide +kernel
theorem n92_169 {st : List Value} {h : gm_H} {E : Nat → Value} {lv : List Value} {b0 : Value} {a : Nat} (hs : (st.map fun v => v.category).sum ≤ 8) (he : (gm_en1 [.ref a, b0]).length ≤ 4) {vs : List Value} (hr : gm_rd h a = some (0, vs)) : gm_next E 92 169 lv (b0 :: .ref a :: st) h = some (.inr (.inl (0, 76, [.ref a, b0], st))) := gn_call m92 f92_169 rfl rfl rfl rfl rfl rfl rfl (gc_virt (bs := [b0]) (w := 472) rfl rfl rfl rfl hs he hr) (by decide)
theorem f92_172 : gm_ft 92 172 = some (.return_, 1) := by decide +kernel
theorem r92_172 {E : Nat → Value} {d : Nat} {h : gm_H} {r : gm_R × gm_H} {lv : List Value} : gm_Go E d 92 172 lv [] h r ↔ r = (.inl none, h) := gr_ret m92 f92_172 rfl rfl rfl rfl rfl rfl rfl rfl rfl
/-! GraphReader.nextPrimitive(I)J -/
theorem m93 : gm_mt[93]? = some (⟨"GraphReader", "nextPrimitive", "(I)J"⟩, prog_1_method_43_code, 4, (some .long), [], 0, 1) := rfl
theorem f93_0 : gm_ft 93 0 = some (.aload_n 0, 1) := by decide +kernel
theorem r93_0 {E : Nat → Value} {d : Nat} {st : List Value} {h : gm_H} {r : gm_R × gm_H} {a1 a2 a3 : Value} {x : Nat} : gm_Go E d 93 0 [.ref x, a1, a2, a3] st h r ↔ gm_Go E d 93 1 [.ref x, a1, a2, a3] (.ref x :: st) h r := gr_loc m93 f93_0 rfl rfl
theorem r93_0n {E : Nat → Value} {d : Nat} {st : List Value} {h : gm_H} {r : gm_R × gm_H} {a1 a2 a3 : Value}  : gm_Go E d 93 0 [.null, a1, a2, a3] st h r ↔ gm_Go E d 93 1 [.null, a1, a2, a3] (.null :: st) h r := gr_loc m93 f93_0 rfl rfl
theorem f93_1 : gm_ft 93 1 = some (.getstatic 319, 3) := by decide +kernel
theorem r93_1 {E : Nat → Value} {d : Nat} {st : List Value} {h : gm_H} {r : gm_R × gm_H} {lv : List Value} : gm_Go E d 93 1 lv st h r ↔ gm_Go E d 93 4 lv (E 0 :: st) h r := gr_rd m93 f93_1 rfl rfl rfl rfl rfl
theorem f93_4 : gm_ft 93 4 = some (.iload_n 1, 1) := by decide +kernel
theorem r93_4 {E : Nat → Value} {d : Nat} {st : List Value} {h : gm_H} {r : gm_R × gm_H} {a0 a2 a3 : Value} {x : Int32} : gm_Go E d 93 4 [a0, .int x, a2, a3] st h r ↔ gm_Go E d 93 5 [a0, .int x, a2, a3] (.int x :: st) h r := gr_loc m93 f93_4 rfl rfl
theorem f93_5 : gm_ft 93 5 = some (.iaload, 1) := by decide +kernel
theorem r93_5 {E : Nat → Value} {d : Nat} {st : List Value} {h : gm_H} {r : gm_R × gm_H} {lv : List Value} {a k j : Nat} {vs : List Value} {v : Value} (hr : gm_rd h a = some (k, vs)) (hk : 100 ≤ k ∧ (fun t => t == 0) (k % 100) = true) (hj : j < 2 ^ 31) (hv : vs[j]? = some v) : gm_Go E d 93 5 lv (.int (nI j) :: .ref a :: st) h r ↔ gm_Go E d 93 6 lv (v :: st) h r := gr_rd m93 f93_5 rfl rfl rfl rfl (ga_ld (P := fun t => t == 0) hr hk hj hv)
theorem f93_6 : gm_ft 93 6 = some (.invokevirtual 163, 3) := by decide +kernel
theorem n93_6 {st : List Value} {h : gm_H} {E : Nat → Value} {lv : List Value} {b0 : Value} {a : Nat} (hs : (st.map fun v => v.category).sum ≤ 8) (he : (gm_en1 [.ref a, b0]).length ≤ 4) {vs : List Value} (hr : gm_rd h a = some (0, vs)) : gm_next E 93 6 lv (b0 :: .ref a :: st) h = some (.inr (.inl (0, 68, [.ref a, b0], st))) := gn_call m93 f93_6 rfl rfl rfl rfl rfl rfl rfl (gc_virt (bs := [b0]) (w := 278) rfl rfl rfl rfl hs he hr) (by decide)
theorem f93_9 : gm_ft 93 9 = some (.lstore_n 2, 1) := by decide +kernel
theorem r93_9 {E : Nat → Value} {d : Nat} {st : List Value} {h : gm_H} {r : gm_R × gm_H} {a0 a1 a2 a3 : Value} {x : Int64} : gm_Go E d 93 9 [a0, a1, a2, a3] (.long x :: st) h r ↔ gm_Go E d 93 10 [a0, gm_k a1, .long x, gm_u] st h r := gr_loc m93 f93_9 rfl rfl
theorem f93_10 : gm_ft 93 10 = some (.iload_n 1, 1) := by decide +kernel
theorem r93_10 {E : Nat → Value} {d : Nat} {st : List Value} {h : gm_H} {r : gm_R × gm_H} {a0 a2 a3 : Value} {x : Int32} : gm_Go E d 93 10 [a0, .int x, a2, a3] st h r ↔ gm_Go E d 93 11 [a0, .int x, a2, a3] (.int x :: st) h r := gr_loc m93 f93_10 rfl rfl
theorem f93_11 : gm_ft 93 11 = some (.tableswitch 63 0 5 #[37, 63, 42, 63, 46, 51], 37) := by decide +kernel
theorem r93_11d {E : Nat → Value} {d : Nat} {st : List Value} {h : gm_H} {r : gm_R × gm_H} {lv : List Value} {x : Int32} (hx : x.toInt < 0 ∨ 5 < x.toInt) : gm_Go E d 93 11 lv (.int x :: st) h r ↔ gm_Go E d 93 74 lv st h r := gr_sw m93 f93_11 rfl rfl rfl (by unfold gm_sw; dsimp only; rw [if_pos hx]) rfl
theorem r93_11_0 {E : Nat → Value} {d : Nat} {st : List Value} {h : gm_H} {r : gm_R × gm_H} {lv : List Value} : gm_Go E d 93 11 lv (.int (0 : Int32) :: st) h r ↔ gm_Go E d 93 48 lv st h r := gr_sw m93 f93_11 rfl rfl rfl rfl rfl
theorem r93_11_1 {E : Nat → Value} {d : Nat} {st : List Value} {h : gm_H} {r : gm_R × gm_H} {lv : List Value} : gm_Go E d 93 11 lv (.int (1 : Int32) :: st) h r ↔ gm_Go E d 93 74 lv st h r := gr_sw m93 f93_11 rfl rfl rfl rfl rfl
theorem r93_11_2 {E : Nat → Value} {d : Nat} {st : List Value} {h : gm_H} {r : gm_R × gm_H} {lv : List Value} : gm_Go E d 93 11 lv (.int (2 : Int32) :: st) h r ↔ gm_Go E d 93 53 lv st h r := gr_sw m93 f93_11 rfl rfl rfl rfl rfl
theorem r93_11_3 {E : Nat → Value} {d : Nat} {st : List Value} {h : gm_H} {r : gm_R × gm_H} {lv : List Value} : gm_Go E d 93 11 lv (.int (3 : Int32) :: st) h r ↔ gm_Go E d 93 74 lv st h r := gr_sw m93 f93_11 rfl rfl rfl rfl rfl
theorem r93_11_4 {E : Nat → Value} {d : Nat} {st : List Value} {h : gm_H} {r : gm_R × gm_H} {lv : List Value} : gm_Go E d 93 11 lv (.int (4 : Int32) :: st) h r ↔ gm_Go E d 93 57 lv st h r := gr_sw m93 f93_11 rfl rfl rfl rfl rfl
theorem r93_11_5 {E : Nat → Value} {d : Nat} {st : List Value} {h : gm_H} {r : gm_R × gm_H} {lv : List Value} : gm_Go E d 93 11 lv (.int (5 : Int32) :: st) h r ↔ gm_Go E d 93 62 lv st h r := gr_sw m93 f93_11 rfl rfl rfl rfl rfl
theorem f93_48 : gm_ft 93 48 = some (.lload_n 2, 1) := by decide +kernel
theorem r93_48 {E : Nat → Value} {d : Nat} {st : List Value} {h : gm_H} {r : gm_R × gm_H} {a0 a1 a3 : Value} {x : Int64} : gm_Go E d 93 48 [a0, a1, .long x, a3] st h r ↔ gm_Go E d 93 49 [a0, a1, .long x, a3] (.long x :: st) h r := gr_loc m93 f93_48 rfl rfl
theorem f93_49 : gm_ft 93 49 = some (.l2i, 1) := by decide +kernel
theorem r93_49 {E : Nat → Value} {d : Nat} {st : List Value} {h : gm_H} {r : gm_R × gm_H} {lv : List Value} {x : Int64} : gm_Go E d 93 49 lv (.long x :: st) h r ↔ gm_Go E d 93 50 lv (.int (x.toInt32) :: st) h r := gr_pure m93 f93_49 rfl
theorem f93_50 : gm_ft 93 50 = some (.i2b, 1) := by decide +kernel
theorem r93_50 {E : Nat → Value} {d : Nat} {st : List Value} {h : gm_H} {r : gm_R × gm_H} {lv : List Value} {x : Int32} : gm_Go E d 93 50 lv (.int x :: st) h r ↔ gm_Go E d 93 51 lv (.int (x.toInt8.toInt32) :: st) h r := gr_pure m93 f93_50 rfl
theorem f93_51 : gm_ft 93 51 = some (.i2l, 1) := by decide +kernel
theorem r93_51 {E : Nat → Value} {d : Nat} {st : List Value} {h : gm_H} {r : gm_R × gm_H} {lv : List Value} {x : Int32} : gm_Go E d 93 51 lv (.int x :: st) h r ↔ gm_Go E d 93 52 lv (.long (x.toInt64) :: st) h r := gr_pure m93 f93_51 rfl
theorem f93_52 : gm_ft 93 52 = some (.lreturn, 1) := by decide +kernel
theorem r93_52 {E : Nat → Value} {d : Nat} {h : gm_H} {r : gm_R × gm_H} {lv : List Value} {x : Int64} : gm_Go E d 93 52 lv [.long x] h r ↔ r = (.inl (some (.long x)), h) := gr_ret m93 f93_52 rfl rfl rfl rfl rfl rfl rfl rfl rfl
theorem f93_53 : gm_ft 93 53 = some (.lload_n 2, 1) := by decide +kernel
theorem r93_53 {E : Nat → Value} {d : Nat} {st : List Value} {h : gm_H} {r : gm_R × gm_H} {a0 a1 a3 : Value} {x : Int64} : gm_Go E d 93 53 [a0, a1, .long x, a3] st h r ↔ gm_Go E d 93 54 [a0, a1, .long x, a3] (.long x :: st) h r := gr_loc m93 f93_53 rfl rfl
theorem f93_54 : gm_ft 93 54 = some (.l2i, 1) := by decide +kernel
theorem r93_54 {E : Nat → Value} {d : Nat} {st : List Value} {h : gm_H} {r : gm_R × gm_H} {lv : List Value} {x : Int64} : gm_Go E d 93 54 lv (.long x :: st) h r ↔ gm_Go E d 93 55 lv (.int (x.toInt32) :: st) h r := gr_pure m93 f93_54 rfl
theorem f93_55 : gm_ft 93 55 = some (.i2l, 1) := by decide +kernel
theorem r93_55 {E : Nat → Value} {d : Nat} {st : List Value} {h : gm_H} {r : gm_R × gm_H} {lv : List Value} {x : Int32} : gm_Go E d 93 55 lv (.int x :: st) h r ↔ gm_Go E d 93 56 lv (.long (x.toInt64) :: st) h r := gr_pure m93 f93_55 rfl
theorem f93_56 : gm_ft 93 56 = some (.lreturn, 1) := by decide +kernel
theorem r93_56 {E : Nat → Value} {d : Nat} {h : gm_H} {r : gm_R × gm_H} {lv : List Value} {x : Int64} : gm_Go E d 93 56 lv [.long x] h r ↔ r = (.inl (some (.long x)), h) := gr_ret m93 f93_56 rfl rfl rfl rfl rfl rfl rfl rfl rfl
theorem f93_57 : gm_ft 93 57 = some (.lload_n 2, 1) := by decide +kernel
theorem r93_57 {E : Nat → Value} {d : Nat} {st : List Value} {h : gm_H} {r : gm_R × gm_H} {a0 a1 a3 : Value} {x : Int64} : gm_Go E d 93 57 [a0, a1, .long x, a3] st h r ↔ gm_Go E d 93 58 [a0, a1, .long x, a3] (.long x :: st) h r := gr_loc m93 f93_57 rfl rfl
theorem f93_58 : gm_ft 93 58 = some (.l2i, 1) := by decide +kernel
theorem r93_58 {E : Nat → Value} {d : Nat} {st : List Value} {h : gm_H} {r : gm_R × gm_H} {lv : List Value} {x : Int64} : gm_Go E d 93 58 lv (.long x :: st) h r ↔ gm_Go E d 93 59 lv (.int (x.toInt32) :: st) h r := gr_pure m93 f93_58 rfl
theorem f93_59 : gm_ft 93 59 = some (.i2s, 1) := by decide +kernel
theorem r93_59 {E : Nat → Value} {d : Nat} {st : List Value} {h : gm_H} {r : gm_R × gm_H} {lv : List Value} {x : Int32} : gm_Go E d 93 59 lv (.int x :: st) h r ↔ gm_Go E d 93 60 lv (.int (x.toInt16.toInt32) :: st) h r := gr_pure m93 f93_59 rfl
theorem f93_60 : gm_ft 93 60 = some (.i2l, 1) := by decide +kernel
theorem r93_60 {E : Nat → Value} {d : Nat} {st : List Value} {h : gm_H} {r : gm_R × gm_H} {lv : List Value} {x : Int32} : gm_Go E d 93 60 lv (.int x :: st) h r ↔ gm_Go E d 93 61 lv (.long (x.toInt64) :: st) h r := gr_pure m93 f93_60 rfl
theorem f93_61 : gm_ft 93 61 = some (.lreturn, 1) := by decide +kernel
theorem r93_61 {E : Nat → Value} {d : Nat} {h : gm_H} {r : gm_R × gm_H} {lv : List Value} {x : Int64} : gm_Go E d 93 61 lv [.long x] h r ↔ r = (.inl (some (.long x)), h) := gr_ret m93 f93_61 rfl rfl rfl rfl rfl rfl rfl rfl rfl
theorem f93_62 : gm_ft 93 62 = some (.lload_n 2, 1) := by decide +kernel
theorem r93_62 {E : Nat → Value} {d : Nat} {st : List Value} {h : gm_H} {r : gm_R × gm_H} {a0 a1 a3 : Value} {x : Int64} : gm_Go E d 93 62 [a0, a1, .long x, a3] st h r ↔ gm_Go E d 93 63 [a0, a1, .long x, a3] (.long x :: st) h r := gr_loc m93 f93_62 rfl rfl
theorem f93_63 : gm_ft 93 63 = some (.lconst 0, 1) := by decide +kernel
theorem r93_63 {E : Nat → Value} {d : Nat} {st : List Value} {h : gm_H} {r : gm_R × gm_H} {lv : List Value} : gm_Go E d 93 63 lv st h r ↔ gm_Go E d 93 64 lv (.long 0 :: st) h r := gr_pure m93 f93_63 rfl
theorem f93_64 : gm_ft 93 64 = some (.lcmp, 1) := by decide +kernel
theorem r93_64 {E : Nat → Value} {d : Nat} {st : List Value} {h : gm_H} {r : gm_R × gm_H} {lv : List Value} {x y : Int64} : gm_Go E d 93 64 lv (.long y :: .long x :: st) h r ↔ gm_Go E d 93 65 lv (.int (lg_cmp x y) :: st) h r := gr_pure m93 f93_64 rfl
theorem f93_65 : gm_ft 93 65 = some (.ifCond .ne 7, 3) := by decide +kernel
theorem r93_65 {E : Nat → Value} {d : Nat} {st : List Value} {h : gm_H} {r : gm_R × gm_H} {lv : List Value} {x : Int32} : gm_Go E d 93 65 lv (.int x :: st) h r ↔ (if x = 0 then gm_Go E d 93 68 lv st h r else gm_Go E d 93 72 lv st h r) := (gr_br m93 f93_65 rfl rfl rfl rfl).trans gr_ifn
theorem f93_68 : gm_ft 93 68 = some (.lconst 0, 1) := by decide +kernel
theorem r93_68 {E : Nat → Value} {d : Nat} {st : List Value} {h : gm_H} {r : gm_R × gm_H} {lv : List Value} : gm_Go E d 93 68 lv st h r ↔ gm_Go E d 93 69 lv (.long 0 :: st) h r := gr_pure m93 f93_68 rfl
theorem f93_69 : gm_ft 93 69 = some (.goto 4, 3) := by decide +kernel
theorem r93_69 {E : Nat → Value} {d : Nat} {st : List Value} {h : gm_H} {r : gm_R × gm_H} {lv : List Value} : gm_Go E d 93 69 lv st h r ↔ gm_Go E d 93 73 lv st h r := gr_brT m93 f93_69 rfl rfl rfl rfl
theorem f93_72 : gm_ft 93 72 = some (.lconst 1, 1) := by decide +kernel
theorem r93_72 {E : Nat → Value} {d : Nat} {st : List Value} {h : gm_H} {r : gm_R × gm_H} {lv : List Value} : gm_Go E d 93 72 lv st h r ↔ gm_Go E d 93 73 lv (.long 1 :: st) h r := gr_pure m93 f93_72 rfl
theorem f93_73 : gm_ft 93 73 = some (.lreturn, 1) := by decide +kernel
theorem r93_73 {E : Nat → Value} {d : Nat} {h : gm_H} {r : gm_R × gm_H} {lv : List Value} {x : Int64} : gm_Go E d 93 73 lv [.long x] h r ↔ r = (.inl (some (.long x)), h) := gr_ret m93 f93_73 rfl rfl rfl rfl rfl rfl rfl rfl rfl
theorem f93_74 : gm_ft 93 74 = some (.lload_n 2, 1) := by decide +kernel
theorem r93_74 {E : Nat → Value} {d : Nat} {st : List Value} {h : gm_H} {r : gm_R × gm_H} {a0 a1 a3 : Value} {x : Int64} : gm_Go E d 93 74 [a0, a1, .long x, a3] st h r ↔ gm_Go E d 93 75 [a0, a1, .long x, a3] (.long x :: st) h r := gr_loc m93 f93_74 rfl rfl
theorem f93_75 : gm_ft 93 75 = some (.lreturn, 1) := by decide +kernel
theorem r93_75 {E : Nat → Value} {d : Nat} {h : gm_H} {r : gm_R × gm_H} {lv : List Value} {x : Int64} : gm_Go E d 93 75 lv [.long x] h r ↔ r = (.inl (some (.long x)), h) := gr_ret m93 f93_75 rfl rfl rfl rfl rfl rfl rfl rfl rfl
/-! GraphReader.isIntsOrNull(I)Z -/
theorem m94 : gm_mt[94]? = some (⟨"GraphReader", "isIntsOrNull", "(I)Z"⟩, prog_1_method_44_code, 2, (some .boolean), [], 0, 1) := rfl
theorem f94_0 : gm_ft 94 0 = some (.iload_n 1, 1) := by decide +kernel
theorem r94_0 {E : Nat → Value} {d : Nat} {st : List Value} {h : gm_H} {r : gm_R × gm_H} {a0 : Value} {x : Int32} : gm_Go E d 94 0 [a0, .int x] st h r ↔ gm_Go E d 94 1 [a0, .int x] (.int x :: st) h r := gr_loc m94 f94_0 rfl rfl
theorem f94_1 : gm_ft 94 1 = some (.bipush (-2), 2) := by decide +kernel
theorem r94_1 {E : Nat → Value} {d : Nat} {st : List Value} {h : gm_H} {r : gm_R × gm_H} {lv : List Value} : gm_Go E d 94 1 lv st h r ↔ gm_Go E d 94 3 lv (.int (-2 : Int32) :: st) h r := gr_pure m94 f94_1 rfl
theorem f94_3 : gm_ft 94 3 = some (.if_icmp .eq 24, 3) := by decide +kernel
theorem r94_3 {E : Nat → Value} {d : Nat} {st : List Value} {h : gm_H} {r : gm_R × gm_H} {lv : List Value} {x y : Int32} : gm_Go E d 94 3 lv (.int y :: .int x :: st) h r ↔ (if x = y then gm_Go E d 94 27 lv st h r else gm_Go E d 94 6 lv st h r) := (gr_br m94 f94_3 rfl rfl rfl rfl).trans gr_if
theorem f94_6 : gm_ft 94 6 = some (.aload_n 0, 1) := by decide +kernel
theorem r94_6 {E : Nat → Value} {d : Nat} {st : List Value} {h : gm_H} {r : gm_R × gm_H} {a1 : Value} {x : Nat} : gm_Go E d 94 6 [.ref x, a1] st h r ↔ gm_Go E d 94 7 [.ref x, a1] (.ref x :: st) h r := gr_loc m94 f94_6 rfl rfl
theorem r94_6n {E : Nat → Value} {d : Nat} {st : List Value} {h : gm_H} {r : gm_R × gm_H} {a1 : Value}  : gm_Go E d 94 6 [.null, a1] st h r ↔ gm_Go E d 94 7 [.null, a1] (.null :: st) h r := gr_loc m94 f94_6 rfl rfl
theorem f94_7 : gm_ft 94 7 = some (.iload_n 1, 1) := by decide +kernel
theorem r94_7 {E : Nat → Value} {d : Nat} {st : List Value} {h : gm_H} {r : gm_R × gm_H} {a0 : Value} {x : Int32} : gm_Go E d 94 7 [a0, .int x] st h r ↔ gm_Go E d 94 8 [a0, .int x] (.int x :: st) h r := gr_loc m94 f94_7 rfl rfl
theorem f94_8 : gm_ft 94 8 = some (.invokevirtual 131, 3) := by decide +kernel
theorem n94_8 {st : List Value} {h : gm_H} {E : Nat → Value} {lv : List Value} {b0 : Value} {a : Nat} (hs : (st.map fun v => v.category).sum ≤ 8) (he : (gm_en1 [.ref a, b0]).length ≤ 2) {vs : List Value} (hr : gm_rd h a = some (0, vs)) : gm_next E 94 8 lv (b0 :: .ref a :: st) h = some (.inr (.inl (0, 65, [.ref a, b0], st))) := gn_call m94 f94_8 rfl rfl rfl rfl rfl rfl rfl (gc_virt (bs := [b0]) (w := 468) rfl rfl rfl rfl hs he hr) (by decide)
theorem f94_11 : gm_ft 94 11 = some (.ifCond .eq 20, 3) := by decide +kernel
theorem r94_11 {E : Nat → Value} {d : Nat} {st : List Value} {h : gm_H} {r : gm_R × gm_H} {lv : List Value} {x : Int32} : gm_Go E d 94 11 lv (.int x :: st) h r ↔ (if x = 0 then gm_Go E d 94 31 lv st h r else gm_Go E d 94 14 lv st h r) := (gr_br m94 f94_11 rfl rfl rfl rfl).trans gr_if
theorem f94_14 : gm_ft 94 14 = some (.aload_n 0, 1) := by decide +kernel
theorem r94_14 {E : Nat → Value} {d : Nat} {st : List Value} {h : gm_H} {r : gm_R × gm_H} {a1 : Value} {x : Nat} : gm_Go E d 94 14 [.ref x, a1] st h r ↔ gm_Go E d 94 15 [.ref x, a1] (.ref x :: st) h r := gr_loc m94 f94_14 rfl rfl
theorem r94_14n {E : Nat → Value} {d : Nat} {st : List Value} {h : gm_H} {r : gm_R × gm_H} {a1 : Value}  : gm_Go E d 94 14 [.null, a1] st h r ↔ gm_Go E d 94 15 [.null, a1] (.null :: st) h r := gr_loc m94 f94_14 rfl rfl
theorem f94_15 : gm_ft 94 15 = some (.getfield 21, 3) := by decide +kernel
theorem r94_15 {E : Nat → Value} {d : Nat} {st : List Value} {h : gm_H} {r : gm_R × gm_H} {lv : List Value} {a : Nat} {vs : List Value} {v : Value} (hr : gm_rd h a = some (0, vs)) (hv : vs[8]? = some v) : gm_Go E d 94 15 lv (.ref a :: st) h r ↔ gm_Go E d 94 18 lv (v :: st) h r := gr_rd m94 f94_15 rfl rfl rfl rfl (gf_get k0_21 hr hv)
theorem f94_18 : gm_ft 94 18 = some (.iload_n 1, 1) := by decide +kernel
theorem r94_18 {E : Nat → Value} {d : Nat} {st : List Value} {h : gm_H} {r : gm_R × gm_H} {a0 : Value} {x : Int32} : gm_Go E d 94 18 [a0, .int x] st h r ↔ gm_Go E d 94 19 [a0, .int x] (.int x :: st) h r := gr_loc m94 f94_18 rfl rfl
theorem f94_19 : gm_ft 94 19 = some (.aaload, 1) := by decide +kernel
theorem r94_19 {E : Nat → Value} {d : Nat} {st : List Value} {h : gm_H} {r : gm_R × gm_H} {lv : List Value} {a k j : Nat} {vs : List Value} {v : Value} (hr : gm_rd h a = some (k, vs)) (hk : 100 ≤ k ∧ (fun t => t == 10 || t == 11 || t == 12) (k % 100) = true) (hj : j < 2 ^ 31) (hv : vs[j]? = some v) : gm_Go E d 94 19 lv (.int (nI j) :: .ref a :: st) h r ↔ gm_Go E d 94 20 lv (v :: st) h r := gr_rd m94 f94_19 rfl rfl rfl rfl (ga_ld (P := fun t => t == 10 || t == 11 || t == 12) hr hk hj hv)
theorem f94_20 : gm_ft 94 20 = some (.getfield 134, 3) := by decide +kernel
theorem r94_20 {E : Nat → Value} {d : Nat} {st : List Value} {h : gm_H} {r : gm_R × gm_H} {lv : List Value} {a : Nat} {vs : List Value} {v : Value} (hr : gm_rd h a = some (4, vs)) (hv : vs[0]? = some v) : gm_Go E d 94 20 lv (.ref a :: st) h r ↔ gm_Go E d 94 23 lv (v :: st) h r := gr_rd m94 f94_20 rfl rfl rfl rfl (gf_get k0_134 hr hv)
theorem f94_23 : gm_ft 94 23 = some (.iconst 2, 1) := by decide +kernel
theorem r94_23 {E : Nat → Value} {d : Nat} {st : List Value} {h : gm_H} {r : gm_R × gm_H} {lv : List Value} : gm_Go E d 94 23 lv st h r ↔ gm_Go E d 94 24 lv (.int (2 : Int32) :: st) h r := gr_pure m94 f94_23 rfl
theorem f94_24 : gm_ft 94 24 = some (.if_icmp .ne 7, 3) := by decide +kernel
theorem r94_24 {E : Nat → Value} {d : Nat} {st : List Value} {h : gm_H} {r : gm_R × gm_H} {lv : List Value} {x y : Int32} : gm_Go E d 94 24 lv (.int y :: .int x :: st) h r ↔ (if x = y then gm_Go E d 94 27 lv st h r else gm_Go E d 94 31 lv st h r) := (gr_br m94 f94_24 rfl rfl rfl rfl).trans gr_ifn
theorem f94_27 : gm_ft 94 27 = some (.iconst 1, 1) := by decide +kernel
theorem r94_27 {E : Nat → Value} {d : Nat} {st : List Value} {h : gm_H} {r : gm_R × gm_H} {lv : List Value} : gm_Go E d 94 27 lv st h r ↔ gm_Go E d 94 28 lv (.int (1 : Int32) :: st) h r := gr_pure m94 f94_27 rfl
theorem f94_28 : gm_ft 94 28 = some (.goto 4, 3) := by decide +kernel
theorem r94_28 {E : Nat → Value} {d : Nat} {st : List Value} {h : gm_H} {r : gm_R × gm_H} {lv : List Value} : gm_Go E d 94 28 lv st h r ↔ gm_Go E d 94 32 lv st h r := gr_brT m94 f94_28 rfl rfl rfl rfl
theorem f94_31 : gm_ft 94 31 = some (.iconst 0, 1) := by decide +kernel
theorem r94_31 {E : Nat → Value} {d : Nat} {st : List Value} {h : gm_H} {r : gm_R × gm_H} {lv : List Value} : gm_Go E d 94 31 lv st h r ↔ gm_Go E d 94 32 lv (.int (0 : Int32) :: st) h r := gr_pure m94 f94_31 rfl
theorem f94_32 : gm_ft 94 32 = some (.ireturn, 1) := by decide +kernel
theorem r94_32_0 {E : Nat → Value} {d : Nat} {h : gm_H} {r : gm_R × gm_H} {lv : List Value} : gm_Go E d 94 32 lv [.int (0 : Int32)] h r ↔ r = (.inl (some (.int (0 : Int32))), h) := gr_ret m94 f94_32 rfl rfl rfl rfl rfl rfl rfl rfl (by unfold gm_rt; dsimp only; rw [if_pos ⟨rfl, rfl⟩])
theorem r94_32_1 {E : Nat → Value} {d : Nat} {h : gm_H} {r : gm_R × gm_H} {lv : List Value} : gm_Go E d 94 32 lv [.int (1 : Int32)] h r ↔ r = (.inl (some (.int (1 : Int32))), h) := gr_ret m94 f94_32 rfl rfl rfl rfl rfl rfl rfl rfl (by unfold gm_rt; dsimp only; rw [if_pos ⟨rfl, rfl⟩])
/-! GraphReader.takeExtra(LGraphReader$Thing;)V -/
theorem m95 : gm_mt[95]? = some (⟨"GraphReader", "takeExtra", "(LGraphReader$Thing;)V"⟩, prog_1_method_45_code, 3, none, [], 0, 1) := rfl
theorem f95_0 : gm_ft 95 0 = some (.aload_n 0, 1) := by decide +kernel
theorem r95_0 {E : Nat → Value} {d : Nat} {st : List Value} {h : gm_H} {r : gm_R × gm_H} {a1 a2 : Value} {x : Nat} : gm_Go E d 95 0 [.ref x, a1, a2] st h r ↔ gm_Go E d 95 1 [.ref x, a1, a2] (.ref x :: st) h r := gr_loc m95 f95_0 rfl rfl
theorem r95_0n {E : Nat → Value} {d : Nat} {st : List Value} {h : gm_H} {r : gm_R × gm_H} {a1 a2 : Value}  : gm_Go E d 95 0 [.null, a1, a2] st h r ↔ gm_Go E d 95 1 [.null, a1, a2] (.null :: st) h r := gr_loc m95 f95_0 rfl rfl
theorem f95_1 : gm_ft 95 1 = some (.getfield 96, 3) := by decide +kernel
theorem r95_1 {E : Nat → Value} {d : Nat} {st : List Value} {h : gm_H} {r : gm_R × gm_H} {lv : List Value} {a : Nat} {vs : List Value} {v : Value} (hr : gm_rd h a = some (0, vs)) (hv : vs[7]? = some v) : gm_Go E d 95 1 lv (.ref a :: st) h r ↔ gm_Go E d 95 4 lv (v :: st) h r := gr_rd m95 f95_1 rfl rfl rfl rfl (gf_get k0_96 hr hv)
theorem f95_4 : gm_ft 95 4 = some (.iconst 2, 1) := by decide +kernel
theorem r95_4 {E : Nat → Value} {d : Nat} {st : List Value} {h : gm_H} {r : gm_R × gm_H} {lv : List Value} : gm_Go E d 95 4 lv st h r ↔ gm_Go E d 95 5 lv (.int (2 : Int32) :: st) h r := gr_pure m95 f95_4 rfl
theorem f95_5 : gm_ft 95 5 = some (.iadd, 1) := by decide +kernel
theorem r95_5 {E : Nat → Value} {d : Nat} {st : List Value} {h : gm_H} {r : gm_R × gm_H} {lv : List Value} {x y : Int32} : gm_Go E d 95 5 lv (.int y :: .int x :: st) h r ↔ gm_Go E d 95 6 lv (.int (x + y) :: st) h r := gr_pure m95 f95_5 rfl
theorem f95_6 : gm_ft 95 6 = some (.istore_n 2, 1) := by decide +kernel
theorem r95_6 {E : Nat → Value} {d : Nat} {st : List Value} {h : gm_H} {r : gm_R × gm_H} {a0 a1 a2 : Value} {x : Int32} : gm_Go E d 95 6 [a0, a1, a2] (.int x :: st) h r ↔ gm_Go E d 95 7 [a0, gm_k a1, .int x] st h r := gr_loc m95 f95_6 rfl rfl
theorem f95_7 : gm_ft 95 7 = some (.aload_n 0, 1) := by decide +kernel
theorem r95_7 {E : Nat → Value} {d : Nat} {st : List Value} {h : gm_H} {r : gm_R × gm_H} {a1 a2 : Value} {x : Nat} : gm_Go E d 95 7 [.ref x, a1, a2] st h r ↔ gm_Go E d 95 8 [.ref x, a1, a2] (.ref x :: st) h r := gr_loc m95 f95_7 rfl rfl
theorem r95_7n {E : Nat → Value} {d : Nat} {st : List Value} {h : gm_H} {r : gm_R × gm_H} {a1 a2 : Value}  : gm_Go E d 95 7 [.null, a1, a2] st h r ↔ gm_Go E d 95 8 [.null, a1, a2] (.null :: st) h r := gr_loc m95 f95_7 rfl rfl
theorem f95_8 : gm_ft 95 8 = some (.getfield 93, 3) := by decide +kernel
theorem r95_8 {E : Nat → Value} {d : Nat} {st : List Value} {h : gm_H} {r : gm_R × gm_H} {lv : List Value} {a : Nat} {vs : List Value} {v : Value} (hr : gm_rd h a = some (0, vs)) (hv : vs[6]? = some v) : gm_Go E d 95 8 lv (.ref a :: st) h r ↔ gm_Go E d 95 11 lv (v :: st) h r := gr_rd m95 f95_8 rfl rfl rfl rfl (gf_get k0_93 hr hv)
theorem f95_11 : gm_ft 95 11 = some (.iload_n 2, 1) := by decide +kernel
theorem r95_11 {E : Nat → Value} {d : Nat} {st : List Value} {h : gm_H} {r : gm_R × gm_H} {a0 a1 : Value} {x : Int32} : gm_Go E d 95 11 [a0, a1, .int x] st h r ↔ gm_Go E d 95 12 [a0, a1, .int x] (.int x :: st) h r := gr_loc m95 f95_11 rfl rfl
theorem f95_12 : gm_ft 95 12 = some (.isub, 1) := by decide +kernel
theorem r95_12 {E : Nat → Value} {d : Nat} {st : List Value} {h : gm_H} {r : gm_R × gm_H} {lv : List Value} {x y : Int32} : gm_Go E d 95 12 lv (.int y :: .int x :: st) h r ↔ gm_Go E d 95 13 lv (.int (x - y) :: st) h r := gr_pure m95 f95_12 rfl
theorem f95_13 : gm_ft 95 13 = some (.iconst 4, 1) := by decide +kernel
theorem r95_13 {E : Nat → Value} {d : Nat} {st : List Value} {h : gm_H} {r : gm_R × gm_H} {lv : List Value} : gm_Go E d 95 13 lv st h r ↔ gm_Go E d 95 14 lv (.int (4 : Int32) :: st) h r := gr_pure m95 f95_13 rfl
theorem f95_14 : gm_ft 95 14 = some (.if_icmp .lt 17, 3) := by decide +kernel
theorem r95_14 {E : Nat → Value} {d : Nat} {st : List Value} {h : gm_H} {r : gm_R × gm_H} {lv : List Value} {x y : Int32} : gm_Go E d 95 14 lv (.int y :: .int x :: st) h r ↔ (if x < y then gm_Go E d 95 31 lv st h r else gm_Go E d 95 17 lv st h r) := (gr_br m95 f95_14 rfl rfl rfl rfl).trans gr_if
theorem f95_17 : gm_ft 95 17 = some (.aload_n 0, 1) := by decide +kernel
theorem r95_17 {E : Nat → Value} {d : Nat} {st : List Value} {h : gm_H} {r : gm_R × gm_H} {a1 a2 : Value} {x : Nat} : gm_Go E d 95 17 [.ref x, a1, a2] st h r ↔ gm_Go E d 95 18 [.ref x, a1, a2] (.ref x :: st) h r := gr_loc m95 f95_17 rfl rfl
theorem r95_17n {E : Nat → Value} {d : Nat} {st : List Value} {h : gm_H} {r : gm_R × gm_H} {a1 a2 : Value}  : gm_Go E d 95 17 [.null, a1, a2] st h r ↔ gm_Go E d 95 18 [.null, a1, a2] (.null :: st) h r := gr_loc m95 f95_17 rfl rfl
theorem f95_18 : gm_ft 95 18 = some (.getfield 15, 3) := by decide +kernel
theorem r95_18 {E : Nat → Value} {d : Nat} {st : List Value} {h : gm_H} {r : gm_R × gm_H} {lv : List Value} {a : Nat} {vs : List Value} {v : Value} (hr : gm_rd h a = some (0, vs)) (hv : vs[5]? = some v) : gm_Go E d 95 18 lv (.ref a :: st) h r ↔ gm_Go E d 95 21 lv (v :: st) h r := gr_rd m95 f95_18 rfl rfl rfl rfl (gf_get k0_15 hr hv)
theorem f95_21 : gm_ft 95 21 = some (.aload_n 0, 1) := by decide +kernel
theorem r95_21 {E : Nat → Value} {d : Nat} {st : List Value} {h : gm_H} {r : gm_R × gm_H} {a1 a2 : Value} {x : Nat} : gm_Go E d 95 21 [.ref x, a1, a2] st h r ↔ gm_Go E d 95 22 [.ref x, a1, a2] (.ref x :: st) h r := gr_loc m95 f95_21 rfl rfl
theorem r95_21n {E : Nat → Value} {d : Nat} {st : List Value} {h : gm_H} {r : gm_R × gm_H} {a1 a2 : Value}  : gm_Go E d 95 21 [.null, a1, a2] st h r ↔ gm_Go E d 95 22 [.null, a1, a2] (.null :: st) h r := gr_loc m95 f95_21 rfl rfl
theorem f95_22 : gm_ft 95 22 = some (.getfield 96, 3) := by decide +kernel
theorem r95_22 {E : Nat → Value} {d : Nat} {st : List Value} {h : gm_H} {r : gm_R × gm_H} {lv : List Value} {a : Nat} {vs : List Value} {v : Value} (hr : gm_rd h a = some (0, vs)) (hv : vs[7]? = some v) : gm_Go E d 95 22 lv (.ref a :: st) h r ↔ gm_Go E d 95 25 lv (v :: st) h r := gr_rd m95 f95_22 rfl rfl rfl rfl (gf_get k0_96 hr hv)
theorem f95_25 : gm_ft 95 25 = some (.baload, 1) := by decide +kernel
theorem r95_25 {E : Nat → Value} {d : Nat} {st : List Value} {h : gm_H} {r : gm_R × gm_H} {lv : List Value} {a k j : Nat} {vs : List Value} {v : Value} (hr : gm_rd h a = some (k, vs)) (hk : 100 ≤ k ∧ (fun t => t == 2 || t == 3) (k % 100) = true) (hj : j < 2 ^ 31) (hv : vs[j]? = some v) : gm_Go E d 95 25 lv (.int (nI j) :: .ref a :: st) h r ↔ gm_Go E d 95 26 lv (v :: st) h r := gr_rd m95 f95_25 rfl rfl rfl rfl (ga_ld (P := fun t => t == 2 || t == 3) hr hk hj hv)
theorem f95_26 : gm_ft 95 26 = some (.bipush 119, 2) := by decide +kernel
theorem r95_26 {E : Nat → Value} {d : Nat} {st : List Value} {h : gm_H} {r : gm_R × gm_H} {lv : List Value} : gm_Go E d 95 26 lv st h r ↔ gm_Go E d 95 28 lv (.int (119 : Int32) :: st) h r := gr_pure m95 f95_26 rfl
theorem f95_28 : gm_ft 95 28 = some (.if_icmp .eq 4, 3) := by decide +kernel
theorem r95_28 {E : Nat → Value} {d : Nat} {st : List Value} {h : gm_H} {r : gm_R × gm_H} {lv : List Value} {x y : Int32} : gm_Go E d 95 28 lv (.int y :: .int x :: st) h r ↔ (if x = y then gm_Go E d 95 32 lv st h r else gm_Go E d 95 31 lv st h r) := (gr_br m95 f95_28 rfl rfl rfl rfl).trans gr_if
theorem f95_31 : gm_ft 95 31 = some (.return_, 1) := by decide +kernel
theorem r95_31 {E : Nat → Value} {d : Nat} {h : gm_H} {r : gm_R × gm_H} {lv : List Value} : gm_Go E d 95 31 lv [] h r ↔ r = (.inl none, h) := gr_ret m95 f95_31 rfl rfl rfl rfl rfl rfl rfl rfl rfl
theorem f95_32 : gm_ft 95 32 = some (.aload_n 0, 1) := by decide +kernel
theorem r95_32 {E : Nat → Value} {d : Nat} {st : List Value} {h : gm_H} {r : gm_R × gm_H} {a1 a2 : Value} {x : Nat} : gm_Go E d 95 32 [.ref x, a1, a2] st h r ↔ gm_Go E d 95 33 [.ref x, a1, a2] (.ref x :: st) h r := gr_loc m95 f95_32 rfl rfl
theorem r95_32n {E : Nat → Value} {d : Nat} {st : List Value} {h : gm_H} {r : gm_R × gm_H} {a1 a2 : Value}  : gm_Go E d 95 32 [.null, a1, a2] st h r ↔ gm_Go E d 95 33 [.null, a1, a2] (.null :: st) h r := gr_loc m95 f95_32 rfl rfl
theorem f95_33 : gm_ft 95 33 = some (.getfield 15, 3) := by decide +kernel
theorem r95_33 {E : Nat → Value} {d : Nat} {st : List Value} {h : gm_H} {r : gm_R × gm_H} {lv : List Value} {a : Nat} {vs : List Value} {v : Value} (hr : gm_rd h a = some (0, vs)) (hv : vs[5]? = some v) : gm_Go E d 95 33 lv (.ref a :: st) h r ↔ gm_Go E d 95 36 lv (v :: st) h r := gr_rd m95 f95_33 rfl rfl rfl rfl (gf_get k0_15 hr hv)
theorem f95_36 : gm_ft 95 36 = some (.aload_n 0, 1) := by decide +kernel
theorem r95_36 {E : Nat → Value} {d : Nat} {st : List Value} {h : gm_H} {r : gm_R × gm_H} {a1 a2 : Value} {x : Nat} : gm_Go E d 95 36 [.ref x, a1, a2] st h r ↔ gm_Go E d 95 37 [.ref x, a1, a2] (.ref x :: st) h r := gr_loc m95 f95_36 rfl rfl
theorem r95_36n {E : Nat → Value} {d : Nat} {st : List Value} {h : gm_H} {r : gm_R × gm_H} {a1 a2 : Value}  : gm_Go E d 95 36 [.null, a1, a2] st h r ↔ gm_Go E d 95 37 [.null, a1, a2] (.null :: st) h r := gr_loc m95 f95_36 rfl rfl
theorem f95_37 : gm_ft 95 37 = some (.getfield 96, 3) := by decide +kernel
theorem r95_37 {E : Nat → Value} {d : Nat} {st : List Value} {h : gm_H} {r : gm_R × gm_H} {lv : List Value} {a : Nat} {vs : List Value} {v : Value} (hr : gm_rd h a = some (0, vs)) (hv : vs[7]? = some v) : gm_Go E d 95 37 lv (.ref a :: st) h r ↔ gm_Go E d 95 40 lv (v :: st) h r := gr_rd m95 f95_37 rfl rfl rfl rfl (gf_get k0_96 hr hv)
theorem f95_40 : gm_ft 95 40 = some (.iconst 1, 1) := by decide +kernel
theorem r95_40 {E : Nat → Value} {d : Nat} {st : List Value} {h : gm_H} {r : gm_R × gm_H} {lv : List Value} : gm_Go E d 95 40 lv st h r ↔ gm_Go E d 95 41 lv (.int (1 : Int32) :: st) h r := gr_pure m95 f95_40 rfl
theorem f95_41 : gm_ft 95 41 = some (.iadd, 1) := by decide +kernel
theorem r95_41 {E : Nat → Value} {d : Nat} {st : List Value} {h : gm_H} {r : gm_R × gm_H} {lv : List Value} {x y : Int32} : gm_Go E d 95 41 lv (.int y :: .int x :: st) h r ↔ gm_Go E d 95 42 lv (.int (x + y) :: st) h r := gr_pure m95 f95_41 rfl
theorem f95_42 : gm_ft 95 42 = some (.baload, 1) := by decide +kernel
theorem r95_42 {E : Nat → Value} {d : Nat} {st : List Value} {h : gm_H} {r : gm_R × gm_H} {lv : List Value} {a k j : Nat} {vs : List Value} {v : Value} (hr : gm_rd h a = some (k, vs)) (hk : 100 ≤ k ∧ (fun t => t == 2 || t == 3) (k % 100) = true) (hj : j < 2 ^ 31) (hv : vs[j]? = some v) : gm_Go E d 95 42 lv (.int (nI j) :: .ref a :: st) h r ↔ gm_Go E d 95 43 lv (v :: st) h r := gr_rd m95 f95_42 rfl rfl rfl rfl (ga_ld (P := fun t => t == 2 || t == 3) hr hk hj hv)
theorem f95_43 : gm_ft 95 43 = some (.sipush 255, 3) := by decide +kernel
theorem r95_43 {E : Nat → Value} {d : Nat} {st : List Value} {h : gm_H} {r : gm_R × gm_H} {lv : List Value} : gm_Go E d 95 43 lv st h r ↔ gm_Go E d 95 46 lv (.int (255 : Int32) :: st) h r := gr_pure m95 f95_43 rfl
theorem f95_46 : gm_ft 95 46 = some (.iand, 1) := by decide +kernel
theorem r95_46 {E : Nat → Value} {d : Nat} {st : List Value} {h : gm_H} {r : gm_R × gm_H} {lv : List Value} {x y : Int32} : gm_Go E d 95 46 lv (.int y :: .int x :: st) h r ↔ gm_Go E d 95 47 lv (.int (x &&& y) :: st) h r := gr_pure m95 f95_46 rfl
theorem f95_47 : gm_ft 95 47 = some (.iconst 4, 1) := by decide +kernel
theorem r95_47 {E : Nat → Value} {d : Nat} {st : List Value} {h : gm_H} {r : gm_R × gm_H} {lv : List Value} : gm_Go E d 95 47 lv st h r ↔ gm_Go E d 95 48 lv (.int (4 : Int32) :: st) h r := gr_pure m95 f95_47 rfl
theorem f95_48 : gm_ft 95 48 = some (.if_icmp .lt 14, 3) := by decide +kernel
theorem r95_48 {E : Nat → Value} {d : Nat} {st : List Value} {h : gm_H} {r : gm_R × gm_H} {lv : List Value} {x y : Int32} : gm_Go E d 95 48 lv (.int y :: .int x :: st) h r ↔ (if x < y then gm_Go E d 95 62 lv st h r else gm_Go E d 95 51 lv st h r) := (gr_br m95 f95_48 rfl rfl rfl rfl).trans gr_if
theorem f95_51 : gm_ft 95 51 = some (.aload_n 1, 1) := by decide +kernel
theorem r95_51 {E : Nat → Value} {d : Nat} {st : List Value} {h : gm_H} {r : gm_R × gm_H} {a0 a2 : Value} {x : Nat} : gm_Go E d 95 51 [a0, .ref x, a2] st h r ↔ gm_Go E d 95 52 [a0, .ref x, a2] (.ref x :: st) h r := gr_loc m95 f95_51 rfl rfl
theorem r95_51n {E : Nat → Value} {d : Nat} {st : List Value} {h : gm_H} {r : gm_R × gm_H} {a0 a2 : Value}  : gm_Go E d 95 51 [a0, .null, a2] st h r ↔ gm_Go E d 95 52 [a0, .null, a2] (.null :: st) h r := gr_loc m95 f95_51 rfl rfl
theorem f95_52 : gm_ft 95 52 = some (.aload_n 0, 1) := by decide +kernel
theorem r95_52 {E : Nat → Value} {d : Nat} {st : List Value} {h : gm_H} {r : gm_R × gm_H} {a1 a2 : Value} {x : Nat} : gm_Go E d 95 52 [.ref x, a1, a2] st h r ↔ gm_Go E d 95 53 [.ref x, a1, a2] (.ref x :: st) h r := gr_loc m95 f95_52 rfl rfl
theorem r95_52n {E : Nat → Value} {d : Nat} {st : List Value} {h : gm_H} {r : gm_R × gm_H} {a1 a2 : Value}  : gm_Go E d 95 52 [.null, a1, a2] st h r ↔ gm_Go E d 95 53 [.null, a1, a2] (.null :: st) h r := gr_loc m95 f95_52 rfl rfl
theorem f95_53 : gm_ft 95 53 = some (.iload_n 2, 1) := by decide +kernel
theorem r95_53 {E : Nat → Value} {d : Nat} {st : List Value} {h : gm_H} {r : gm_R × gm_H} {a0 a1 : Value} {x : Int32} : gm_Go E d 95 53 [a0, a1, .int x] st h r ↔ gm_Go E d 95 54 [a0, a1, .int x] (.int x :: st) h r := gr_loc m95 f95_53 rfl rfl
theorem f95_54 : gm_ft 95 54 = some (.iconst 4, 1) := by decide +kernel
theorem r95_54 {E : Nat → Value} {d : Nat} {st : List Value} {h : gm_H} {r : gm_R × gm_H} {lv : List Value} : gm_Go E d 95 54 lv st h r ↔ gm_Go E d 95 55 lv (.int (4 : Int32) :: st) h r := gr_pure m95 f95_54 rfl
theorem f95_55 : gm_ft 95 55 = some (.invokevirtual 105, 3) := by decide +kernel
theorem n95_55 {st : List Value} {h : gm_H} {E : Nat → Value} {lv : List Value} {b0 b1 : Value} {a : Nat} (hs : (st.map fun v => v.category).sum ≤ 8) (he : (gm_en1 [.ref a, b0, b1]).length ≤ 6) {vs : List Value} (hr : gm_rd h a = some (0, vs)) : gm_next E 95 55 lv (b1 :: b0 :: .ref a :: st) h = some (.inr (.inl (0, 67, [.ref a, b0, b1], st))) := gn_call m95 f95_55 rfl rfl rfl rfl rfl rfl rfl (gc_virt (bs := [b1, b0]) (w := 184) rfl rfl rfl rfl hs he hr) (by decide)
theorem f95_58 : gm_ft 95 58 = some (.l2i, 1) := by decide +kernel
theorem r95_58 {E : Nat → Value} {d : Nat} {st : List Value} {h : gm_H} {r : gm_R × gm_H} {lv : List Value} {x : Int64} : gm_Go E d 95 58 lv (.long x :: st) h r ↔ gm_Go E d 95 59 lv (.int (x.toInt32) :: st) h r := gr_pure m95 f95_58 rfl
theorem f95_59 : gm_ft 95 59 = some (.putfield 151, 3) := by decide +kernel
theorem r95_59 {E : Nat → Value} {d : Nat} {st : List Value} {h : gm_H} {r : gm_R × gm_H} {lv : List Value} {a : Nat} {vs : List Value} {v : Value} (hr : gm_rd h a = some (4, vs)) (hk : 4 < vs.length) (hn : narrow (gm_ty 4 4) v = v ∧ fits (gm_ty 4 4) v = true) : gm_Go E d 95 59 lv (v :: .ref a :: st) h r ↔ gm_Go E d 95 62 lv st (gm_wr h a (4, vs.set 4 v)) r := gr_wr m95 f95_59 rfl rfl rfl rfl rfl (gf_put k0_151 hr (by decide) hk hn (by decide))
theorem f95_62 : gm_ft 95 62 = some (.return_, 1) := by decide +kernel
theorem r95_62 {E : Nat → Value} {d : Nat} {h : gm_H} {r : gm_R × gm_H} {lv : List Value} : gm_Go E d 95 62 lv [] h r ↔ r = (.inl none, h) := gr_ret m95 f95_62 rfl rfl rfl rfl rfl rfl rfl rfl rfl
/-! GraphReader.readPresentDescriptor(I)LGraphReader$Descriptor; -/
theorem m96 : gm_mt[96]? = some (⟨"GraphReader", "readPresentDescriptor", "(I)LGraphReader$Descriptor;"⟩, prog_1_method_46_code, 3, (some (.object "GraphReader$Descriptor")), [], 0, 1) := rfl
theorem f96_0 : gm_ft 96 0 = some (.aload_n 0, 1) := by decide +kernel
theorem r96_0 {E : Nat → Value} {d : Nat} {st : List Value} {h : gm_H} {r : gm_R × gm_H} {a1 a2 : Value} {x : Nat} : gm_Go E d 96 0 [.ref x, a1, a2] st h r ↔ gm_Go E d 96 1 [.ref x, a1, a2] (.ref x :: st) h r := gr_loc m96 f96_0 rfl rfl
theorem r96_0n {E : Nat → Value} {d : Nat} {st : List Value} {h : gm_H} {r : gm_R × gm_H} {a1 a2 : Value}  : gm_Go E d 96 0 [.null, a1, a2] st h r ↔ gm_Go E d 96 1 [.null, a1, a2] (.null :: st) h r := gr_loc m96 f96_0 rfl rfl
theorem f96_1 : gm_ft 96 1 = some (.iload_n 1, 1) := by decide +kernel
theorem r96_1 {E : Nat → Value} {d : Nat} {st : List Value} {h : gm_H} {r : gm_R × gm_H} {a0 a2 : Value} {x : Int32} : gm_Go E d 96 1 [a0, .int x, a2] st h r ↔ gm_Go E d 96 2 [a0, .int x, a2] (.int x :: st) h r := gr_loc m96 f96_1 rfl rfl
theorem f96_2 : gm_ft 96 2 = some (.iconst 1, 1) := by decide +kernel
theorem r96_2 {E : Nat → Value} {d : Nat} {st : List Value} {h : gm_H} {r : gm_R × gm_H} {lv : List Value} : gm_Go E d 96 2 lv st h r ↔ gm_Go E d 96 3 lv (.int (1 : Int32) :: st) h r := gr_pure m96 f96_2 rfl
theorem f96_3 : gm_ft 96 3 = some (.invokevirtual 198, 3) := by decide +kernel
theorem n96_3 {st : List Value} {h : gm_H} {E : Nat → Value} {lv : List Value} {b0 b1 : Value} {a : Nat} (hs : (st.map fun v => v.category).sum ≤ 8) (he : (gm_en1 [.ref a, b0, b1]).length ≤ 8) {vs : List Value} (hr : gm_rd h a = some (0, vs)) : gm_next E 96 3 lv (b1 :: b0 :: .ref a :: st) h = some (.inr (.inl (0, 97, [.ref a, b0, b1], st))) := gn_call m96 f96_3 rfl rfl rfl rfl rfl rfl rfl (gc_virt (bs := [b1, b0]) (w := 295) rfl rfl rfl rfl hs he hr) (by decide)
theorem f96_6 : gm_ft 96 6 = some (.astore_n 2, 1) := by decide +kernel
theorem r96_6 {E : Nat → Value} {d : Nat} {st : List Value} {h : gm_H} {r : gm_R × gm_H} {a0 a1 a2 : Value} {x : Nat} : gm_Go E d 96 6 [a0, a1, a2] (.ref x :: st) h r ↔ gm_Go E d 96 7 [a0, gm_k a1, .ref x] st h r := gr_loc m96 f96_6 rfl rfl
theorem r96_6n {E : Nat → Value} {d : Nat} {st : List Value} {h : gm_H} {r : gm_R × gm_H} {a0 a1 a2 : Value}  : gm_Go E d 96 6 [a0, a1, a2] (.null :: st) h r ↔ gm_Go E d 96 7 [a0, gm_k a1, .null] st h r := gr_loc m96 f96_6 rfl rfl
theorem f96_7 : gm_ft 96 7 = some (.aload_n 2, 1) := by decide +kernel
theorem r96_7 {E : Nat → Value} {d : Nat} {st : List Value} {h : gm_H} {r : gm_R × gm_H} {a0 a1 : Value} {x : Nat} : gm_Go E d 96 7 [a0, a1, .ref x] st h r ↔ gm_Go E d 96 8 [a0, a1, .ref x] (.ref x :: st) h r := gr_loc m96 f96_7 rfl rfl
theorem r96_7n {E : Nat → Value} {d : Nat} {st : List Value} {h : gm_H} {r : gm_R × gm_H} {a0 a1 : Value}  : gm_Go E d 96 7 [a0, a1, .null] st h r ↔ gm_Go E d 96 8 [a0, a1, .null] (.null :: st) h r := gr_loc m96 f96_7 rfl rfl
theorem f96_8 : gm_ft 96 8 = some (.ifnonnull 10, 3) := by decide +kernel
theorem r96_8n {E : Nat → Value} {d : Nat} {st : List Value} {h : gm_H} {r : gm_R × gm_H} {lv : List Value} : gm_Go E d 96 8 lv (.null :: st) h r ↔ gm_Go E d 96 11 lv st h r := gr_brF m96 f96_8 rfl rfl rfl rfl
theorem r96_8 {E : Nat → Value} {d : Nat} {st : List Value} {h : gm_H} {r : gm_R × gm_H} {lv : List Value} {a : Nat} : gm_Go E d 96 8 lv (.ref a :: st) h r ↔ gm_Go E d 96 18 lv st h r := gr_brT m96 f96_8 rfl rfl rfl rfl
theorem f96_11 : gm_ft 96 11 = some (.aload_n 0, 1) := by decide +kernel
theorem r96_11 {E : Nat → Value} {d : Nat} {st : List Value} {h : gm_H} {r : gm_R × gm_H} {a1 a2 : Value} {x : Nat} : gm_Go E d 96 11 [.ref x, a1, a2] st h r ↔ gm_Go E d 96 12 [.ref x, a1, a2] (.ref x :: st) h r := gr_loc m96 f96_11 rfl rfl
theorem r96_11n {E : Nat → Value} {d : Nat} {st : List Value} {h : gm_H} {r : gm_R × gm_H} {a1 a2 : Value}  : gm_Go E d 96 11 [.null, a1, a2] st h r ↔ gm_Go E d 96 12 [.null, a1, a2] (.null :: st) h r := gr_loc m96 f96_11 rfl rfl
theorem f96_12 : gm_ft 96 12 = some (.bipush (-4), 2) := by decide +kernel
theorem r96_12 {E : Nat → Value} {d : Nat} {st : List Value} {h : gm_H} {r : gm_R × gm_H} {lv : List Value} : gm_Go E d 96 12 lv st h r ↔ gm_Go E d 96 14 lv (.int (-4 : Int32) :: st) h r := gr_pure m96 f96_12 rfl
theorem f96_14 : gm_ft 96 14 = some (.invokevirtual 160, 3) := by decide +kernel
theorem n96_14 {st : List Value} {h : gm_H} {E : Nat → Value} {lv : List Value} {b0 : Value} {a : Nat} (hs : (st.map fun v => v.category).sum ≤ 8) (he : (gm_en1 [.ref a, b0]).length ≤ 2) {vs : List Value} (hr : gm_rd h a = some (0, vs)) : gm_next E 96 14 lv (b0 :: .ref a :: st) h = some (.inr (.inl (0, 66, [.ref a, b0], st))) := gn_call m96 f96_14 rfl rfl rfl rfl rfl rfl rfl (gc_virt (bs := [b0]) (w := 206) rfl rfl rfl rfl hs he hr) (by decide)
theorem f96_17 : gm_ft 96 17 = some (.pop, 1) := by decide +kernel
theorem r96_17 {E : Nat → Value} {d : Nat} {st : List Value} {h : gm_H} {r : gm_R × gm_H} {lv : List Value} {x : Int32} : gm_Go E d 96 17 lv (.int x :: st) h r ↔ gm_Go E d 96 18 lv st h r := gr_pure m96 f96_17 rfl
theorem r96_17a {E : Nat → Value} {d : Nat} {st : List Value} {h : gm_H} {r : gm_R × gm_H} {lv : List Value} {a : Nat} : gm_Go E d 96 17 lv (.ref a :: st) h r ↔ gm_Go E d 96 18 lv st h r := gr_pure m96 f96_17 rfl
theorem r96_17n {E : Nat → Value} {d : Nat} {st : List Value} {h : gm_H} {r : gm_R × gm_H} {lv : List Value} : gm_Go E d 96 17 lv (.null :: st) h r ↔ gm_Go E d 96 18 lv st h r := gr_pure m96 f96_17 rfl
theorem f96_18 : gm_ft 96 18 = some (.aload_n 2, 1) := by decide +kernel
theorem r96_18 {E : Nat → Value} {d : Nat} {st : List Value} {h : gm_H} {r : gm_R × gm_H} {a0 a1 : Value} {x : Nat} : gm_Go E d 96 18 [a0, a1, .ref x] st h r ↔ gm_Go E d 96 19 [a0, a1, .ref x] (.ref x :: st) h r := gr_loc m96 f96_18 rfl rfl
theorem r96_18n {E : Nat → Value} {d : Nat} {st : List Value} {h : gm_H} {r : gm_R × gm_H} {a0 a1 : Value}  : gm_Go E d 96 18 [a0, a1, .null] st h r ↔ gm_Go E d 96 19 [a0, a1, .null] (.null :: st) h r := gr_loc m96 f96_18 rfl rfl
theorem f96_19 : gm_ft 96 19 = some (.areturn, 1) := by decide +kernel
theorem r96_19 {E : Nat → Value} {d : Nat} {h : gm_H} {r : gm_R × gm_H} {lv : List Value} {a : Nat} : gm_Go E d 96 19 lv [.ref a] h r ↔ r = (.inl (some (.ref a)), h) := gr_ret m96 f96_19 rfl rfl rfl rfl rfl rfl rfl rfl rfl
theorem r96_19n {E : Nat → Value} {d : Nat} {h : gm_H} {r : gm_R × gm_H} {lv : List Value} : gm_Go E d 96 19 lv [.null] h r ↔ r = (.inl (some .null), h) := gr_ret m96 f96_19 rfl rfl rfl rfl rfl rfl rfl rfl rfl
/-! GraphReader.readDescriptor(II)LGraphReader$Descriptor; -/
theorem m97 : gm_mt[97]? = some (⟨"GraphReader", "readDescriptor", "(II)LGraphReader$Descriptor;"⟩, prog_1_method_47_code, 8, (some (.object "GraphReader$Descriptor")), [], 0, 1) := rfl
theorem f97_0 : gm_ft 97 0 = some (.aload_n 0, 1) := by decide +kernel
theorem r97_0 {E : Nat → Value} {d : Nat} {st : List Value} {h : gm_H} {r : gm_R × gm_H} {a1 a2 a3 a4 a5 a6 a7 : Value} {x : Nat} : gm_Go E d 97 0 [.ref x, a1, a2, a3, a4, a5, a6, a7] st h r ↔ gm_Go E d 97 1 [.ref x, a1, a2, a3, a4, a5, a6, a7] (.ref x :: st) h r := gr_loc m97 f97_0 rfl rfl
theorem r97_0n {E : Nat → Value} {d : Nat} {st : List Value} {h : gm_H} {r : gm_R × gm_H} {a1 a2 a3 a4 a5 a6 a7 : Value}  : gm_Go E d 97 0 [.null, a1, a2, a3, a4, a5, a6, a7] st h r ↔ gm_Go E d 97 1 [.null, a1, a2, a3, a4, a5, a6, a7] (.null :: st) h r := gr_loc m97 f97_0 rfl rfl
theorem f97_1 : gm_ft 97 1 = some (.invokevirtual 176, 3) := by decide +kernel
theorem n97_1 {st : List Value} {h : gm_H} {E : Nat → Value} {lv : List Value} {a : Nat} (hs : (st.map fun v => v.category).sum ≤ 8) (he : (gm_en1 [.ref a]).length ≤ 1) {vs : List Value} (hr : gm_rd h a = some (0, vs)) : gm_next E 97 1 lv (.ref a :: st) h = some (.inr (.inl (0, 69, [.ref a], st))) := gn_call m97 f97_1 rfl rfl rfl rfl rfl rfl rfl (gc_virt (bs := []) (w := 274) rfl rfl rfl rfl hs he hr) (by decide)
theorem f97_4 : gm_ft 97 4 = some (.istore_n 3, 1) := by decide +kernel
theorem r97_4 {E : Nat → Value} {d : Nat} {st : List Value} {h : gm_H} {r : gm_R × gm_H} {a0 a1 a2 a3 a4 a5 a6 a7 : Value} {x : Int32} : gm_Go E d 97 4 [a0, a1, a2, a3, a4, a5, a6, a7] (.int x :: st) h r ↔ gm_Go E d 97 5 [a0, a1, gm_k a2, .int x, a4, a5, a6, a7] st h r := gr_loc m97 f97_4 rfl rfl
theorem f97_5 : gm_ft 97 5 = some (.iload_n 3, 1) := by decide +kernel
theorem r97_5 {E : Nat → Value} {d : Nat} {st : List Value} {h : gm_H} {r : gm_R × gm_H} {a0 a1 a2 a4 a5 a6 a7 : Value} {x : Int32} : gm_Go E d 97 5 [a0, a1, a2, .int x, a4, a5, a6, a7] st h r ↔ gm_Go E d 97 6 [a0, a1, a2, .int x, a4, a5, a6, a7] (.int x :: st) h r := gr_loc m97 f97_5 rfl rfl
theorem f97_6 : gm_ft 97 6 = some (.bipush 112, 2) := by decide +kernel
theorem r97_6 {E : Nat → Value} {d : Nat} {st : List Value} {h : gm_H} {r : gm_R × gm_H} {lv : List Value} : gm_Go E d 97 6 lv st h r ↔ gm_Go E d 97 8 lv (.int (112 : Int32) :: st) h r := gr_pure m97 f97_6 rfl
theorem f97_8 : gm_ft 97 8 = some (.if_icmp .ne 5, 3) := by decide +kernel
theorem r97_8 {E : Nat → Value} {d : Nat} {st : List Value} {h : gm_H} {r : gm_R × gm_H} {lv : List Value} {x y : Int32} : gm_Go E d 97 8 lv (.int y :: .int x :: st) h r ↔ (if x = y then gm_Go E d 97 11 lv st h r else gm_Go E d 97 13 lv st h r) := (gr_br m97 f97_8 rfl rfl rfl rfl).trans gr_ifn
theorem f97_11 : gm_ft 97 11 = some (.aconst_null, 1) := by decide +kernel
theorem r97_11 {E : Nat → Value} {d : Nat} {st : List Value} {h : gm_H} {r : gm_R × gm_H} {lv : List Value} : gm_Go E d 97 11 lv st h r ↔ gm_Go E d 97 12 lv (.null :: st) h r := gr_pure m97 f97_11 rfl
theorem f97_12 : gm_ft 97 12 = some (.areturn, 1) := by decide +kernel
theorem r97_12 {E : Nat → Value} {d : Nat} {h : gm_H} {r : gm_R × gm_H} {lv : List Value} {a : Nat} : gm_Go E d 97 12 lv [.ref a] h r ↔ r = (.inl (some (.ref a)), h) := gr_ret m97 f97_12 rfl rfl rfl rfl rfl rfl rfl rfl rfl
theorem r97_12n {E : Nat → Value} {d : Nat} {h : gm_H} {r : gm_R × gm_H} {lv : List Value} : gm_Go E d 97 12 lv [.null] h r ↔ r = (.inl (some .null), h) := gr_ret m97 f97_12 rfl rfl rfl rfl rfl rfl rfl rfl rfl
theorem f97_13 : gm_ft 97 13 = some (.iload_n 3, 1) := by decide +kernel
theorem r97_13 {E : Nat → Value} {d : Nat} {st : List Value} {h : gm_H} {r : gm_R × gm_H} {a0 a1 a2 a4 a5 a6 a7 : Value} {x : Int32} : gm_Go E d 97 13 [a0, a1, a2, .int x, a4, a5, a6, a7] st h r ↔ gm_Go E d 97 14 [a0, a1, a2, .int x, a4, a5, a6, a7] (.int x :: st) h r := gr_loc m97 f97_13 rfl rfl
theorem f97_14 : gm_ft 97 14 = some (.bipush 113, 2) := by decide +kernel
theorem r97_14 {E : Nat → Value} {d : Nat} {st : List Value} {h : gm_H} {r : gm_R × gm_H} {lv : List Value} : gm_Go E d 97 14 lv st h r ↔ gm_Go E d 97 16 lv (.int (113 : Int32) :: st) h r := gr_pure m97 f97_14 rfl
theorem f97_16 : gm_ft 97 16 = some (.if_icmp .ne 32, 3) := by decide +kernel
theorem r97_16 {E : Nat → Value} {d : Nat} {st : List Value} {h : gm_H} {r : gm_R × gm_H} {lv : List Value} {x y : Int32} : gm_Go E d 97 16 lv (.int y :: .int x :: st) h r ↔ (if x = y then gm_Go E d 97 19 lv st h r else gm_Go E d 97 48 lv st h r) := (gr_br m97 f97_16 rfl rfl rfl rfl).trans gr_ifn
theorem f97_19 : gm_ft 97 19 = some (.aload_n 0, 1) := by decide +kernel
theorem r97_19 {E : Nat → Value} {d : Nat} {st : List Value} {h : gm_H} {r : gm_R × gm_H} {a1 a2 a3 a4 a5 a6 a7 : Value} {x : Nat} : gm_Go E d 97 19 [.ref x, a1, a2, a3, a4, a5, a6, a7] st h r ↔ gm_Go E d 97 20 [.ref x, a1, a2, a3, a4, a5, a6, a7] (.ref x :: st) h r := gr_loc m97 f97_19 rfl rfl
theorem r97_19n {E : Nat → Value} {d : Nat} {st : List Value} {h : gm_H} {r : gm_R × gm_H} {a1 a2 a3 a4 a5 a6 a7 : Value}  : gm_Go E d 97 19 [.null, a1, a2, a3, a4, a5, a6, a7] st h r ↔ gm_Go E d 97 20 [.null, a1, a2, a3, a4, a5, a6, a7] (.null :: st) h r := gr_loc m97 f97_19 rfl rfl
theorem f97_20 : gm_ft 97 20 = some (.getfield 28, 3) := by decide +kernel
theorem r97_20 {E : Nat → Value} {d : Nat} {st : List Value} {h : gm_H} {r : gm_R × gm_H} {lv : List Value} {a : Nat} {vs : List Value} {v : Value} (hr : gm_rd h a = some (0, vs)) (hv : vs[10]? = some v) : gm_Go E d 97 20 lv (.ref a :: st) h r ↔ gm_Go E d 97 23 lv (v :: st) h r := gr_rd m97 f97_20 rfl rfl rfl rfl (gf_get k0_28 hr hv)
theorem f97_23 : gm_ft 97 23 = some (.getfield 322, 3) := by decide +kernel
theorem r97_23 {E : Nat → Value} {d : Nat} {st : List Value} {h : gm_H} {r : gm_R × gm_H} {lv : List Value} {a : Nat} {vs : List Value} {v : Value} (hr : gm_rd h a = some (2, vs)) (hv : vs[1]? = some v) : gm_Go E d 97 23 lv (.ref a :: st) h r ↔ gm_Go E d 97 26 lv (v :: st) h r := gr_rd m97 f97_23 rfl rfl rfl rfl (gf_get k0_322 hr hv)
theorem f97_26 : gm_ft 97 26 = some (.aload_n 0, 1) := by decide +kernel
theorem r97_26 {E : Nat → Value} {d : Nat} {st : List Value} {h : gm_H} {r : gm_R × gm_H} {a1 a2 a3 a4 a5 a6 a7 : Value} {x : Nat} : gm_Go E d 97 26 [.ref x, a1, a2, a3, a4, a5, a6, a7] st h r ↔ gm_Go E d 97 27 [.ref x, a1, a2, a3, a4, a5, a6, a7] (.ref x :: st) h r := gr_loc m97 f97_26 rfl rfl
theorem r97_26n {E : Nat → Value} {d : Nat} {st : List Value} {h : gm_H} {r : gm_R × gm_H} {a1 a2 a3 a4 a5 a6 a7 : Value}  : gm_Go E d 97 26 [.null, a1, a2, a3, a4, a5, a6, a7] st h r ↔ gm_Go E d 97 27 [.null, a1, a2, a3, a4, a5, a6, a7] (.null :: st) h r := gr_loc m97 f97_26 rfl rfl
theorem f97_27 : gm_ft 97 27 = some (.invokevirtual 219, 3) := by decide +kernel
theorem n97_27 {st : List Value} {h : gm_H} {E : Nat → Value} {lv : List Value} {a : Nat} (hs : (st.map fun v => v.category).sum ≤ 8) (he : (gm_en1 [.ref a]).length ≤ 2) {vs : List Value} (hr : gm_rd h a = some (0, vs)) : gm_next E 97 27 lv (.ref a :: st) h = some (.inr (.inl (0, 83, [.ref a], st))) := gn_call m97 f97_27 rfl rfl rfl rfl rfl rfl rfl (gc_virt (bs := []) (w := 286) rfl rfl rfl rfl hs he hr) (by decide)
theorem f97_30 : gm_ft 97 30 = some (.aaload, 1) := by decide +kernel
theorem r97_30 {E : Nat → Value} {d : Nat} {st : List Value} {h : gm_H} {r : gm_R × gm_H} {lv : List Value} {a k j : Nat} {vs : List Value} {v : Value} (hr : gm_rd h a = some (k, vs)) (hk : 100 ≤ k ∧ (fun t => t == 10 || t == 11 || t == 12) (k % 100) = true) (hj : j < 2 ^ 31) (hv : vs[j]? = some v) : gm_Go E d 97 30 lv (.int (nI j) :: .ref a :: st) h r ↔ gm_Go E d 97 31 lv (v :: st) h r := gr_rd m97 f97_30 rfl rfl rfl rfl (ga_ld (P := fun t => t == 10 || t == 11 || t == 12) hr hk hj hv)
theorem f97_31 : gm_ft 97 31 = some (.astore 4, 2) := by decide +kernel
theorem r97_31 {E : Nat → Value} {d : Nat} {st : List Value} {h : gm_H} {r : gm_R × gm_H} {a0 a1 a2 a3 a4 a5 a6 a7 : Value} {x : Nat} : gm_Go E d 97 31 [a0, a1, a2, a3, a4, a5, a6, a7] (.ref x :: st) h r ↔ gm_Go E d 97 33 [a0, a1, a2, gm_k a3, .ref x, a5, a6, a7] st h r := gr_loc m97 f97_31 rfl rfl
theorem r97_31n {E : Nat → Value} {d : Nat} {st : List Value} {h : gm_H} {r : gm_R × gm_H} {a0 a1 a2 a3 a4 a5 a6 a7 : Value}  : gm_Go E d 97 31 [a0, a1, a2, a3, a4, a5, a6, a7] (.null :: st) h r ↔ gm_Go E d 97 33 [a0, a1, a2, gm_k a3, .null, a5, a6, a7] st h r := gr_loc m97 f97_31 rfl rfl
theorem f97_33 : gm_ft 97 33 = some (.aload 4, 2) := by decide +kernel
theorem r97_33 {E : Nat → Value} {d : Nat} {st : List Value} {h : gm_H} {r : gm_R × gm_H} {a0 a1 a2 a3 a5 a6 a7 : Value} {x : Nat} : gm_Go E d 97 33 [a0, a1, a2, a3, .ref x, a5, a6, a7] st h r ↔ gm_Go E d 97 35 [a0, a1, a2, a3, .ref x, a5, a6, a7] (.ref x :: st) h r := gr_loc m97 f97_33 rfl rfl
theorem r97_33n {E : Nat → Value} {d : Nat} {st : List Value} {h : gm_H} {r : gm_R × gm_H} {a0 a1 a2 a3 a5 a6 a7 : Value}  : gm_Go E d 97 33 [a0, a1, a2, a3, .null, a5, a6, a7] st h r ↔ gm_Go E d 97 35 [a0, a1, a2, a3, .null, a5, a6, a7] (.null :: st) h r := gr_loc m97 f97_33 rfl rfl
theorem f97_35 : gm_ft 97 35 = some (.ifnonnull 10, 3) := by decide +kernel
theorem r97_35n {E : Nat → Value} {d : Nat} {st : List Value} {h : gm_H} {r : gm_R × gm_H} {lv : List Value} : gm_Go E d 97 35 lv (.null :: st) h r ↔ gm_Go E d 97 38 lv st h r := gr_brF m97 f97_35 rfl rfl rfl rfl
theorem r97_35 {E : Nat → Value} {d : Nat} {st : List Value} {h : gm_H} {r : gm_R × gm_H} {lv : List Value} {a : Nat} : gm_Go E d 97 35 lv (.ref a :: st) h r ↔ gm_Go E d 97 45 lv st h r := gr_brT m97 f97_35 rfl rfl rfl rfl
theorem f97_38 : gm_ft 97 38 = some (.aload_n 0, 1) := by decide +kernel
theorem r97_38 {E : Nat → Value} {d : Nat} {st : List Value} {h : gm_H} {r : gm_R × gm_H} {a1 a2 a3 a4 a5 a6 a7 : Value} {x : Nat} : gm_Go E d 97 38 [.ref x, a1, a2, a3, a4, a5, a6, a7] st h r ↔ gm_Go E d 97 39 [.ref x, a1, a2, a3, a4, a5, a6, a7] (.ref x :: st) h r := gr_loc m97 f97_38 rfl rfl
theorem r97_38n {E : Nat → Value} {d : Nat} {st : List Value} {h : gm_H} {r : gm_R × gm_H} {a1 a2 a3 a4 a5 a6 a7 : Value}  : gm_Go E d 97 38 [.null, a1, a2, a3, a4, a5, a6, a7] st h r ↔ gm_Go E d 97 39 [.null, a1, a2, a3, a4, a5, a6, a7] (.null :: st) h r := gr_loc m97 f97_38 rfl rfl
theorem f97_39 : gm_ft 97 39 = some (.bipush (-4), 2) := by decide +kernel
theorem r97_39 {E : Nat → Value} {d : Nat} {st : List Value} {h : gm_H} {r : gm_R × gm_H} {lv : List Value} : gm_Go E d 97 39 lv st h r ↔ gm_Go E d 97 41 lv (.int (-4 : Int32) :: st) h r := gr_pure m97 f97_39 rfl
theorem f97_41 : gm_ft 97 41 = some (.invokevirtual 160, 3) := by decide +kernel
theorem n97_41 {st : List Value} {h : gm_H} {E : Nat → Value} {lv : List Value} {b0 : Value} {a : Nat} (hs : (st.map fun v => v.category).sum ≤ 8) (he : (gm_en1 [.ref a, b0]).length ≤ 2) {vs : List Value} (hr : gm_rd h a = some (0, vs)) : gm_next E 97 41 lv (b0 :: .ref a :: st) h = some (.inr (.inl (0, 66, [.ref a, b0], st))) := gn_call m97 f97_41 rfl rfl rfl rfl rfl rfl rfl (gc_virt (bs := [b0]) (w := 206) rfl rfl rfl rfl hs he hr) (by decide)
theorem f97_44 : gm_ft 97 44 = some (.pop, 1) := by decide +kernel
theorem r97_44 {E : Nat → Value} {d : Nat} {st : List Value} {h : gm_H} {r : gm_R × gm_H} {lv : List Value} {x : Int32} : gm_Go E d 97 44 lv (.int x :: st) h r ↔ gm_Go E d 97 45 lv st h r := gr_pure m97 f97_44 rfl
theorem r97_44a {E : Nat → Value} {d : Nat} {st : List Value} {h : gm_H} {r : gm_R × gm_H} {lv : List Value} {a : Nat} : gm_Go E d 97 44 lv (.ref a :: st) h r ↔ gm_Go E d 97 45 lv st h r := gr_pure m97 f97_44 rfl
theorem r97_44n {E : Nat → Value} {d : Nat} {st : List Value} {h : gm_H} {r : gm_R × gm_H} {lv : List Value} : gm_Go E d 97 44 lv (.null :: st) h r ↔ gm_Go E d 97 45 lv st h r := gr_pure m97 f97_44 rfl
theorem f97_45 : gm_ft 97 45 = some (.aload 4, 2) := by decide +kernel
theorem r97_45 {E : Nat → Value} {d : Nat} {st : List Value} {h : gm_H} {r : gm_R × gm_H} {a0 a1 a2 a3 a5 a6 a7 : Value} {x : Nat} : gm_Go E d 97 45 [a0, a1, a2, a3, .ref x, a5, a6, a7] st h r ↔ gm_Go E d 97 47 [a0, a1, a2, a3, .ref x, a5, a6, a7] (.ref x :: st) h r := gr_loc m97 f97_45 rfl rfl
theorem r97_45n {E : Nat → Value} {d : Nat} {st : List Value} {h : gm_H} {r : gm_R × gm_H} {a0 a1 a2 a3 a5 a6 a7 : Value}  : gm_Go E d 97 45 [a0, a1, a2, a3, .null, a5, a6, a7] st h r ↔ gm_Go E d 97 47 [a0, a1, a2, a3, .null, a5, a6, a7] (.null :: st) h r := gr_loc m97 f97_45 rfl rfl
theorem f97_47 : gm_ft 97 47 = some (.areturn, 1) := by decide +kernel
theorem r97_47 {E : Nat → Value} {d : Nat} {h : gm_H} {r : gm_R × gm_H} {lv : List Value} {a : Nat} : gm_Go E d 97 47 lv [.ref a] h r ↔ r = (.inl (some (.ref a)), h) := gr_ret m97 f97_47 rfl rfl rfl rfl rfl rfl rfl rfl rfl
theorem r97_47n {E : Nat → Value} {d : Nat} {h : gm_H} {r : gm_R × gm_H} {lv : List Value} : gm_Go E d 97 47 lv [.null] h r ↔ r = (.inl (some .null), h) := gr_ret m97 f97_47 rfl rfl rfl rfl rfl rfl rfl rfl rfl
theorem f97_48 : gm_ft 97 48 = some (.iload_n 3, 1) := by decide +kernel
theorem r97_48 {E : Nat → Value} {d : Nat} {st : List Value} {h : gm_H} {r : gm_R × gm_H} {a0 a1 a2 a4 a5 a6 a7 : Value} {x : Int32} : gm_Go E d 97 48 [a0, a1, a2, .int x, a4, a5, a6, a7] st h r ↔ gm_Go E d 97 49 [a0, a1, a2, .int x, a4, a5, a6, a7] (.int x :: st) h r := gr_loc m97 f97_48 rfl rfl
theorem f97_49 : gm_ft 97 49 = some (.bipush 114, 2) := by decide +kernel
theorem r97_49 {E : Nat → Value} {d : Nat} {st : List Value} {h : gm_H} {r : gm_R × gm_H} {lv : List Value} : gm_Go E d 97 49 lv st h r ↔ gm_Go E d 97 51 lv (.int (114 : Int32) :: st) h r := gr_pure m97 f97_49 rfl
theorem f97_51 : gm_ft 97 51 = some (.if_icmp .ne 9, 3) := by decide +kernel
theorem r97_51 {E : Nat → Value} {d : Nat} {st : List Value} {h : gm_H} {r : gm_R × gm_H} {lv : List Value} {x y : Int32} : gm_Go E d 97 51 lv (.int y :: .int x :: st) h r ↔ (if x = y then gm_Go E d 97 54 lv st h r else gm_Go E d 97 60 lv st h r) := (gr_br m97 f97_51 rfl rfl rfl rfl).trans gr_ifn
theorem f97_54 : gm_ft 97 54 = some (.iload_n 2, 1) := by decide +kernel
theorem r97_54 {E : Nat → Value} {d : Nat} {st : List Value} {h : gm_H} {r : gm_R × gm_H} {a0 a1 a3 a4 a5 a6 a7 : Value} {x : Int32} : gm_Go E d 97 54 [a0, a1, .int x, a3, a4, a5, a6, a7] st h r ↔ gm_Go E d 97 55 [a0, a1, .int x, a3, a4, a5, a6, a7] (.int x :: st) h r := gr_loc m97 f97_54 rfl rfl
theorem f97_55 : gm_ft 97 55 = some (.bipush 8, 2) := by decide +kernel
theorem r97_55 {E : Nat → Value} {d : Nat} {st : List Value} {h : gm_H} {r : gm_R × gm_H} {lv : List Value} : gm_Go E d 97 55 lv st h r ↔ gm_Go E d 97 57 lv (.int (8 : Int32) :: st) h r := gr_pure m97 f97_55 rfl
theorem f97_57 : gm_ft 97 57 = some (.if_icmp .le 10, 3) := by decide +kernel
theorem r97_57 {E : Nat → Value} {d : Nat} {st : List Value} {h : gm_H} {r : gm_R × gm_H} {lv : List Value} {x y : Int32} : gm_Go E d 97 57 lv (.int y :: .int x :: st) h r ↔ (if x ≤ y then gm_Go E d 97 67 lv st h r else gm_Go E d 97 60 lv st h r) := (gr_br m97 f97_57 rfl rfl rfl rfl).trans gr_if
theorem f97_60 : gm_ft 97 60 = some (.aload_n 0, 1) := by decide +kernel
theorem r97_60 {E : Nat → Value} {d : Nat} {st : List Value} {h : gm_H} {r : gm_R × gm_H} {a1 a2 a3 a4 a5 a6 a7 : Value} {x : Nat} : gm_Go E d 97 60 [.ref x, a1, a2, a3, a4, a5, a6, a7] st h r ↔ gm_Go E d 97 61 [.ref x, a1, a2, a3, a4, a5, a6, a7] (.ref x :: st) h r := gr_loc m97 f97_60 rfl rfl
theorem r97_60n {E : Nat → Value} {d : Nat} {st : List Value} {h : gm_H} {r : gm_R × gm_H} {a1 a2 a3 a4 a5 a6 a7 : Value}  : gm_Go E d 97 60 [.null, a1, a2, a3, a4, a5, a6, a7] st h r ↔ gm_Go E d 97 61 [.null, a1, a2, a3, a4, a5, a6, a7] (.null :: st) h r := gr_loc m97 f97_60 rfl rfl
theorem f97_61 : gm_ft 97 61 = some (.bipush (-4), 2) := by decide +kernel
theorem r97_61 {E : Nat → Value} {d : Nat} {st : List Value} {h : gm_H} {r : gm_R × gm_H} {lv : List Value} : gm_Go E d 97 61 lv st h r ↔ gm_Go E d 97 63 lv (.int (-4 : Int32) :: st) h r := gr_pure m97 f97_61 rfl
theorem f97_63 : gm_ft 97 63 = some (.invokevirtual 160, 3) := by decide +kernel
theorem n97_63 {st : List Value} {h : gm_H} {E : Nat → Value} {lv : List Value} {b0 : Value} {a : Nat} (hs : (st.map fun v => v.category).sum ≤ 8) (he : (gm_en1 [.ref a, b0]).length ≤ 2) {vs : List Value} (hr : gm_rd h a = some (0, vs)) : gm_next E 97 63 lv (b0 :: .ref a :: st) h = some (.inr (.inl (0, 66, [.ref a, b0], st))) := gn_call m97 f97_63 rfl rfl rfl rfl rfl rfl rfl (gc_virt (bs := [b0]) (w := 206) rfl rfl rfl rfl hs he hr) (by decide)
theorem f97_66 : gm_ft 97 66 = some (.pop, 1) := by decide +kernel
theorem r97_66 {E : Nat → Value} {d : Nat} {st : List Value} {h : gm_H} {r : gm_R × gm_H} {lv : List Value} {x : Int32} : gm_Go E d 97 66 lv (.int x :: st) h r ↔ gm_Go E d 97 67 lv st h r := gr_pure m97 f97_66 rfl
theorem r97_66a {E : Nat → Value} {d : Nat} {st : List Value} {h : gm_H} {r : gm_R × gm_H} {lv : List Value} {a : Nat} : gm_Go E d 97 66 lv (.ref a :: st) h r ↔ gm_Go E d 97 67 lv st h r := gr_pure m97 f97_66 rfl
theorem r97_66n {E : Nat → Value} {d : Nat} {st : List Value} {h : gm_H} {r : gm_R × gm_H} {lv : List Value} : gm_Go E d 97 66 lv (.null :: st) h r ↔ gm_Go E d 97 67 lv st h r := gr_pure m97 f97_66 rfl
theorem f97_67 : gm_ft 97 67 = some (.aload_n 0, 1) := by decide +kernel
theorem r97_67 {E : Nat → Value} {d : Nat} {st : List Value} {h : gm_H} {r : gm_R × gm_H} {a1 a2 a3 a4 a5 a6 a7 : Value} {x : Nat} : gm_Go E d 97 67 [.ref x, a1, a2, a3, a4, a5, a6, a7] st h r ↔ gm_Go E d 97 68 [.ref x, a1, a2, a3, a4, a5, a6, a7] (.ref x :: st) h r := gr_loc m97 f97_67 rfl rfl
theorem r97_67n {E : Nat → Value} {d : Nat} {st : List Value} {h : gm_H} {r : gm_R × gm_H} {a1 a2 a3 a4 a5 a6 a7 : Value}  : gm_Go E d 97 67 [.null, a1, a2, a3, a4, a5, a6, a7] st h r ↔ gm_Go E d 97 68 [.null, a1, a2, a3, a4, a5, a6, a7] (.null :: st) h r := gr_loc m97 f97_67 rfl rfl
theorem f97_68 : gm_ft 97 68 = some (.invokevirtual 225, 3) := by decide +kernel
theorem n97_68 {st : List Value} {h : gm_H} {E : Nat → Value} {lv : List Value} {a : Nat} (hs : (st.map fun v => v.category).sum ≤ 8) (he : (gm_en1 [.ref a]).length ≤ 4) {vs : List Value} (hr : gm_rd h a = some (0, vs)) : gm_next E 97 68 lv (.ref a :: st) h = some (.inr (.inl (0, 71, [.ref a], st))) := gn_call m97 f97_68 rfl rfl rfl rfl rfl rfl rfl (gc_virt (bs := []) (w := 299) rfl rfl rfl rfl hs he hr) (by decide)
theorem f97_71 : gm_ft 97 71 = some (.istore 4, 2) := by decide +kernel
theorem r97_71 {E : Nat → Value} {d : Nat} {st : List Value} {h : gm_H} {r : gm_R × gm_H} {a0 a1 a2 a3 a4 a5 a6 a7 : Value} {x : Int32} : gm_Go E d 97 71 [a0, a1, a2, a3, a4, a5, a6, a7] (.int x :: st) h r ↔ gm_Go E d 97 73 [a0, a1, a2, gm_k a3, .int x, a5, a6, a7] st h r := gr_loc m97 f97_71 rfl rfl
theorem f97_73 : gm_ft 97 73 = some (.aload_n 0, 1) := by decide +kernel
theorem r97_73 {E : Nat → Value} {d : Nat} {st : List Value} {h : gm_H} {r : gm_R × gm_H} {a1 a2 a3 a4 a5 a6 a7 : Value} {x : Nat} : gm_Go E d 97 73 [.ref x, a1, a2, a3, a4, a5, a6, a7] st h r ↔ gm_Go E d 97 74 [.ref x, a1, a2, a3, a4, a5, a6, a7] (.ref x :: st) h r := gr_loc m97 f97_73 rfl rfl
theorem r97_73n {E : Nat → Value} {d : Nat} {st : List Value} {h : gm_H} {r : gm_R × gm_H} {a1 a2 a3 a4 a5 a6 a7 : Value}  : gm_Go E d 97 73 [.null, a1, a2, a3, a4, a5, a6, a7] st h r ↔ gm_Go E d 97 74 [.null, a1, a2, a3, a4, a5, a6, a7] (.null :: st) h r := gr_loc m97 f97_73 rfl rfl
theorem f97_74 : gm_ft 97 74 = some (.getfield 96, 3) := by decide +kernel
theorem r97_74 {E : Nat → Value} {d : Nat} {st : List Value} {h : gm_H} {r : gm_R × gm_H} {lv : List Value} {a : Nat} {vs : List Value} {v : Value} (hr : gm_rd h a = some (0, vs)) (hv : vs[7]? = some v) : gm_Go E d 97 74 lv (.ref a :: st) h r ↔ gm_Go E d 97 77 lv (v :: st) h r := gr_rd m97 f97_74 rfl rfl rfl rfl (gf_get k0_96 hr hv)
theorem f97_77 : gm_ft 97 77 = some (.iload 4, 2) := by decide +kernel
theorem r97_77 {E : Nat → Value} {d : Nat} {st : List Value} {h : gm_H} {r : gm_R × gm_H} {a0 a1 a2 a3 a5 a6 a7 : Value} {x : Int32} : gm_Go E d 97 77 [a0, a1, a2, a3, .int x, a5, a6, a7] st h r ↔ gm_Go E d 97 79 [a0, a1, a2, a3, .int x, a5, a6, a7] (.int x :: st) h r := gr_loc m97 f97_77 rfl rfl
theorem f97_79 : gm_ft 97 79 = some (.isub, 1) := by decide +kernel
theorem r97_79 {E : Nat → Value} {d : Nat} {st : List Value} {h : gm_H} {r : gm_R × gm_H} {lv : List Value} {x y : Int32} : gm_Go E d 97 79 lv (.int y :: .int x :: st) h r ↔ gm_Go E d 97 80 lv (.int (x - y) :: st) h r := gr_pure m97 f97_79 rfl
theorem f97_80 : gm_ft 97 80 = some (.istore 5, 2) := by decide +kernel
theorem r97_80 {E : Nat → Value} {d : Nat} {st : List Value} {h : gm_H} {r : gm_R × gm_H} {a0 a1 a2 a3 a4 a5 a6 a7 : Value} {x : Int32} : gm_Go E d 97 80 [a0, a1, a2, a3, a4, a5, a6, a7] (.int x :: st) h r ↔ gm_Go E d 97 82 [a0, a1, a2, a3, gm_k a4, .int x, a6, a7] st h r := gr_loc m97 f97_80 rfl rfl
theorem f97_82 : gm_ft 97 82 = some (.new 189, 3) := by decide +kernel
theorem r97_82 {E : Nat → Value} {d : Nat} {st : List Value} {h : gm_H} {r : gm_R × gm_H} {lv : List Value} : gm_Go E d 97 82 lv st h r ↔ gm_Go E d 97 85 lv (.ref h.1 :: st) (gm_nw h (1, (List.range (gm_N 1)).map (fun k => defaultValue (gm_ty 1 k))) (gm_N 1)) r := gr_nw m97 f97_82 rfl rfl rfl rfl rfl rfl rfl
theorem f97_85 : gm_ft 97 85 = some (.dup, 1) := by decide +kernel
theorem r97_85 {E : Nat → Value} {d : Nat} {st : List Value} {h : gm_H} {r : gm_R × gm_H} {lv : List Value} {a : Nat} : gm_Go E d 97 85 lv (.ref a :: st) h r ↔ gm_Go E d 97 86 lv (.ref a :: .ref a :: st) h r := gr_pure m97 f97_85 rfl
theorem r97_85i {E : Nat → Value} {d : Nat} {st : List Value} {h : gm_H} {r : gm_R × gm_H} {lv : List Value} {x : Int32} : gm_Go E d 97 85 lv (.int x :: st) h r ↔ gm_Go E d 97 86 lv (.int x :: .int x :: st) h r := gr_pure m97 f97_85 rfl
theorem f97_86 : gm_ft 97 86 = some (.iload 4, 2) := by decide +kernel
theorem r97_86 {E : Nat → Value} {d : Nat} {st : List Value} {h : gm_H} {r : gm_R × gm_H} {a0 a1 a2 a3 a5 a6 a7 : Value} {x : Int32} : gm_Go E d 97 86 [a0, a1, a2, a3, .int x, a5, a6, a7] st h r ↔ gm_Go E d 97 88 [a0, a1, a2, a3, .int x, a5, a6, a7] (.int x :: st) h r := gr_loc m97 f97_86 rfl rfl
theorem f97_88 : gm_ft 97 88 = some (.iload 5, 2) := by decide +kernel
theorem r97_88 {E : Nat → Value} {d : Nat} {st : List Value} {h : gm_H} {r : gm_R × gm_H} {a0 a1 a2 a3 a4 a6 a7 : Value} {x : Int32} : gm_Go E d 97 88 [a0, a1, a2, a3, a4, .int x, a6, a7] st h r ↔ gm_Go E d 97 90 [a0, a1, a2, a3, a4, .int x, a6, a7] (.int x :: st) h r := gr_loc m97 f97_88 rfl rfl
theorem f97_90 : gm_ft 97 90 = some (.aload_n 0, 1) := by decide +kernel
theorem r97_90 {E : Nat → Value} {d : Nat} {st : List Value} {h : gm_H} {r : gm_R × gm_H} {a1 a2 a3 a4 a5 a6 a7 : Value} {x : Nat} : gm_Go E d 97 90 [.ref x, a1, a2, a3, a4, a5, a6, a7] st h r ↔ gm_Go E d 97 91 [.ref x, a1, a2, a3, a4, a5, a6, a7] (.ref x :: st) h r := gr_loc m97 f97_90 rfl rfl
theorem r97_90n {E : Nat → Value} {d : Nat} {st : List Value} {h : gm_H} {r : gm_R × gm_H} {a1 a2 a3 a4 a5 a6 a7 : Value}  : gm_Go E d 97 90 [.null, a1, a2, a3, a4, a5, a6, a7] st h r ↔ gm_Go E d 97 91 [.null, a1, a2, a3, a4, a5, a6, a7] (.null :: st) h r := gr_loc m97 f97_90 rfl rfl
theorem f97_91 : gm_ft 97 91 = some (.bipush 8, 2) := by decide +kernel
theorem r97_91 {E : Nat → Value} {d : Nat} {st : List Value} {h : gm_H} {r : gm_R × gm_H} {lv : List Value} : gm_Go E d 97 91 lv st h r ↔ gm_Go E d 97 93 lv (.int (8 : Int32) :: st) h r := gr_pure m97 f97_91 rfl
theorem f97_93 : gm_ft 97 93 = some (.invokevirtual 163, 3) := by decide +kernel
theorem n97_93 {st : List Value} {h : gm_H} {E : Nat → Value} {lv : List Value} {b0 : Value} {a : Nat} (hs : (st.map fun v => v.category).sum ≤ 8) (he : (gm_en1 [.ref a, b0]).length ≤ 4) {vs : List Value} (hr : gm_rd h a = some (0, vs)) : gm_next E 97 93 lv (b0 :: .ref a :: st) h = some (.inr (.inl (0, 68, [.ref a, b0], st))) := gn_call m97 f97_93 rfl rfl rfl rfl rfl rfl rfl (gc_virt (bs := [b0]) (w := 278) rfl rfl rfl rfl hs he hr) (by decide)
theorem f97_96 : gm_ft 97 96 = some (.invokespecial 326, 3) := by decide +kernel
theorem n97_96 {st : List Value} {h : gm_H} {E : Nat → Value} {lv : List Value} {b0 b1 b2 : Value} {a : Nat} (hs : (st.map fun v => v.category).sum ≤ 8) (he : (gm_en1 [.ref a, b0, b1, b2]).length ≤ 5) : gm_next E 97 96 lv (b2 :: b1 :: b0 :: .ref a :: st) h = some (.inr (.inl (2, 102, [.ref a, b0, b1, b2], st))) := gn_call m97 f97_96 rfl rfl rfl rfl rfl rfl rfl (gc_init (bs := [b2, b1, b0]) (w := 305) rfl rfl rfl hs he (by decide)) (by decide)
theorem f97_99 : gm_ft 97 99 = some (.astore 6, 2) := by decide +kernel
theorem r97_99 {E : Nat → Value} {d : Nat} {st : List Value} {h : gm_H} {r : gm_R × gm_H} {a0 a1 a2 a3 a4 a5 a6 a7 : Value} {x : Nat} : gm_Go E d 97 99 [a0, a1, a2, a3, a4, a5, a6, a7] (.ref x :: st) h r ↔ gm_Go E d 97 101 [a0, a1, a2, a3, a4, gm_k a5, .ref x, a7] st h r := gr_loc m97 f97_99 rfl rfl
theorem r97_99n {E : Nat → Value} {d : Nat} {st : List Value} {h : gm_H} {r : gm_R × gm_H} {a0 a1 a2 a3 a4 a5 a6 a7 : Value}  : gm_Go E d 97 99 [a0, a1, a2, a3, a4, a5, a6, a7] (.null :: st) h r ↔ gm_Go E d 97 101 [a0, a1, a2, a3, a4, gm_k a5, .null, a7] st h r := gr_loc m97 f97_99 rfl rfl
theorem f97_101 : gm_ft 97 101 = some (.aload_n 0, 1) := by decide +kernel
theorem r97_101 {E : Nat → Value} {d : Nat} {st : List Value} {h : gm_H} {r : gm_R × gm_H} {a1 a2 a3 a4 a5 a6 a7 : Value} {x : Nat} : gm_Go E d 97 101 [.ref x, a1, a2, a3, a4, a5, a6, a7] st h r ↔ gm_Go E d 97 102 [.ref x, a1, a2, a3, a4, a5, a6, a7] (.ref x :: st) h r := gr_loc m97 f97_101 rfl rfl
theorem r97_101n {E : Nat → Value} {d : Nat} {st : List Value} {h : gm_H} {r : gm_R × gm_H} {a1 a2 a3 a4 a5 a6 a7 : Value}  : gm_Go E d 97 101 [.null, a1, a2, a3, a4, a5, a6, a7] st h r ↔ gm_Go E d 97 102 [.null, a1, a2, a3, a4, a5, a6, a7] (.null :: st) h r := gr_loc m97 f97_101 rfl rfl
theorem f97_102 : gm_ft 97 102 = some (.iconst (-1), 1) := by decide +kernel
theorem r97_102 {E : Nat → Value} {d : Nat} {st : List Value} {h : gm_H} {r : gm_R × gm_H} {lv : List Value} : gm_Go E d 97 102 lv st h r ↔ gm_Go E d 97 103 lv (.int (-1 : Int32) :: st) h r := gr_pure m97 f97_102 rfl
theorem f97_103 : gm_ft 97 103 = some (.invokevirtual 222, 3) := by decide +kernel
theorem n97_103 {st : List Value} {h : gm_H} {E : Nat → Value} {lv : List Value} {b0 : Value} {a : Nat} (hs : (st.map fun v => v.category).sum ≤ 8) (he : (gm_en1 [.ref a, b0]).length ≤ 2) {vs : List Value} (hr : gm_rd h a = some (0, vs)) : gm_next E 97 103 lv (b0 :: .ref a :: st) h = some (.inr (.inl (0, 78, [.ref a, b0], st))) := gn_call m97 f97_103 rfl rfl rfl rfl rfl rfl rfl (gc_virt (bs := [b0]) (w := 348) rfl rfl rfl rfl hs he hr) (by decide)
theorem f97_106 : gm_ft 97 106 = some (.istore 7, 2) := by decide +kernel
theorem r97_106 {E : Nat → Value} {d : Nat} {st : List Value} {h : gm_H} {r : gm_R × gm_H} {a0 a1 a2 a3 a4 a5 a6 a7 : Value} {x : Int32} : gm_Go E d 97 106 [a0, a1, a2, a3, a4, a5, a6, a7] (.int x :: st) h r ↔ gm_Go E d 97 108 [a0, a1, a2, a3, a4, a5, gm_k a6, .int x] st h r := gr_loc m97 f97_106 rfl rfl
theorem f97_108 : gm_ft 97 108 = some (.aload_n 0, 1) := by decide +kernel
theorem r97_108 {E : Nat → Value} {d : Nat} {st : List Value} {h : gm_H} {r : gm_R × gm_H} {a1 a2 a3 a4 a5 a6 a7 : Value} {x : Nat} : gm_Go E d 97 108 [.ref x, a1, a2, a3, a4, a5, a6, a7] st h r ↔ gm_Go E d 97 109 [.ref x, a1, a2, a3, a4, a5, a6, a7] (.ref x :: st) h r := gr_loc m97 f97_108 rfl rfl
theorem r97_108n {E : Nat → Value} {d : Nat} {st : List Value} {h : gm_H} {r : gm_R × gm_H} {a1 a2 a3 a4 a5 a6 a7 : Value}  : gm_Go E d 97 108 [.null, a1, a2, a3, a4, a5, a6, a7] st h r ↔ gm_Go E d 97 109 [.null, a1, a2, a3, a4, a5, a6, a7] (.null :: st) h r := gr_loc m97 f97_108 rfl rfl
theorem f97_109 : gm_ft 97 109 = some (.aload 6, 2) := by decide +kernel
theorem r97_109 {E : Nat → Value} {d : Nat} {st : List Value} {h : gm_H} {r : gm_R × gm_H} {a0 a1 a2 a3 a4 a5 a7 : Value} {x : Nat} : gm_Go E d 97 109 [a0, a1, a2, a3, a4, a5, .ref x, a7] st h r ↔ gm_Go E d 97 111 [a0, a1, a2, a3, a4, a5, .ref x, a7] (.ref x :: st) h r := gr_loc m97 f97_109 rfl rfl
theorem r97_109n {E : Nat → Value} {d : Nat} {st : List Value} {h : gm_H} {r : gm_R × gm_H} {a0 a1 a2 a3 a4 a5 a7 : Value}  : gm_Go E d 97 109 [a0, a1, a2, a3, a4, a5, .null, a7] st h r ↔ gm_Go E d 97 111 [a0, a1, a2, a3, a4, a5, .null, a7] (.null :: st) h r := gr_loc m97 f97_109 rfl rfl
theorem f97_111 : gm_ft 97 111 = some (.invokevirtual 329, 3) := by decide +kernel
theorem n97_111 {st : List Value} {h : gm_H} {E : Nat → Value} {lv : List Value} {b0 : Value} {a : Nat} (hs : (st.map fun v => v.category).sum ≤ 8) (he : (gm_en1 [.ref a, b0]).length ≤ 2) {vs : List Value} (hr : gm_rd h a = some (0, vs)) : gm_next E 97 111 lv (b0 :: .ref a :: st) h = some (.inr (.inl (0, 98, [.ref a, b0], st))) := gn_call m97 f97_111 rfl rfl rfl rfl rfl rfl rfl (gc_virt (bs := [b0]) (w := 356) rfl rfl rfl rfl hs he hr) (by decide)
theorem f97_114 : gm_ft 97 114 = some (.aload_n 0, 1) := by decide +kernel
theorem r97_114 {E : Nat → Value} {d : Nat} {st : List Value} {h : gm_H} {r : gm_R × gm_H} {a1 a2 a3 a4 a5 a6 a7 : Value} {x : Nat} : gm_Go E d 97 114 [.ref x, a1, a2, a3, a4, a5, a6, a7] st h r ↔ gm_Go E d 97 115 [.ref x, a1, a2, a3, a4, a5, a6, a7] (.ref x :: st) h r := gr_loc m97 f97_114 rfl rfl
theorem r97_114n {E : Nat → Value} {d : Nat} {st : List Value} {h : gm_H} {r : gm_R × gm_H} {a1 a2 a3 a4 a5 a6 a7 : Value}  : gm_Go E d 97 114 [.null, a1, a2, a3, a4, a5, a6, a7] st h r ↔ gm_Go E d 97 115 [.null, a1, a2, a3, a4, a5, a6, a7] (.null :: st) h r := gr_loc m97 f97_114 rfl rfl
theorem f97_115 : gm_ft 97 115 = some (.aload 6, 2) := by decide +kernel
theorem r97_115 {E : Nat → Value} {d : Nat} {st : List Value} {h : gm_H} {r : gm_R × gm_H} {a0 a1 a2 a3 a4 a5 a7 : Value} {x : Nat} : gm_Go E d 97 115 [a0, a1, a2, a3, a4, a5, .ref x, a7] st h r ↔ gm_Go E d 97 117 [a0, a1, a2, a3, a4, a5, .ref x, a7] (.ref x :: st) h r := gr_loc m97 f97_115 rfl rfl
theorem r97_115n {E : Nat → Value} {d : Nat} {st : List Value} {h : gm_H} {r : gm_R × gm_H} {a0 a1 a2 a3 a4 a5 a7 : Value}  : gm_Go E d 97 115 [a0, a1, a2, a3, a4, a5, .null, a7] st h r ↔ gm_Go E d 97 117 [a0, a1, a2, a3, a4, a5, .null, a7] (.null :: st) h r := gr_loc m97 f97_115 rfl rfl
theorem f97_117 : gm_ft 97 117 = some (.iload_n 1, 1) := by decide +kernel
theorem r97_117 {E : Nat → Value} {d : Nat} {st : List Value} {h : gm_H} {r : gm_R × gm_H} {a0 a2 a3 a4 a5 a6 a7 : Value} {x : Int32} : gm_Go E d 97 117 [a0, .int x, a2, a3, a4, a5, a6, a7] st h r ↔ gm_Go E d 97 118 [a0, .int x, a2, a3, a4, a5, a6, a7] (.int x :: st) h r := gr_loc m97 f97_117 rfl rfl
theorem f97_118 : gm_ft 97 118 = some (.invokevirtual 333, 3) := by decide +kernel
theorem n97_118 {st : List Value} {h : gm_H} {E : Nat → Value} {lv : List Value} {b0 b1 : Value} {a : Nat} (hs : (st.map fun v => v.category).sum ≤ 8) (he : (gm_en1 [.ref a, b0, b1]).length ≤ 7) {vs : List Value} (hr : gm_rd h a = some (0, vs)) : gm_next E 97 118 lv (b1 :: b0 :: .ref a :: st) h = some (.inr (.inl (0, 99, [.ref a, b0, b1], st))) := gn_call m97 f97_118 rfl rfl rfl rfl rfl rfl rfl (gc_virt (bs := [b1, b0]) (w := 369) rfl rfl rfl rfl hs he hr) (by decide)
theorem f97_121 : gm_ft 97 121 = some (.aload_n 0, 1) := by decide +kernel
theorem r97_121 {E : Nat → Value} {d : Nat} {st : List Value} {h : gm_H} {r : gm_R × gm_H} {a1 a2 a3 a4 a5 a6 a7 : Value} {x : Nat} : gm_Go E d 97 121 [.ref x, a1, a2, a3, a4, a5, a6, a7] st h r ↔ gm_Go E d 97 122 [.ref x, a1, a2, a3, a4, a5, a6, a7] (.ref x :: st) h r := gr_loc m97 f97_121 rfl rfl
theorem r97_121n {E : Nat → Value} {d : Nat} {st : List Value} {h : gm_H} {r : gm_R × gm_H} {a1 a2 a3 a4 a5 a6 a7 : Value}  : gm_Go E d 97 121 [.null, a1, a2, a3, a4, a5, a6, a7] st h r ↔ gm_Go E d 97 122 [.null, a1, a2, a3, a4, a5, a6, a7] (.null :: st) h r := gr_loc m97 f97_121 rfl rfl
theorem f97_122 : gm_ft 97 122 = some (.iload_n 1, 1) := by decide +kernel
theorem r97_122 {E : Nat → Value} {d : Nat} {st : List Value} {h : gm_H} {r : gm_R × gm_H} {a0 a2 a3 a4 a5 a6 a7 : Value} {x : Int32} : gm_Go E d 97 122 [a0, .int x, a2, a3, a4, a5, a6, a7] st h r ↔ gm_Go E d 97 123 [a0, .int x, a2, a3, a4, a5, a6, a7] (.int x :: st) h r := gr_loc m97 f97_122 rfl rfl
theorem f97_123 : gm_ft 97 123 = some (.invokevirtual 316, 3) := by decide +kernel
theorem n97_123 {st : List Value} {h : gm_H} {E : Nat → Value} {lv : List Value} {b0 : Value} {a : Nat} (hs : (st.map fun v => v.category).sum ≤ 8) (he : (gm_en1 [.ref a, b0]).length ≤ 4) {vs : List Value} (hr : gm_rd h a = some (0, vs)) : gm_next E 97 123 lv (b0 :: .ref a :: st) h = some (.inr (.inl (0, 76, [.ref a, b0], st))) := gn_call m97 f97_123 rfl rfl rfl rfl rfl rfl rfl (gc_virt (bs := [b0]) (w := 472) rfl rfl rfl rfl hs he hr) (by decide)
theorem f97_126 : gm_ft 97 126 = some (.aload 6, 2) := by decide +kernel
theorem r97_126 {E : Nat → Value} {d : Nat} {st : List Value} {h : gm_H} {r : gm_R × gm_H} {a0 a1 a2 a3 a4 a5 a7 : Value} {x : Nat} : gm_Go E d 97 126 [a0, a1, a2, a3, a4, a5, .ref x, a7] st h r ↔ gm_Go E d 97 128 [a0, a1, a2, a3, a4, a5, .ref x, a7] (.ref x :: st) h r := gr_loc m97 f97_126 rfl rfl
theorem r97_126n {E : Nat → Value} {d : Nat} {st : List Value} {h : gm_H} {r : gm_R × gm_H} {a0 a1 a2 a3 a4 a5 a7 : Value}  : gm_Go E d 97 126 [a0, a1, a2, a3, a4, a5, .null, a7] st h r ↔ gm_Go E d 97 128 [a0, a1, a2, a3, a4, a5, .null, a7] (.null :: st) h r := gr_loc m97 f97_126 rfl rfl
theorem f97_128 : gm_ft 97 128 = some (.aload_n 0, 1) := by decide +kernel
theorem r97_128 {E : Nat → Value} {d : Nat} {st : List Value} {h : gm_H} {r : gm_R × gm_H} {a1 a2 a3 a4 a5 a6 a7 : Value} {x : Nat} : gm_Go E d 97 128 [.ref x, a1, a2, a3, a4, a5, a6, a7] st h r ↔ gm_Go E d 97 129 [.ref x, a1, a2, a3, a4, a5, a6, a7] (.ref x :: st) h r := gr_loc m97 f97_128 rfl rfl
theorem r97_128n {E : Nat → Value} {d : Nat} {st : List Value} {h : gm_H} {r : gm_R × gm_H} {a1 a2 a3 a4 a5 a6 a7 : Value}  : gm_Go E d 97 128 [.null, a1, a2, a3, a4, a5, a6, a7] st h r ↔ gm_Go E d 97 129 [.null, a1, a2, a3, a4, a5, a6, a7] (.null :: st) h r := gr_loc m97 f97_128 rfl rfl
theorem f97_129 : gm_ft 97 129 = some (.iload_n 1, 1) := by decide +kernel
theorem r97_129 {E : Nat → Value} {d : Nat} {st : List Value} {h : gm_H} {r : gm_R × gm_H} {a0 a2 a3 a4 a5 a6 a7 : Value} {x : Int32} : gm_Go E d 97 129 [a0, .int x, a2, a3, a4, a5, a6, a7] st h r ↔ gm_Go E d 97 130 [a0, .int x, a2, a3, a4, a5, a6, a7] (.int x :: st) h r := gr_loc m97 f97_129 rfl rfl
theorem f97_130 : gm_ft 97 130 = some (.iload_n 2, 1) := by decide +kernel
theorem r97_130 {E : Nat → Value} {d : Nat} {st : List Value} {h : gm_H} {r : gm_R × gm_H} {a0 a1 a3 a4 a5 a6 a7 : Value} {x : Int32} : gm_Go E d 97 130 [a0, a1, .int x, a3, a4, a5, a6, a7] st h r ↔ gm_Go E d 97 131 [a0, a1, .int x, a3, a4, a5, a6, a7] (.int x :: st) h r := gr_loc m97 f97_130 rfl rfl
theorem f97_131 : gm_ft 97 131 = some (.iconst 1, 1) := by decide +kernel
theorem r97_131 {E : Nat → Value} {d : Nat} {st : List Value} {h : gm_H} {r : gm_R × gm_H} {lv : List Value} : gm_Go E d 97 131 lv st h r ↔ gm_Go E d 97 132 lv (.int (1 : Int32) :: st) h r := gr_pure m97 f97_131 rfl
theorem f97_132 : gm_ft 97 132 = some (.iadd, 1) := by decide +kernel
theorem r97_132 {E : Nat → Value} {d : Nat} {st : List Value} {h : gm_H} {r : gm_R × gm_H} {lv : List Value} {x y : Int32} : gm_Go E d 97 132 lv (.int y :: .int x :: st) h r ↔ gm_Go E d 97 133 lv (.int (x + y) :: st) h r := gr_pure m97 f97_132 rfl
theorem f97_133 : gm_ft 97 133 = some (.invokevirtual 198, 3) := by decide +kernel
theorem n97_133 {st : List Value} {h : gm_H} {E : Nat → Value} {lv : List Value} {b0 b1 : Value} {a : Nat} (hs : (st.map fun v => v.category).sum ≤ 8) (he : (gm_en1 [.ref a, b0, b1]).length ≤ 8) {vs : List Value} (hr : gm_rd h a = some (0, vs)) : gm_next E 97 133 lv (b1 :: b0 :: .ref a :: st) h = some (.inr (.inl (0, 97, [.ref a, b0, b1], st))) := gn_call m97 f97_133 rfl rfl rfl rfl rfl rfl rfl (gc_virt (bs := [b1, b0]) (w := 295) rfl rfl rfl rfl hs he hr) (by decide)
theorem f97_136 : gm_ft 97 136 = some (.invokevirtual 337, 3) := by decide +kernel
theorem n97_136 {st : List Value} {h : gm_H} {E : Nat → Value} {lv : List Value} {b0 : Value} {a : Nat} (hs : (st.map fun v => v.category).sum ≤ 8) (he : (gm_en1 [.ref a, b0]).length ≤ 2) {vs : List Value} (hr : gm_rd h a = some (1, vs)) : gm_next E 97 136 lv (b0 :: .ref a :: st) h = some (.inr (.inl (0, 106, [.ref a, b0], st))) := gn_call m97 f97_136 rfl rfl rfl rfl rfl rfl rfl (gc_virt (bs := [b0]) (w := 483) rfl rfl rfl rfl hs he hr) (by decide)
theorem f97_139 : gm_ft 97 139 = some (.aload_n 0, 1) := by decide +kernel
theorem r97_139 {E : Nat → Value} {d : Nat} {st : List Value} {h : gm_H} {r : gm_R × gm_H} {a1 a2 a3 a4 a5 a6 a7 : Value} {x : Nat} : gm_Go E d 97 139 [.ref x, a1, a2, a3, a4, a5, a6, a7] st h r ↔ gm_Go E d 97 140 [.ref x, a1, a2, a3, a4, a5, a6, a7] (.ref x :: st) h r := gr_loc m97 f97_139 rfl rfl
theorem r97_139n {E : Nat → Value} {d : Nat} {st : List Value} {h : gm_H} {r : gm_R × gm_H} {a1 a2 a3 a4 a5 a6 a7 : Value}  : gm_Go E d 97 139 [.null, a1, a2, a3, a4, a5, a6, a7] st h r ↔ gm_Go E d 97 140 [.null, a1, a2, a3, a4, a5, a6, a7] (.null :: st) h r := gr_loc m97 f97_139 rfl rfl
theorem f97_140 : gm_ft 97 140 = some (.aload 6, 2) := by decide +kernel
theorem r97_140 {E : Nat → Value} {d : Nat} {st : List Value} {h : gm_H} {r : gm_R × gm_H} {a0 a1 a2 a3 a4 a5 a7 : Value} {x : Nat} : gm_Go E d 97 140 [a0, a1, a2, a3, a4, a5, .ref x, a7] st h r ↔ gm_Go E d 97 142 [a0, a1, a2, a3, a4, a5, .ref x, a7] (.ref x :: st) h r := gr_loc m97 f97_140 rfl rfl
theorem r97_140n {E : Nat → Value} {d : Nat} {st : List Value} {h : gm_H} {r : gm_R × gm_H} {a0 a1 a2 a3 a4 a5 a7 : Value}  : gm_Go E d 97 140 [a0, a1, a2, a3, a4, a5, .null, a7] st h r ↔ gm_Go E d 97 142 [a0, a1, a2, a3, a4, a5, .null, a7] (.null :: st) h r := gr_loc m97 f97_140 rfl rfl
theorem f97_142 : gm_ft 97 142 = some (.invokevirtual 340, 3) := by decide +kernel
theorem n97_142 {st : List Value} {h : gm_H} {E : Nat → Value} {lv : List Value} {b0 : Value} {a : Nat} (hs : (st.map fun v => v.category).sum ≤ 8) (he : (gm_en1 [.ref a, b0]).length ≤ 2) {vs : List Value} (hr : gm_rd h a = some (0, vs)) : gm_next E 97 142 lv (b0 :: .ref a :: st) h = some (.inr (.inl (0, 101, [.ref a, b0], st))) := gn_call m97 f97_142 rfl rfl rfl rfl rfl rfl rfl (gc_virt (bs := [b0]) (w := 487) rfl rfl rfl rfl hs he hr) (by decide)
theorem f97_145 : gm_ft 97 145 = some (.aload_n 0, 1) := by decide +kernel
theorem r97_145 {E : Nat → Value} {d : Nat} {st : List Value} {h : gm_H} {r : gm_R × gm_H} {a1 a2 a3 a4 a5 a6 a7 : Value} {x : Nat} : gm_Go E d 97 145 [.ref x, a1, a2, a3, a4, a5, a6, a7] st h r ↔ gm_Go E d 97 146 [.ref x, a1, a2, a3, a4, a5, a6, a7] (.ref x :: st) h r := gr_loc m97 f97_145 rfl rfl
theorem r97_145n {E : Nat → Value} {d : Nat} {st : List Value} {h : gm_H} {r : gm_R × gm_H} {a1 a2 a3 a4 a5 a6 a7 : Value}  : gm_Go E d 97 145 [.null, a1, a2, a3, a4, a5, a6, a7] st h r ↔ gm_Go E d 97 146 [.null, a1, a2, a3, a4, a5, a6, a7] (.null :: st) h r := gr_loc m97 f97_145 rfl rfl
theorem f97_146 : gm_ft 97 146 = some (.getfield 28, 3) := by decide +kernel
theorem r97_146 {E : Nat → Value} {d : Nat} {st : List Value} {h : gm_H} {r : gm_R × gm_H} {lv : List Value} {a : Nat} {vs : List Value} {v : Value} (hr : gm_rd h a = some (0, vs)) (hv : vs[10]? = some v) : gm_Go E d 97 146 lv (.ref a :: st) h r ↔ gm_Go E d 97 149 lv (v :: st) h r := gr_rd m97 f97_146 rfl rfl rfl rfl (gf_get k0_28 hr hv)
theorem f97_149 : gm_ft 97 149 = some (.getfield 322, 3) := by decide +kernel
theorem r97_149 {E : Nat → Value} {d : Nat} {st : List Value} {h : gm_H} {r : gm_R × gm_H} {lv : List Value} {a : Nat} {vs : List Value} {v : Value} (hr : gm_rd h a = some (2, vs)) (hv : vs[1]? = some v) : gm_Go E d 97 149 lv (.ref a :: st) h r ↔ gm_Go E d 97 152 lv (v :: st) h r := gr_rd m97 f97_149 rfl rfl rfl rfl (gf_get k0_322 hr hv)
theorem f97_152 : gm_ft 97 152 = some (.iload 7, 2) := by decide +kernel
theorem r97_152 {E : Nat → Value} {d : Nat} {st : List Value} {h : gm_H} {r : gm_R × gm_H} {a0 a1 a2 a3 a4 a5 a6 : Value} {x : Int32} : gm_Go E d 97 152 [a0, a1, a2, a3, a4, a5, a6, .int x] st h r ↔ gm_Go E d 97 154 [a0, a1, a2, a3, a4, a5, a6, .int x] (.int x :: st) h r := gr_loc m97 f97_152 rfl rfl
theorem f97_154 : gm_ft 97 154 = some (.aload 6, 2) := by decide +kernel
theorem r97_154 {E : Nat → Value} {d : Nat} {st : List Value} {h : gm_H} {r : gm_R × gm_H} {a0 a1 a2 a3 a4 a5 a7 : Value} {x : Nat} : gm_Go E d 97 154 [a0, a1, a2, a3, a4, a5, .ref x, a7] st h r ↔ gm_Go E d 97 156 [a0, a1, a2, a3, a4, a5, .ref x, a7] (.ref x :: st) h r := gr_loc m97 f97_154 rfl rfl
theorem r97_154n {E : Nat → Value} {d : Nat} {st : List Value} {h : gm_H} {r : gm_R × gm_H} {a0 a1 a2 a3 a4 a5 a7 : Value}  : gm_Go E d 97 154 [a0, a1, a2, a3, a4, a5, .null, a7] st h r ↔ gm_Go E d 97 156 [a0, a1, a2, a3, a4, a5, .null, a7] (.null :: st) h r := gr_loc m97 f97_154 rfl rfl
theorem f97_156 : gm_ft 97 156 = some (.aastore, 1) := by decide +kernel
theorem f97_157 : gm_ft 97 157 = some (.aload 6, 2) := by decide +kernel
theorem r97_157 {E : Nat → Value} {d : Nat} {st : List Value} {h : gm_H} {r : gm_R × gm_H} {a0 a1 a2 a3 a4 a5 a7 : Value} {x : Nat} : gm_Go E d 97 157 [a0, a1, a2, a3, a4, a5, .ref x, a7] st h r ↔ gm_Go E d 97 159 [a0, a1, a2, a3, a4, a5, .ref x, a7] (.ref x :: st) h r := gr_loc m97 f97_157 rfl rfl
theorem r97_157n {E : Nat → Value} {d : Nat} {st : List Value} {h : gm_H} {r : gm_R × gm_H} {a0 a1 a2 a3 a4 a5 a7 : Value}  : gm_Go E d 97 157 [a0, a1, a2, a3, a4, a5, .null, a7] st h r ↔ gm_Go E d 97 159 [a0, a1, a2, a3, a4, a5, .null, a7] (.null :: st) h r := gr_loc m97 f97_157 rfl rfl
theorem f97_159 : gm_ft 97 159 = some (.areturn, 1) := by decide +kernel
theorem r97_159 {E : Nat → Value} {d : Nat} {h : gm_H} {r : gm_R × gm_H} {lv : List Value} {a : Nat} : gm_Go E d 97 159 lv [.ref a] h r ↔ r = (.inl (some (.ref a)), h) := gr_ret m97 f97_159 rfl rfl rfl rfl rfl rfl rfl rfl rfl
theorem r97_159n {E : Nat → Value} {d : Nat} {h : gm_H} {r : gm_R × gm_H} {lv : List Value} : gm_Go E d 97 159 lv [.null] h r ↔ r = (.inl (some .null), h) := gr_ret m97 f97_159 rfl rfl rfl rfl rfl rfl rfl rfl rfl
/-! GraphReader.readFlags(LGraphReader$Descriptor;)V -/
theorem m98 : gm_mt[98]? = some (⟨"GraphReader", "readFlags", "(LGraphReader$Descriptor;)V"⟩, prog_1_method_48_code, 2, none, [], 0, 1) := rfl
theorem f98_0 : gm_ft 98 0 = some (.aload_n 1, 1) := by decide +kernel
theorem r98_0 {E : Nat → Value} {d : Nat} {st : List Value} {h : gm_H} {r : gm_R × gm_H} {a0 : Value} {x : Nat} : gm_Go E d 98 0 [a0, .ref x] st h r ↔ gm_Go E d 98 1 [a0, .ref x] (.ref x :: st) h r := gr_loc m98 f98_0 rfl rfl
theorem r98_0n {E : Nat → Value} {d : Nat} {st : List Value} {h : gm_H} {r : gm_R × gm_H} {a0 : Value}  : gm_Go E d 98 0 [a0, .null] st h r ↔ gm_Go E d 98 1 [a0, .null] (.null :: st) h r := gr_loc m98 f98_0 rfl rfl
theorem f98_1 : gm_ft 98 1 = some (.aload_n 0, 1) := by decide +kernel
theorem r98_1 {E : Nat → Value} {d : Nat} {st : List Value} {h : gm_H} {r : gm_R × gm_H} {a1 : Value} {x : Nat} : gm_Go E d 98 1 [.ref x, a1] st h r ↔ gm_Go E d 98 2 [.ref x, a1] (.ref x :: st) h r := gr_loc m98 f98_1 rfl rfl
theorem r98_1n {E : Nat → Value} {d : Nat} {st : List Value} {h : gm_H} {r : gm_R × gm_H} {a1 : Value}  : gm_Go E d 98 1 [.null, a1] st h r ↔ gm_Go E d 98 2 [.null, a1] (.null :: st) h r := gr_loc m98 f98_1 rfl rfl
theorem f98_2 : gm_ft 98 2 = some (.invokevirtual 176, 3) := by decide +kernel
theorem n98_2 {st : List Value} {h : gm_H} {E : Nat → Value} {lv : List Value} {a : Nat} (hs : (st.map fun v => v.category).sum ≤ 8) (he : (gm_en1 [.ref a]).length ≤ 1) {vs : List Value} (hr : gm_rd h a = some (0, vs)) : gm_next E 98 2 lv (.ref a :: st) h = some (.inr (.inl (0, 69, [.ref a], st))) := gn_call m98 f98_2 rfl rfl rfl rfl rfl rfl rfl (gc_virt (bs := []) (w := 274) rfl rfl rfl rfl hs he hr) (by decide)
theorem f98_5 : gm_ft 98 5 = some (.putfield 343, 3) := by decide +kernel
theorem r98_5 {E : Nat → Value} {d : Nat} {st : List Value} {h : gm_H} {r : gm_R × gm_H} {lv : List Value} {a : Nat} {vs : List Value} {v : Value} (hr : gm_rd h a = some (1, vs)) (hk : 3 < vs.length) (hn : narrow (gm_ty 1 3) v = v ∧ fits (gm_ty 1 3) v = true) : gm_Go E d 98 5 lv (v :: .ref a :: st) h r ↔ gm_Go E d 98 8 lv st (gm_wr h a (1, vs.set 3 v)) r := gr_wr m98 f98_5 rfl rfl rfl rfl rfl (gf_put k0_343 hr (by decide) hk hn (by decide))
theorem f98_8 : gm_ft 98 8 = some (.aload_n 1, 1) := by decide +kernel
theorem r98_8 {E : Nat → Value} {d : Nat} {st : List Value} {h : gm_H} {r : gm_R × gm_H} {a0 : Value} {x : Nat} : gm_Go E d 98 8 [a0, .ref x] st h r ↔ gm_Go E d 98 9 [a0, .ref x] (.ref x :: st) h r := gr_loc m98 f98_8 rfl rfl
theorem r98_8n {E : Nat → Value} {d : Nat} {st : List Value} {h : gm_H} {r : gm_R × gm_H} {a0 : Value}  : gm_Go E d 98 8 [a0, .null] st h r ↔ gm_Go E d 98 9 [a0, .null] (.null :: st) h r := gr_loc m98 f98_8 rfl rfl
theorem f98_9 : gm_ft 98 9 = some (.iconst 2, 1) := by decide +kernel
theorem r98_9 {E : Nat → Value} {d : Nat} {st : List Value} {h : gm_H} {r : gm_R × gm_H} {lv : List Value} : gm_Go E d 98 9 lv st h r ↔ gm_Go E d 98 10 lv (.int (2 : Int32) :: st) h r := gr_pure m98 f98_9 rfl
theorem f98_10 : gm_ft 98 10 = some (.invokevirtual 309, 3) := by decide +kernel
theorem n98_10 {st : List Value} {h : gm_H} {E : Nat → Value} {lv : List Value} {b0 : Value} {a : Nat} (hs : (st.map fun v => v.category).sum ≤ 8) (he : (gm_en1 [.ref a, b0]).length ≤ 2) {vs : List Value} (hr : gm_rd h a = some (1, vs)) : gm_next E 98 10 lv (b0 :: .ref a :: st) h = some (.inr (.inl (0, 103, [.ref a, b0], st))) := gn_call m98 f98_10 rfl rfl rfl rfl rfl rfl rfl (gc_virt (bs := [b0]) (w := 360) rfl rfl rfl rfl hs he hr) (by decide)
theorem f98_13 : gm_ft 98 13 = some (.ifCond .eq 11, 3) := by decide +kernel
theorem r98_13 {E : Nat → Value} {d : Nat} {st : List Value} {h : gm_H} {r : gm_R × gm_H} {lv : List Value} {x : Int32} : gm_Go E d 98 13 lv (.int x :: st) h r ↔ (if x = 0 then gm_Go E d 98 24 lv st h r else gm_Go E d 98 16 lv st h r) := (gr_br m98 f98_13 rfl rfl rfl rfl).trans gr_if
theorem f98_16 : gm_ft 98 16 = some (.aload_n 1, 1) := by decide +kernel
theorem r98_16 {E : Nat → Value} {d : Nat} {st : List Value} {h : gm_H} {r : gm_R × gm_H} {a0 : Value} {x : Nat} : gm_Go E d 98 16 [a0, .ref x] st h r ↔ gm_Go E d 98 17 [a0, .ref x] (.ref x :: st) h r := gr_loc m98 f98_16 rfl rfl
theorem r98_16n {E : Nat → Value} {d : Nat} {st : List Value} {h : gm_H} {r : gm_R × gm_H} {a0 : Value}  : gm_Go E d 98 16 [a0, .null] st h r ↔ gm_Go E d 98 17 [a0, .null] (.null :: st) h r := gr_loc m98 f98_16 rfl rfl
theorem f98_17 : gm_ft 98 17 = some (.iconst 4, 1) := by decide +kernel
theorem r98_17 {E : Nat → Value} {d : Nat} {st : List Value} {h : gm_H} {r : gm_R × gm_H} {lv : List Value} : gm_Go E d 98 17 lv st h r ↔ gm_Go E d 98 18 lv (.int (4 : Int32) :: st) h r := gr_pure m98 f98_17 rfl
theorem f98_18 : gm_ft 98 18 = some (.invokevirtual 309, 3) := by decide +kernel
theorem n98_18 {st : List Value} {h : gm_H} {E : Nat → Value} {lv : List Value} {b0 : Value} {a : Nat} (hs : (st.map fun v => v.category).sum ≤ 8) (he : (gm_en1 [.ref a, b0]).length ≤ 2) {vs : List Value} (hr : gm_rd h a = some (1, vs)) : gm_next E 98 18 lv (b0 :: .ref a :: st) h = some (.inr (.inl (0, 103, [.ref a, b0], st))) := gn_call m98 f98_18 rfl rfl rfl rfl rfl rfl rfl (gc_virt (bs := [b0]) (w := 360) rfl rfl rfl rfl hs he hr) (by decide)
theorem f98_21 : gm_ft 98 21 = some (.ifCond .ne 19, 3) := by decide +kernel
theorem r98_21 {E : Nat → Value} {d : Nat} {st : List Value} {h : gm_H} {r : gm_R × gm_H} {lv : List Value} {x : Int32} : gm_Go E d 98 21 lv (.int x :: st) h r ↔ (if x = 0 then gm_Go E d 98 24 lv st h r else gm_Go E d 98 40 lv st h r) := (gr_br m98 f98_21 rfl rfl rfl rfl).trans gr_ifn
theorem f98_24 : gm_ft 98 24 = some (.aload_n 1, 1) := by decide +kernel
theorem r98_24 {E : Nat → Value} {d : Nat} {st : List Value} {h : gm_H} {r : gm_R × gm_H} {a0 : Value} {x : Nat} : gm_Go E d 98 24 [a0, .ref x] st h r ↔ gm_Go E d 98 25 [a0, .ref x] (.ref x :: st) h r := gr_loc m98 f98_24 rfl rfl
theorem r98_24n {E : Nat → Value} {d : Nat} {st : List Value} {h : gm_H} {r : gm_R × gm_H} {a0 : Value}  : gm_Go E d 98 24 [a0, .null] st h r ↔ gm_Go E d 98 25 [a0, .null] (.null :: st) h r := gr_loc m98 f98_24 rfl rfl
theorem f98_25 : gm_ft 98 25 = some (.invokevirtual 256, 3) := by decide +kernel
theorem n98_25 {st : List Value} {h : gm_H} {E : Nat → Value} {lv : List Value} {a : Nat} (hs : (st.map fun v => v.category).sum ≤ 8) (he : (gm_en1 [.ref a]).length ≤ 1) {vs : List Value} (hr : gm_rd h a = some (1, vs)) : gm_next E 98 25 lv (.ref a :: st) h = some (.inr (.inl (0, 104, [.ref a], st))) := gn_call m98 f98_25 rfl rfl rfl rfl rfl rfl rfl (gc_virt (bs := []) (w := 364) rfl rfl rfl rfl hs he hr) (by decide)
theorem f98_28 : gm_ft 98 28 = some (.ifCond .eq 19, 3) := by decide +kernel
theorem r98_28 {E : Nat → Value} {d : Nat} {st : List Value} {h : gm_H} {r : gm_R × gm_H} {lv : List Value} {x : Int32} : gm_Go E d 98 28 lv (.int x :: st) h r ↔ (if x = 0 then gm_Go E d 98 47 lv st h r else gm_Go E d 98 31 lv st h r) := (gr_br m98 f98_28 rfl rfl rfl rfl).trans gr_if
theorem f98_31 : gm_ft 98 31 = some (.aload_n 1, 1) := by decide +kernel
theorem r98_31 {E : Nat → Value} {d : Nat} {st : List Value} {h : gm_H} {r : gm_R × gm_H} {a0 : Value} {x : Nat} : gm_Go E d 98 31 [a0, .ref x] st h r ↔ gm_Go E d 98 32 [a0, .ref x] (.ref x :: st) h r := gr_loc m98 f98_31 rfl rfl
theorem r98_31n {E : Nat → Value} {d : Nat} {st : List Value} {h : gm_H} {r : gm_R × gm_H} {a0 : Value}  : gm_Go E d 98 31 [a0, .null] st h r ↔ gm_Go E d 98 32 [a0, .null] (.null :: st) h r := gr_loc m98 f98_31 rfl rfl
theorem f98_32 : gm_ft 98 32 = some (.getfield 346, 3) := by decide +kernel
theorem r98_32 {E : Nat → Value} {d : Nat} {st : List Value} {h : gm_H} {r : gm_R × gm_H} {lv : List Value} {a : Nat} {vs : List Value} {v : Value} (hr : gm_rd h a = some (1, vs)) (hv : vs[2]? = some v) : gm_Go E d 98 32 lv (.ref a :: st) h r ↔ gm_Go E d 98 35 lv (v :: st) h r := gr_rd m98 f98_32 rfl rfl rfl rfl (gf_get k0_346 hr hv)
theorem f98_35 : gm_ft 98 35 = some (.lconst 0, 1) := by decide +kernel
theorem r98_35 {E : Nat → Value} {d : Nat} {st : List Value} {h : gm_H} {r : gm_R × gm_H} {lv : List Value} : gm_Go E d 98 35 lv st h r ↔ gm_Go E d 98 36 lv (.long 0 :: st) h r := gr_pure m98 f98_35 rfl
theorem f98_36 : gm_ft 98 36 = some (.lcmp, 1) := by decide +kernel
theorem r98_36 {E : Nat → Value} {d : Nat} {st : List Value} {h : gm_H} {r : gm_R × gm_H} {lv : List Value} {x y : Int64} : gm_Go E d 98 36 lv (.long y :: .long x :: st) h r ↔ gm_Go E d 98 37 lv (.int (lg_cmp x y) :: st) h r := gr_pure m98 f98_36 rfl
theorem f98_37 : gm_ft 98 37 = some (.ifCond .eq 10, 3) := by decide +kernel
theorem r98_37 {E : Nat → Value} {d : Nat} {st : List Value} {h : gm_H} {r : gm_R × gm_H} {lv : List Value} {x : Int32} : gm_Go E d 98 37 lv (.int x :: st) h r ↔ (if x = 0 then gm_Go E d 98 47 lv st h r else gm_Go E d 98 40 lv st h r) := (gr_br m98 f98_37 rfl rfl rfl rfl).trans gr_if
theorem f98_40 : gm_ft 98 40 = some (.aload_n 0, 1) := by decide +kernel
theorem r98_40 {E : Nat → Value} {d : Nat} {st : List Value} {h : gm_H} {r : gm_R × gm_H} {a1 : Value} {x : Nat} : gm_Go E d 98 40 [.ref x, a1] st h r ↔ gm_Go E d 98 41 [.ref x, a1] (.ref x :: st) h r := gr_loc m98 f98_40 rfl rfl
theorem r98_40n {E : Nat → Value} {d : Nat} {st : List Value} {h : gm_H} {r : gm_R × gm_H} {a1 : Value}  : gm_Go E d 98 40 [.null, a1] st h r ↔ gm_Go E d 98 41 [.null, a1] (.null :: st) h r := gr_loc m98 f98_40 rfl rfl
theorem f98_41 : gm_ft 98 41 = some (.bipush (-5), 2) := by decide +kernel
theorem r98_41 {E : Nat → Value} {d : Nat} {st : List Value} {h : gm_H} {r : gm_R × gm_H} {lv : List Value} : gm_Go E d 98 41 lv st h r ↔ gm_Go E d 98 43 lv (.int (-5 : Int32) :: st) h r := gr_pure m98 f98_41 rfl
theorem f98_43 : gm_ft 98 43 = some (.invokevirtual 160, 3) := by decide +kernel
theorem n98_43 {st : List Value} {h : gm_H} {E : Nat → Value} {lv : List Value} {b0 : Value} {a : Nat} (hs : (st.map fun v => v.category).sum ≤ 8) (he : (gm_en1 [.ref a, b0]).length ≤ 2) {vs : List Value} (hr : gm_rd h a = some (0, vs)) : gm_next E 98 43 lv (b0 :: .ref a :: st) h = some (.inr (.inl (0, 66, [.ref a, b0], st))) := gn_call m98 f98_43 rfl rfl rfl rfl rfl rfl rfl (gc_virt (bs := [b0]) (w := 206) rfl rfl rfl rfl hs he hr) (by decide)
theorem f98_46 : gm_ft 98 46 = some (.pop, 1) := by decide +kernel
theorem r98_46 {E : Nat → Value} {d : Nat} {st : List Value} {h : gm_H} {r : gm_R × gm_H} {lv : List Value} {x : Int32} : gm_Go E d 98 46 lv (.int x :: st) h r ↔ gm_Go E d 98 47 lv st h r := gr_pure m98 f98_46 rfl
theorem r98_46a {E : Nat → Value} {d : Nat} {st : List Value} {h : gm_H} {r : gm_R × gm_H} {lv : List Value} {a : Nat} : gm_Go E d 98 46 lv (.ref a :: st) h r ↔ gm_Go E d 98 47 lv st h r := gr_pure m98 f98_46 rfl
theorem r98_46n {E : Nat → Value} {d : Nat} {st : List Value} {h : gm_H} {r : gm_R × gm_H} {lv : List Value} : gm_Go E d 98 46 lv (.null :: st) h r ↔ gm_Go E d 98 47 lv st h r := gr_pure m98 f98_46 rfl
theorem f98_47 : gm_ft 98 47 = some (.return_, 1) := by decide +kernel
theorem r98_47 {E : Nat → Value} {d : Nat} {h : gm_H} {r : gm_R × gm_H} {lv : List Value} : gm_Go E d 98 47 lv [] h r ↔ r = (.inl none, h) := gr_ret m98 f98_47 rfl rfl rfl rfl rfl rfl rfl rfl rfl
/-! GraphReader.readStreamFields(LGraphReader$Descriptor;I)V -/
theorem m99 : gm_mt[99]? = some (⟨"GraphReader", "readStreamFields", "(LGraphReader$Descriptor;I)V"⟩, prog_1_method_49_code, 7, none, [], 0, 1) := rfl
theorem f99_0 : gm_ft 99 0 = some (.aload_n 0, 1) := by decide +kernel
theorem r99_0 {E : Nat → Value} {d : Nat} {st : List Value} {h : gm_H} {r : gm_R × gm_H} {a1 a2 a3 a4 a5 a6 : Value} {x : Nat} : gm_Go E d 99 0 [.ref x, a1, a2, a3, a4, a5, a6] st h r ↔ gm_Go E d 99 1 [.ref x, a1, a2, a3, a4, a5, a6] (.ref x :: st) h r := gr_loc m99 f99_0 rfl rfl
theorem r99_0n {E : Nat → Value} {d : Nat} {st : List Value} {h : gm_H} {r : gm_R × gm_H} {a1 a2 a3 a4 a5 a6 : Value}  : gm_Go E d 99 0 [.null, a1, a2, a3, a4, a5, a6] st h r ↔ gm_Go E d 99 1 [.null, a1, a2, a3, a4, a5, a6] (.null :: st) h r := gr_loc m99 f99_0 rfl rfl
theorem f99_1 : gm_ft 99 1 = some (.iconst 2, 1) := by decide +kernel
theorem r99_1 {E : Nat → Value} {d : Nat} {st : List Value} {h : gm_H} {r : gm_R × gm_H} {lv : List Value} : gm_Go E d 99 1 lv st h r ↔ gm_Go E d 99 2 lv (.int (2 : Int32) :: st) h r := gr_pure m99 f99_1 rfl
theorem f99_2 : gm_ft 99 2 = some (.invokevirtual 163, 3) := by decide +kernel
theorem n99_2 {st : List Value} {h : gm_H} {E : Nat → Value} {lv : List Value} {b0 : Value} {a : Nat} (hs : (st.map fun v => v.category).sum ≤ 8) (he : (gm_en1 [.ref a, b0]).length ≤ 4) {vs : List Value} (hr : gm_rd h a = some (0, vs)) : gm_next E 99 2 lv (b0 :: .ref a :: st) h = some (.inr (.inl (0, 68, [.ref a, b0], st))) := gn_call m99 f99_2 rfl rfl rfl rfl rfl rfl rfl (gc_virt (bs := [b0]) (w := 278) rfl rfl rfl rfl hs he hr) (by decide)
theorem f99_5 : gm_ft 99 5 = some (.l2i, 1) := by decide +kernel
theorem r99_5 {E : Nat → Value} {d : Nat} {st : List Value} {h : gm_H} {r : gm_R × gm_H} {lv : List Value} {x : Int64} : gm_Go E d 99 5 lv (.long x :: st) h r ↔ gm_Go E d 99 6 lv (.int (x.toInt32) :: st) h r := gr_pure m99 f99_5 rfl
theorem f99_6 : gm_ft 99 6 = some (.istore_n 3, 1) := by decide +kernel
theorem r99_6 {E : Nat → Value} {d : Nat} {st : List Value} {h : gm_H} {r : gm_R × gm_H} {a0 a1 a2 a3 a4 a5 a6 : Value} {x : Int32} : gm_Go E d 99 6 [a0, a1, a2, a3, a4, a5, a6] (.int x :: st) h r ↔ gm_Go E d 99 7 [a0, a1, gm_k a2, .int x, a4, a5, a6] st h r := gr_loc m99 f99_6 rfl rfl
theorem f99_7 : gm_ft 99 7 = some (.iload_n 3, 1) := by decide +kernel
theorem r99_7 {E : Nat → Value} {d : Nat} {st : List Value} {h : gm_H} {r : gm_R × gm_H} {a0 a1 a2 a4 a5 a6 : Value} {x : Int32} : gm_Go E d 99 7 [a0, a1, a2, .int x, a4, a5, a6] st h r ↔ gm_Go E d 99 8 [a0, a1, a2, .int x, a4, a5, a6] (.int x :: st) h r := gr_loc m99 f99_7 rfl rfl
theorem f99_8 : gm_ft 99 8 = some (.bipush 8, 2) := by decide +kernel
theorem r99_8 {E : Nat → Value} {d : Nat} {st : List Value} {h : gm_H} {r : gm_R × gm_H} {lv : List Value} : gm_Go E d 99 8 lv st h r ↔ gm_Go E d 99 10 lv (.int (8 : Int32) :: st) h r := gr_pure m99 f99_8 rfl
theorem f99_10 : gm_ft 99 10 = some (.if_icmp .le 10, 3) := by decide +kernel
theorem r99_10 {E : Nat → Value} {d : Nat} {st : List Value} {h : gm_H} {r : gm_R × gm_H} {lv : List Value} {x y : Int32} : gm_Go E d 99 10 lv (.int y :: .int x :: st) h r ↔ (if x ≤ y then gm_Go E d 99 20 lv st h r else gm_Go E d 99 13 lv st h r) := (gr_br m99 f99_10 rfl rfl rfl rfl).trans gr_if
theorem f99_13 : gm_ft 99 13 = some (.aload_n 0, 1) := by decide +kernel
theorem r99_13 {E : Nat → Value} {d : Nat} {st : List Value} {h : gm_H} {r : gm_R × gm_H} {a1 a2 a3 a4 a5 a6 : Value} {x : Nat} : gm_Go E d 99 13 [.ref x, a1, a2, a3, a4, a5, a6] st h r ↔ gm_Go E d 99 14 [.ref x, a1, a2, a3, a4, a5, a6] (.ref x :: st) h r := gr_loc m99 f99_13 rfl rfl
theorem r99_13n {E : Nat → Value} {d : Nat} {st : List Value} {h : gm_H} {r : gm_R × gm_H} {a1 a2 a3 a4 a5 a6 : Value}  : gm_Go E d 99 13 [.null, a1, a2, a3, a4, a5, a6] st h r ↔ gm_Go E d 99 14 [.null, a1, a2, a3, a4, a5, a6] (.null :: st) h r := gr_loc m99 f99_13 rfl rfl
theorem f99_14 : gm_ft 99 14 = some (.bipush (-5), 2) := by decide +kernel
theorem r99_14 {E : Nat → Value} {d : Nat} {st : List Value} {h : gm_H} {r : gm_R × gm_H} {lv : List Value} : gm_Go E d 99 14 lv st h r ↔ gm_Go E d 99 16 lv (.int (-5 : Int32) :: st) h r := gr_pure m99 f99_14 rfl
theorem f99_16 : gm_ft 99 16 = some (.invokevirtual 160, 3) := by decide +kernel
theorem n99_16 {st : List Value} {h : gm_H} {E : Nat → Value} {lv : List Value} {b0 : Value} {a : Nat} (hs : (st.map fun v => v.category).sum ≤ 8) (he : (gm_en1 [.ref a, b0]).length ≤ 2) {vs : List Value} (hr : gm_rd h a = some (0, vs)) : gm_next E 99 16 lv (b0 :: .ref a :: st) h = some (.inr (.inl (0, 66, [.ref a, b0], st))) := gn_call m99 f99_16 rfl rfl rfl rfl rfl rfl rfl (gc_virt (bs := [b0]) (w := 206) rfl rfl rfl rfl hs he hr) (by decide)
theorem f99_19 : gm_ft 99 19 = some (.pop, 1) := by decide +kernel
theorem r99_19 {E : Nat → Value} {d : Nat} {st : List Value} {h : gm_H} {r : gm_R × gm_H} {lv : List Value} {x : Int32} : gm_Go E d 99 19 lv (.int x :: st) h r ↔ gm_Go E d 99 20 lv st h r := gr_pure m99 f99_19 rfl
theorem r99_19a {E : Nat → Value} {d : Nat} {st : List Value} {h : gm_H} {r : gm_R × gm_H} {lv : List Value} {a : Nat} : gm_Go E d 99 19 lv (.ref a :: st) h r ↔ gm_Go E d 99 20 lv st h r := gr_pure m99 f99_19 rfl
theorem r99_19n {E : Nat → Value} {d : Nat} {st : List Value} {h : gm_H} {r : gm_R × gm_H} {lv : List Value} : gm_Go E d 99 19 lv (.null :: st) h r ↔ gm_Go E d 99 20 lv st h r := gr_pure m99 f99_19 rfl
theorem f99_20 : gm_ft 99 20 = some (.aload_n 1, 1) := by decide +kernel
theorem r99_20 {E : Nat → Value} {d : Nat} {st : List Value} {h : gm_H} {r : gm_R × gm_H} {a0 a2 a3 a4 a5 a6 : Value} {x : Nat} : gm_Go E d 99 20 [a0, .ref x, a2, a3, a4, a5, a6] st h r ↔ gm_Go E d 99 21 [a0, .ref x, a2, a3, a4, a5, a6] (.ref x :: st) h r := gr_loc m99 f99_20 rfl rfl
theorem r99_20n {E : Nat → Value} {d : Nat} {st : List Value} {h : gm_H} {r : gm_R × gm_H} {a0 a2 a3 a4 a5 a6 : Value}  : gm_Go E d 99 20 [a0, .null, a2, a3, a4, a5, a6] st h r ↔ gm_Go E d 99 21 [a0, .null, a2, a3, a4, a5, a6] (.null :: st) h r := gr_loc m99 f99_20 rfl rfl
theorem f99_21 : gm_ft 99 21 = some (.iload_n 3, 1) := by decide +kernel
theorem r99_21 {E : Nat → Value} {d : Nat} {st : List Value} {h : gm_H} {r : gm_R × gm_H} {a0 a1 a2 a4 a5 a6 : Value} {x : Int32} : gm_Go E d 99 21 [a0, a1, a2, .int x, a4, a5, a6] st h r ↔ gm_Go E d 99 22 [a0, a1, a2, .int x, a4, a5, a6] (.int x :: st) h r := gr_loc m99 f99_21 rfl rfl
theorem f99_22 : gm_ft 99 22 = some (.invokevirtual 350, 3) := by decide +kernel
theorem n99_22 {st : List Value} {h : gm_H} {E : Nat → Value} {lv : List Value} {b0 : Value} {a : Nat} (hs : (st.map fun v => v.category).sum ≤ 8) (he : (gm_en1 [.ref a, b0]).length ≤ 2) {vs : List Value} (hr : gm_rd h a = some (1, vs)) : gm_next E 99 22 lv (b0 :: .ref a :: st) h = some (.inr (.inl (0, 105, [.ref a, b0], st))) := gn_call m99 f99_22 rfl rfl rfl rfl rfl rfl rfl (gc_virt (bs := [b0]) (w := 373) rfl rfl rfl rfl hs he hr) (by decide)
theorem f99_25 : gm_ft 99 25 = some (.iconst 0, 1) := by decide +kernel
theorem r99_25 {E : Nat → Value} {d : Nat} {st : List Value} {h : gm_H} {r : gm_R × gm_H} {lv : List Value} : gm_Go E d 99 25 lv st h r ↔ gm_Go E d 99 26 lv (.int (0 : Int32) :: st) h r := gr_pure m99 f99_25 rfl
theorem f99_26 : gm_ft 99 26 = some (.istore 4, 2) := by decide +kernel
theorem r99_26 {E : Nat → Value} {d : Nat} {st : List Value} {h : gm_H} {r : gm_R × gm_H} {a0 a1 a2 a3 a4 a5 a6 : Value} {x : Int32} : gm_Go E d 99 26 [a0, a1, a2, a3, a4, a5, a6] (.int x :: st) h r ↔ gm_Go E d 99 28 [a0, a1, a2, gm_k a3, .int x, a5, a6] st h r := gr_loc m99 f99_26 rfl rfl
theorem f99_28 : gm_ft 99 28 = some (.iload 4, 2) := by decide +kernel
theorem r99_28 {E : Nat → Value} {d : Nat} {st : List Value} {h : gm_H} {r : gm_R × gm_H} {a0 a1 a2 a3 a5 a6 : Value} {x : Int32} : gm_Go E d 99 28 [a0, a1, a2, a3, .int x, a5, a6] st h r ↔ gm_Go E d 99 30 [a0, a1, a2, a3, .int x, a5, a6] (.int x :: st) h r := gr_loc m99 f99_28 rfl rfl
theorem f99_30 : gm_ft 99 30 = some (.iload_n 3, 1) := by decide +kernel
theorem r99_30 {E : Nat → Value} {d : Nat} {st : List Value} {h : gm_H} {r : gm_R × gm_H} {a0 a1 a2 a4 a5 a6 : Value} {x : Int32} : gm_Go E d 99 30 [a0, a1, a2, .int x, a4, a5, a6] st h r ↔ gm_Go E d 99 31 [a0, a1, a2, .int x, a4, a5, a6] (.int x :: st) h r := gr_loc m99 f99_30 rfl rfl
theorem f99_31 : gm_ft 99 31 = some (.if_icmp .ge 101, 3) := by decide +kernel
theorem r99_31 {E : Nat → Value} {d : Nat} {st : List Value} {h : gm_H} {r : gm_R × gm_H} {lv : List Value} {x y : Int32} : gm_Go E d 99 31 lv (.int y :: .int x :: st) h r ↔ (if y ≤ x then gm_Go E d 99 132 lv st h r else gm_Go E d 99 34 lv st h r) := (gr_br m99 f99_31 rfl rfl rfl rfl).trans gr_if
theorem f99_34 : gm_ft 99 34 = some (.ldc_w 353, 3) := by decide +kernel
theorem r99_34 {E : Nat → Value} {d : Nat} {st : List Value} {h : gm_H} {r : gm_R × gm_H} {lv : List Value} : gm_Go E d 99 34 lv st h r ↔ gm_Go E d 99 37 lv (E 2 :: st) h r := gr_rd m99 f99_34 rfl rfl rfl rfl rfl
theorem f99_37 : gm_ft 99 37 = some (.aload_n 0, 1) := by decide +kernel
theorem r99_37 {E : Nat → Value} {d : Nat} {st : List Value} {h : gm_H} {r : gm_R × gm_H} {a1 a2 a3 a4 a5 a6 : Value} {x : Nat} : gm_Go E d 99 37 [.ref x, a1, a2, a3, a4, a5, a6] st h r ↔ gm_Go E d 99 38 [.ref x, a1, a2, a3, a4, a5, a6] (.ref x :: st) h r := gr_loc m99 f99_37 rfl rfl
theorem r99_37n {E : Nat → Value} {d : Nat} {st : List Value} {h : gm_H} {r : gm_R × gm_H} {a1 a2 a3 a4 a5 a6 : Value}  : gm_Go E d 99 37 [.null, a1, a2, a3, a4, a5, a6] st h r ↔ gm_Go E d 99 38 [.null, a1, a2, a3, a4, a5, a6] (.null :: st) h r := gr_loc m99 f99_37 rfl rfl
theorem f99_38 : gm_ft 99 38 = some (.invokevirtual 176, 3) := by decide +kernel
theorem n99_38 {st : List Value} {h : gm_H} {E : Nat → Value} {lv : List Value} {a : Nat} (hs : (st.map fun v => v.category).sum ≤ 8) (he : (gm_en1 [.ref a]).length ≤ 1) {vs : List Value} (hr : gm_rd h a = some (0, vs)) : gm_next E 99 38 lv (.ref a :: st) h = some (.inr (.inl (0, 69, [.ref a], st))) := gn_call m99 f99_38 rfl rfl rfl rfl rfl rfl rfl (gc_virt (bs := []) (w := 274) rfl rfl rfl rfl hs he hr) (by decide)
theorem f99_41 : gm_ft 99 41 = some (.i2c, 1) := by decide +kernel
theorem r99_41 {E : Nat → Value} {d : Nat} {st : List Value} {h : gm_H} {r : gm_R × gm_H} {lv : List Value} {x : Int32} : gm_Go E d 99 41 lv (.int x :: st) h r ↔ gm_Go E d 99 42 lv (.int ((x.toUInt32 % 65536).toInt32) :: st) h r := gr_pure m99 f99_41 rfl
theorem f99_42 : gm_ft 99 42 = some (.invokevirtual 355, 3) := by decide +kernel
theorem n99_42 {st : List Value} {h : gm_H} {E : Nat → Value} {lv : List Value} {b0 : Value} {a : Nat} (hs : (st.map fun v => v.category).sum ≤ 8) (he : (gm_en1 [.ref a, b0]).length ≤ 2) {vs : List Value} (hr : gm_rd h a = some (6, vs)) : gm_next E 99 42 lv (b0 :: .ref a :: st) h = some (.inr (.inl (0, 128, [.ref a, b0], st))) := gn_call m99 f99_42 rfl rfl rfl rfl rfl rfl rfl (gc_virt (bs := [b0]) (w := 378) rfl rfl rfl rfl hs he hr) (by decide)
theorem f99_45 : gm_ft 99 45 = some (.istore 5, 2) := by decide +kernel
theorem r99_45 {E : Nat → Value} {d : Nat} {st : List Value} {h : gm_H} {r : gm_R × gm_H} {a0 a1 a2 a3 a4 a5 a6 : Value} {x : Int32} : gm_Go E d 99 45 [a0, a1, a2, a3, a4, a5, a6] (.int x :: st) h r ↔ gm_Go E d 99 47 [a0, a1, a2, a3, gm_k a4, .int x, a6] st h r := gr_loc m99 f99_45 rfl rfl
theorem f99_47 : gm_ft 99 47 = some (.iload 5, 2) := by decide +kernel
theorem r99_47 {E : Nat → Value} {d : Nat} {st : List Value} {h : gm_H} {r : gm_R × gm_H} {a0 a1 a2 a3 a4 a6 : Value} {x : Int32} : gm_Go E d 99 47 [a0, a1, a2, a3, a4, .int x, a6] st h r ↔ gm_Go E d 99 49 [a0, a1, a2, a3, a4, .int x, a6] (.int x :: st) h r := gr_loc m99 f99_47 rfl rfl
theorem f99_49 : gm_ft 99 49 = some (.ifCond .ge 10, 3) := by decide +kernel
theorem r99_49 {E : Nat → Value} {d : Nat} {st : List Value} {h : gm_H} {r : gm_R × gm_H} {lv : List Value} {x : Int32} : gm_Go E d 99 49 lv (.int x :: st) h r ↔ (if 0 ≤ x then gm_Go E d 99 59 lv st h r else gm_Go E d 99 52 lv st h r) := (gr_br m99 f99_49 rfl rfl rfl rfl).trans gr_if
theorem f99_52 : gm_ft 99 52 = some (.aload_n 0, 1) := by decide +kernel
theorem r99_52 {E : Nat → Value} {d : Nat} {st : List Value} {h : gm_H} {r : gm_R × gm_H} {a1 a2 a3 a4 a5 a6 : Value} {x : Nat} : gm_Go E d 99 52 [.ref x, a1, a2, a3, a4, a5, a6] st h r ↔ gm_Go E d 99 53 [.ref x, a1, a2, a3, a4, a5, a6] (.ref x :: st) h r := gr_loc m99 f99_52 rfl rfl
theorem r99_52n {E : Nat → Value} {d : Nat} {st : List Value} {h : gm_H} {r : gm_R × gm_H} {a1 a2 a3 a4 a5 a6 : Value}  : gm_Go E d 99 52 [.null, a1, a2, a3, a4, a5, a6] st h r ↔ gm_Go E d 99 53 [.null, a1, a2, a3, a4, a5, a6] (.null :: st) h r := gr_loc m99 f99_52 rfl rfl
theorem f99_53 : gm_ft 99 53 = some (.bipush (-5), 2) := by decide +kernel
theorem r99_53 {E : Nat → Value} {d : Nat} {st : List Value} {h : gm_H} {r : gm_R × gm_H} {lv : List Value} : gm_Go E d 99 53 lv st h r ↔ gm_Go E d 99 55 lv (.int (-5 : Int32) :: st) h r := gr_pure m99 f99_53 rfl
theorem f99_55 : gm_ft 99 55 = some (.invokevirtual 160, 3) := by decide +kernel
theorem n99_55 {st : List Value} {h : gm_H} {E : Nat → Value} {lv : List Value} {b0 : Value} {a : Nat} (hs : (st.map fun v => v.category).sum ≤ 8) (he : (gm_en1 [.ref a, b0]).length ≤ 2) {vs : List Value} (hr : gm_rd h a = some (0, vs)) : gm_next E 99 55 lv (b0 :: .ref a :: st) h = some (.inr (.inl (0, 66, [.ref a, b0], st))) := gn_call m99 f99_55 rfl rfl rfl rfl rfl rfl rfl (gc_virt (bs := [b0]) (w := 206) rfl rfl rfl rfl hs he hr) (by decide)
theorem f99_58 : gm_ft 99 58 = some (.pop, 1) := by decide +kernel
theorem r99_58 {E : Nat → Value} {d : Nat} {st : List Value} {h : gm_H} {r : gm_R × gm_H} {lv : List Value} {x : Int32} : gm_Go E d 99 58 lv (.int x :: st) h r ↔ gm_Go E d 99 59 lv st h r := gr_pure m99 f99_58 rfl
theorem r99_58a {E : Nat → Value} {d : Nat} {st : List Value} {h : gm_H} {r : gm_R × gm_H} {lv : List Value} {a : Nat} : gm_Go E d 99 58 lv (.ref a :: st) h r ↔ gm_Go E d 99 59 lv st h r := gr_pure m99 f99_58 rfl
theorem r99_58n {E : Nat → Value} {d : Nat} {st : List Value} {h : gm_H} {r : gm_R × gm_H} {lv : List Value} : gm_Go E d 99 58 lv (.null :: st) h r ↔ gm_Go E d 99 59 lv st h r := gr_pure m99 f99_58 rfl
theorem f99_59 : gm_ft 99 59 = some (.aload_n 0, 1) := by decide +kernel
theorem r99_59 {E : Nat → Value} {d : Nat} {st : List Value} {h : gm_H} {r : gm_R × gm_H} {a1 a2 a3 a4 a5 a6 : Value} {x : Nat} : gm_Go E d 99 59 [.ref x, a1, a2, a3, a4, a5, a6] st h r ↔ gm_Go E d 99 60 [.ref x, a1, a2, a3, a4, a5, a6] (.ref x :: st) h r := gr_loc m99 f99_59 rfl rfl
theorem r99_59n {E : Nat → Value} {d : Nat} {st : List Value} {h : gm_H} {r : gm_R × gm_H} {a1 a2 a3 a4 a5 a6 : Value}  : gm_Go E d 99 59 [.null, a1, a2, a3, a4, a5, a6] st h r ↔ gm_Go E d 99 60 [.null, a1, a2, a3, a4, a5, a6] (.null :: st) h r := gr_loc m99 f99_59 rfl rfl
theorem f99_60 : gm_ft 99 60 = some (.invokevirtual 225, 3) := by decide +kernel
theorem n99_60 {st : List Value} {h : gm_H} {E : Nat → Value} {lv : List Value} {a : Nat} (hs : (st.map fun v => v.category).sum ≤ 8) (he : (gm_en1 [.ref a]).length ≤ 4) {vs : List Value} (hr : gm_rd h a = some (0, vs)) : gm_next E 99 60 lv (.ref a :: st) h = some (.inr (.inl (0, 71, [.ref a], st))) := gn_call m99 f99_60 rfl rfl rfl rfl rfl rfl rfl (gc_virt (bs := []) (w := 299) rfl rfl rfl rfl hs he hr) (by decide)
theorem f99_63 : gm_ft 99 63 = some (.istore 6, 2) := by decide +kernel
theorem r99_63 {E : Nat → Value} {d : Nat} {st : List Value} {h : gm_H} {r : gm_R × gm_H} {a0 a1 a2 a3 a4 a5 a6 : Value} {x : Int32} : gm_Go E d 99 63 [a0, a1, a2, a3, a4, a5, a6] (.int x :: st) h r ↔ gm_Go E d 99 65 [a0, a1, a2, a3, a4, gm_k a5, .int x] st h r := gr_loc m99 f99_63 rfl rfl
theorem f99_65 : gm_ft 99 65 = some (.aload_n 1, 1) := by decide +kernel
theorem r99_65 {E : Nat → Value} {d : Nat} {st : List Value} {h : gm_H} {r : gm_R × gm_H} {a0 a2 a3 a4 a5 a6 : Value} {x : Nat} : gm_Go E d 99 65 [a0, .ref x, a2, a3, a4, a5, a6] st h r ↔ gm_Go E d 99 66 [a0, .ref x, a2, a3, a4, a5, a6] (.ref x :: st) h r := gr_loc m99 f99_65 rfl rfl
theorem r99_65n {E : Nat → Value} {d : Nat} {st : List Value} {h : gm_H} {r : gm_R × gm_H} {a0 a2 a3 a4 a5 a6 : Value}  : gm_Go E d 99 65 [a0, .null, a2, a3, a4, a5, a6] st h r ↔ gm_Go E d 99 66 [a0, .null, a2, a3, a4, a5, a6] (.null :: st) h r := gr_loc m99 f99_65 rfl rfl
theorem f99_66 : gm_ft 99 66 = some (.getfield 296, 3) := by decide +kernel
theorem r99_66 {E : Nat → Value} {d : Nat} {st : List Value} {h : gm_H} {r : gm_R × gm_H} {lv : List Value} {a : Nat} {vs : List Value} {v : Value} (hr : gm_rd h a = some (1, vs)) (hv : vs[6]? = some v) : gm_Go E d 99 66 lv (.ref a :: st) h r ↔ gm_Go E d 99 69 lv (v :: st) h r := gr_rd m99 f99_66 rfl rfl rfl rfl (gf_get k0_296 hr hv)
theorem f99_69 : gm_ft 99 69 = some (.iload 4, 2) := by decide +kernel
theorem r99_69 {E : Nat → Value} {d : Nat} {st : List Value} {h : gm_H} {r : gm_R × gm_H} {a0 a1 a2 a3 a5 a6 : Value} {x : Int32} : gm_Go E d 99 69 [a0, a1, a2, a3, .int x, a5, a6] st h r ↔ gm_Go E d 99 71 [a0, a1, a2, a3, .int x, a5, a6] (.int x :: st) h r := gr_loc m99 f99_69 rfl rfl
theorem f99_71 : gm_ft 99 71 = some (.iload 5, 2) := by decide +kernel
theorem r99_71 {E : Nat → Value} {d : Nat} {st : List Value} {h : gm_H} {r : gm_R × gm_H} {a0 a1 a2 a3 a4 a6 : Value} {x : Int32} : gm_Go E d 99 71 [a0, a1, a2, a3, a4, .int x, a6] st h r ↔ gm_Go E d 99 73 [a0, a1, a2, a3, a4, .int x, a6] (.int x :: st) h r := gr_loc m99 f99_71 rfl rfl
theorem f99_73 : gm_ft 99 73 = some (.iastore, 1) := by decide +kernel
theorem r99_73 {E : Nat → Value} {d : Nat} {st : List Value} {h : gm_H} {r : gm_R × gm_H} {lv : List Value} {a k j : Nat} {vs : List Value} {x : Int32} (hr : gm_rd h a = some (k, vs)) (hk : 100 ≤ k ∧ k % 100 = 0 ∧ gm_ko k = 1 ∧ 1 < 3) (hj : j < 2 ^ 31) (hl : j < vs.length) : gm_Go E d 99 73 lv (.int x :: .int (nI j) :: .ref a :: st) h r ↔ gm_Go E d 99 74 lv st (gm_wr h a (k, vs.set j (.int x))) r := gr_wr m99 f99_73 rfl rfl rfl rfl rfl (ga_st hr hk hj hl)
theorem f99_74 : gm_ft 99 74 = some (.aload_n 1, 1) := by decide +kernel
theorem r99_74 {E : Nat → Value} {d : Nat} {st : List Value} {h : gm_H} {r : gm_R × gm_H} {a0 a2 a3 a4 a5 a6 : Value} {x : Nat} : gm_Go E d 99 74 [a0, .ref x, a2, a3, a4, a5, a6] st h r ↔ gm_Go E d 99 75 [a0, .ref x, a2, a3, a4, a5, a6] (.ref x :: st) h r := gr_loc m99 f99_74 rfl rfl
theorem r99_74n {E : Nat → Value} {d : Nat} {st : List Value} {h : gm_H} {r : gm_R × gm_H} {a0 a2 a3 a4 a5 a6 : Value}  : gm_Go E d 99 74 [a0, .null, a2, a3, a4, a5, a6] st h r ↔ gm_Go E d 99 75 [a0, .null, a2, a3, a4, a5, a6] (.null :: st) h r := gr_loc m99 f99_74 rfl rfl
theorem f99_75 : gm_ft 99 75 = some (.getfield 300, 3) := by decide +kernel
theorem r99_75 {E : Nat → Value} {d : Nat} {st : List Value} {h : gm_H} {r : gm_R × gm_H} {lv : List Value} {a : Nat} {vs : List Value} {v : Value} (hr : gm_rd h a = some (1, vs)) (hv : vs[5]? = some v) : gm_Go E d 99 75 lv (.ref a :: st) h r ↔ gm_Go E d 99 78 lv (v :: st) h r := gr_rd m99 f99_75 rfl rfl rfl rfl (gf_get k0_300 hr hv)
theorem f99_78 : gm_ft 99 78 = some (.iload 4, 2) := by decide +kernel
theorem r99_78 {E : Nat → Value} {d : Nat} {st : List Value} {h : gm_H} {r : gm_R × gm_H} {a0 a1 a2 a3 a5 a6 : Value} {x : Int32} : gm_Go E d 99 78 [a0, a1, a2, a3, .int x, a5, a6] st h r ↔ gm_Go E d 99 80 [a0, a1, a2, a3, .int x, a5, a6] (.int x :: st) h r := gr_loc m99 f99_78 rfl rfl
theorem f99_80 : gm_ft 99 80 = some (.aload_n 0, 1) := by decide +kernel
theorem r99_80 {E : Nat → Value} {d : Nat} {st : List Value} {h : gm_H} {r : gm_R × gm_H} {a1 a2 a3 a4 a5 a6 : Value} {x : Nat} : gm_Go E d 99 80 [.ref x, a1, a2, a3, a4, a5, a6] st h r ↔ gm_Go E d 99 81 [.ref x, a1, a2, a3, a4, a5, a6] (.ref x :: st) h r := gr_loc m99 f99_80 rfl rfl
theorem r99_80n {E : Nat → Value} {d : Nat} {st : List Value} {h : gm_H} {r : gm_R × gm_H} {a1 a2 a3 a4 a5 a6 : Value}  : gm_Go E d 99 80 [.null, a1, a2, a3, a4, a5, a6] st h r ↔ gm_Go E d 99 81 [.null, a1, a2, a3, a4, a5, a6] (.null :: st) h r := gr_loc m99 f99_80 rfl rfl
theorem f99_81 : gm_ft 99 81 = some (.iload 6, 2) := by decide +kernel
theorem r99_81 {E : Nat → Value} {d : Nat} {st : List Value} {h : gm_H} {r : gm_R × gm_H} {a0 a1 a2 a3 a4 a5 : Value} {x : Int32} : gm_Go E d 99 81 [a0, a1, a2, a3, a4, a5, .int x] st h r ↔ gm_Go E d 99 83 [a0, a1, a2, a3, a4, a5, .int x] (.int x :: st) h r := gr_loc m99 f99_81 rfl rfl
theorem f99_83 : gm_ft 99 83 = some (.aload_n 0, 1) := by decide +kernel
theorem r99_83 {E : Nat → Value} {d : Nat} {st : List Value} {h : gm_H} {r : gm_R × gm_H} {a1 a2 a3 a4 a5 a6 : Value} {x : Nat} : gm_Go E d 99 83 [.ref x, a1, a2, a3, a4, a5, a6] st h r ↔ gm_Go E d 99 84 [.ref x, a1, a2, a3, a4, a5, a6] (.ref x :: st) h r := gr_loc m99 f99_83 rfl rfl
theorem r99_83n {E : Nat → Value} {d : Nat} {st : List Value} {h : gm_H} {r : gm_R × gm_H} {a1 a2 a3 a4 a5 a6 : Value}  : gm_Go E d 99 83 [.null, a1, a2, a3, a4, a5, a6] st h r ↔ gm_Go E d 99 84 [.null, a1, a2, a3, a4, a5, a6] (.null :: st) h r := gr_loc m99 f99_83 rfl rfl
theorem f99_84 : gm_ft 99 84 = some (.getfield 96, 3) := by decide +kernel
theorem r99_84 {E : Nat → Value} {d : Nat} {st : List Value} {h : gm_H} {r : gm_R × gm_H} {lv : List Value} {a : Nat} {vs : List Value} {v : Value} (hr : gm_rd h a = some (0, vs)) (hv : vs[7]? = some v) : gm_Go E d 99 84 lv (.ref a :: st) h r ↔ gm_Go E d 99 87 lv (v :: st) h r := gr_rd m99 f99_84 rfl rfl rfl rfl (gf_get k0_96 hr hv)
theorem f99_87 : gm_ft 99 87 = some (.iload 6, 2) := by decide +kernel
theorem r99_87 {E : Nat → Value} {d : Nat} {st : List Value} {h : gm_H} {r : gm_R × gm_H} {a0 a1 a2 a3 a4 a5 : Value} {x : Int32} : gm_Go E d 99 87 [a0, a1, a2, a3, a4, a5, .int x] st h r ↔ gm_Go E d 99 89 [a0, a1, a2, a3, a4, a5, .int x] (.int x :: st) h r := gr_loc m99 f99_87 rfl rfl
theorem f99_89 : gm_ft 99 89 = some (.isub, 1) := by decide +kernel
theorem r99_89 {E : Nat → Value} {d : Nat} {st : List Value} {h : gm_H} {r : gm_R × gm_H} {lv : List Value} {x y : Int32} : gm_Go E d 99 89 lv (.int y :: .int x :: st) h r ↔ gm_Go E d 99 90 lv (.int (x - y) :: st) h r := gr_pure m99 f99_89 rfl
theorem f99_90 : gm_ft 99 90 = some (.bipush 97, 2) := by decide +kernel
theorem r99_90 {E : Nat → Value} {d : Nat} {st : List Value} {h : gm_H} {r : gm_R × gm_H} {lv : List Value} : gm_Go E d 99 90 lv st h r ↔ gm_Go E d 99 92 lv (.int (97 : Int32) :: st) h r := gr_pure m99 f99_90 rfl
theorem f99_92 : gm_ft 99 92 = some (.bipush 26, 2) := by decide +kernel
theorem r99_92 {E : Nat → Value} {d : Nat} {st : List Value} {h : gm_H} {r : gm_R × gm_H} {lv : List Value} : gm_Go E d 99 92 lv st h r ↔ gm_Go E d 99 94 lv (.int (26 : Int32) :: st) h r := gr_pure m99 f99_92 rfl
theorem f99_94 : gm_ft 99 94 = some (.invokevirtual 356, 3) := by decide +kernel
theorem n99_94 {st : List Value} {h : gm_H} {E : Nat → Value} {lv : List Value} {b0 b1 b2 b3 : Value} {a : Nat} (hs : (st.map fun v => v.category).sum ≤ 8) (he : (gm_en1 [.ref a, b0, b1, b2, b3]).length ≤ 6) {vs : List Value} (hr : gm_rd h a = some (0, vs)) : gm_next E 99 94 lv (b3 :: b2 :: b1 :: b0 :: .ref a :: st) h = some (.inr (.inl (0, 73, [.ref a, b0, b1, b2, b3], st))) := gn_call m99 f99_94 rfl rfl rfl rfl rfl rfl rfl (gc_virt (bs := [b3, b2, b1, b0]) (w := 460) rfl rfl rfl rfl hs he hr) (by decide)
theorem f99_97 : gm_ft 99 97 = some (.iastore, 1) := by decide +kernel
theorem r99_97 {E : Nat → Value} {d : Nat} {st : List Value} {h : gm_H} {r : gm_R × gm_H} {lv : List Value} {a k j : Nat} {vs : List Value} {x : Int32} (hr : gm_rd h a = some (k, vs)) (hk : 100 ≤ k ∧ k % 100 = 0 ∧ gm_ko k = 1 ∧ 1 < 3) (hj : j < 2 ^ 31) (hl : j < vs.length) : gm_Go E d 99 97 lv (.int x :: .int (nI j) :: .ref a :: st) h r ↔ gm_Go E d 99 98 lv st (gm_wr h a (k, vs.set j (.int x))) r := gr_wr m99 f99_97 rfl rfl rfl rfl rfl (ga_st hr hk hj hl)
theorem f99_98 : gm_ft 99 98 = some (.iload 5, 2) := by decide +kernel
theorem r99_98 {E : Nat → Value} {d : Nat} {st : List Value} {h : gm_H} {r : gm_R × gm_H} {a0 a1 a2 a3 a4 a6 : Value} {x : Int32} : gm_Go E d 99 98 [a0, a1, a2, a3, a4, .int x, a6] st h r ↔ gm_Go E d 99 100 [a0, a1, a2, a3, a4, .int x, a6] (.int x :: st) h r := gr_loc m99 f99_98 rfl rfl
theorem f99_100 : gm_ft 99 100 = some (.bipush 6, 2) := by decide +kernel
theorem r99_100 {E : Nat → Value} {d : Nat} {st : List Value} {h : gm_H} {r : gm_R × gm_H} {lv : List Value} : gm_Go E d 99 100 lv st h r ↔ gm_Go E d 99 102 lv (.int (6 : Int32) :: st) h r := gr_pure m99 f99_100 rfl
theorem f99_102 : gm_ft 99 102 = some (.if_icmp .lt 24, 3) := by decide +kernel
theorem r99_102 {E : Nat → Value} {d : Nat} {st : List Value} {h : gm_H} {r : gm_R × gm_H} {lv : List Value} {x y : Int32} : gm_Go E d 99 102 lv (.int y :: .int x :: st) h r ↔ (if x < y then gm_Go E d 99 126 lv st h r else gm_Go E d 99 105 lv st h r) := (gr_br m99 f99_102 rfl rfl rfl rfl).trans gr_if
theorem f99_105 : gm_ft 99 105 = some (.aload_n 0, 1) := by decide +kernel
theorem r99_105 {E : Nat → Value} {d : Nat} {st : List Value} {h : gm_H} {r : gm_R × gm_H} {a1 a2 a3 a4 a5 a6 : Value} {x : Nat} : gm_Go E d 99 105 [.ref x, a1, a2, a3, a4, a5, a6] st h r ↔ gm_Go E d 99 106 [.ref x, a1, a2, a3, a4, a5, a6] (.ref x :: st) h r := gr_loc m99 f99_105 rfl rfl
theorem r99_105n {E : Nat → Value} {d : Nat} {st : List Value} {h : gm_H} {r : gm_R × gm_H} {a1 a2 a3 a4 a5 a6 : Value}  : gm_Go E d 99 105 [.null, a1, a2, a3, a4, a5, a6] st h r ↔ gm_Go E d 99 106 [.null, a1, a2, a3, a4, a5, a6] (.null :: st) h r := gr_loc m99 f99_105 rfl rfl
theorem f99_106 : gm_ft 99 106 = some (.aload_n 0, 1) := by decide +kernel
theorem r99_106 {E : Nat → Value} {d : Nat} {st : List Value} {h : gm_H} {r : gm_R × gm_H} {a1 a2 a3 a4 a5 a6 : Value} {x : Nat} : gm_Go E d 99 106 [.ref x, a1, a2, a3, a4, a5, a6] st h r ↔ gm_Go E d 99 107 [.ref x, a1, a2, a3, a4, a5, a6] (.ref x :: st) h r := gr_loc m99 f99_106 rfl rfl
theorem r99_106n {E : Nat → Value} {d : Nat} {st : List Value} {h : gm_H} {r : gm_R × gm_H} {a1 a2 a3 a4 a5 a6 : Value}  : gm_Go E d 99 106 [.null, a1, a2, a3, a4, a5, a6] st h r ↔ gm_Go E d 99 107 [.null, a1, a2, a3, a4, a5, a6] (.null :: st) h r := gr_loc m99 f99_106 rfl rfl
theorem f99_107 : gm_ft 99 107 = some (.iload_n 2, 1) := by decide +kernel
theorem r99_107 {E : Nat → Value} {d : Nat} {st : List Value} {h : gm_H} {r : gm_R × gm_H} {a0 a1 a3 a4 a5 a6 : Value} {x : Int32} : gm_Go E d 99 107 [a0, a1, .int x, a3, a4, a5, a6] st h r ↔ gm_Go E d 99 108 [a0, a1, .int x, a3, a4, a5, a6] (.int x :: st) h r := gr_loc m99 f99_107 rfl rfl
theorem f99_108 : gm_ft 99 108 = some (.iconst 1, 1) := by decide +kernel
theorem r99_108 {E : Nat → Value} {d : Nat} {st : List Value} {h : gm_H} {r : gm_R × gm_H} {lv : List Value} : gm_Go E d 99 108 lv st h r ↔ gm_Go E d 99 109 lv (.int (1 : Int32) :: st) h r := gr_pure m99 f99_108 rfl
theorem f99_109 : gm_ft 99 109 = some (.iadd, 1) := by decide +kernel
theorem r99_109 {E : Nat → Value} {d : Nat} {st : List Value} {h : gm_H} {r : gm_R × gm_H} {lv : List Value} {x y : Int32} : gm_Go E d 99 109 lv (.int y :: .int x :: st) h r ↔ gm_Go E d 99 110 lv (.int (x + y) :: st) h r := gr_pure m99 f99_109 rfl
theorem f99_110 : gm_ft 99 110 = some (.invokevirtual 182, 3) := by decide +kernel
theorem n99_110 {st : List Value} {h : gm_H} {E : Nat → Value} {lv : List Value} {b0 : Value} {a : Nat} (hs : (st.map fun v => v.category).sum ≤ 8) (he : (gm_en1 [.ref a, b0]).length ≤ 2) {vs : List Value} (hr : gm_rd h a = some (0, vs)) : gm_next E 99 110 lv (b0 :: .ref a :: st) h = some (.inr (.inl (0, 82, [.ref a, b0], st))) := gn_call m99 f99_110 rfl rfl rfl rfl rfl rfl rfl (gc_virt (bs := [b0]) (w := 270) rfl rfl rfl rfl hs he hr) (by decide)
theorem f99_113 : gm_ft 99 113 = some (.invokevirtual 360, 3) := by decide +kernel
theorem n99_113 {st : List Value} {h : gm_H} {E : Nat → Value} {lv : List Value} {b0 : Value} {a : Nat} (hs : (st.map fun v => v.category).sum ≤ 8) (he : (gm_en1 [.ref a, b0]).length ≤ 2) {vs : List Value} (hr : gm_rd h a = some (0, vs)) : gm_next E 99 113 lv (b0 :: .ref a :: st) h = some (.inr (.inl (0, 100, [.ref a, b0], st))) := gn_call m99 f99_113 rfl rfl rfl rfl rfl rfl rfl (gc_virt (bs := [b0]) (w := 464) rfl rfl rfl rfl hs he hr) (by decide)
theorem f99_116 : gm_ft 99 116 = some (.ifCond .ne 10, 3) := by decide +kernel
theorem r99_116 {E : Nat → Value} {d : Nat} {st : List Value} {h : gm_H} {r : gm_R × gm_H} {lv : List Value} {x : Int32} : gm_Go E d 99 116 lv (.int x :: st) h r ↔ (if x = 0 then gm_Go E d 99 119 lv st h r else gm_Go E d 99 126 lv st h r) := (gr_br m99 f99_116 rfl rfl rfl rfl).trans gr_ifn
theorem f99_119 : gm_ft 99 119 = some (.aload_n 0, 1) := by decide +kernel
theorem r99_119 {E : Nat → Value} {d : Nat} {st : List Value} {h : gm_H} {r : gm_R × gm_H} {a1 a2 a3 a4 a5 a6 : Value} {x : Nat} : gm_Go E d 99 119 [.ref x, a1, a2, a3, a4, a5, a6] st h r ↔ gm_Go E d 99 120 [.ref x, a1, a2, a3, a4, a5, a6] (.ref x :: st) h r := gr_loc m99 f99_119 rfl rfl
theorem r99_119n {E : Nat → Value} {d : Nat} {st : List Value} {h : gm_H} {r : gm_R × gm_H} {a1 a2 a3 a4 a5 a6 : Value}  : gm_Go E d 99 119 [.null, a1, a2, a3, a4, a5, a6] st h r ↔ gm_Go E d 99 120 [.null, a1, a2, a3, a4, a5, a6] (.null :: st) h r := gr_loc m99 f99_119 rfl rfl
theorem f99_120 : gm_ft 99 120 = some (.bipush (-4), 2) := by decide +kernel
theorem r99_120 {E : Nat → Value} {d : Nat} {st : List Value} {h : gm_H} {r : gm_R × gm_H} {lv : List Value} : gm_Go E d 99 120 lv st h r ↔ gm_Go E d 99 122 lv (.int (-4 : Int32) :: st) h r := gr_pure m99 f99_120 rfl
theorem f99_122 : gm_ft 99 122 = some (.invokevirtual 160, 3) := by decide +kernel
theorem n99_122 {st : List Value} {h : gm_H} {E : Nat → Value} {lv : List Value} {b0 : Value} {a : Nat} (hs : (st.map fun v => v.category).sum ≤ 8) (he : (gm_en1 [.ref a, b0]).length ≤ 2) {vs : List Value} (hr : gm_rd h a = some (0, vs)) : gm_next E 99 122 lv (b0 :: .ref a :: st) h = some (.inr (.inl (0, 66, [.ref a, b0], st))) := gn_call m99 f99_122 rfl rfl rfl rfl rfl rfl rfl (gc_virt (bs := [b0]) (w := 206) rfl rfl rfl rfl hs he hr) (by decide)
theorem f99_125 : gm_ft 99 125 = some (.pop, 1) := by decide +kernel
theorem r99_125 {E : Nat → Value} {d : Nat} {st : List Value} {h : gm_H} {r : gm_R × gm_H} {lv : List Value} {x : Int32} : gm_Go E d 99 125 lv (.int x :: st) h r ↔ gm_Go E d 99 126 lv st h r := gr_pure m99 f99_125 rfl
theorem r99_125a {E : Nat → Value} {d : Nat} {st : List Value} {h : gm_H} {r : gm_R × gm_H} {lv : List Value} {a : Nat} : gm_Go E d 99 125 lv (.ref a :: st) h r ↔ gm_Go E d 99 126 lv st h r := gr_pure m99 f99_125 rfl
theorem r99_125n {E : Nat → Value} {d : Nat} {st : List Value} {h : gm_H} {r : gm_R × gm_H} {lv : List Value} : gm_Go E d 99 125 lv (.null :: st) h r ↔ gm_Go E d 99 126 lv st h r := gr_pure m99 f99_125 rfl
theorem f99_126 : gm_ft 99 126 = some (.iinc 4 1, 3) := by decide +kernel
theorem r99_126 {E : Nat → Value} {d : Nat} {st : List Value} {h : gm_H} {r : gm_R × gm_H} {a0 a1 a2 a3 a5 a6 : Value} {x : Int32} : gm_Go E d 99 126 [a0, a1, a2, a3, .int x, a5, a6] st h r ↔ gm_Go E d 99 129 [a0, a1, a2, gm_k a3, .int (x + (1 : Int32)), a5, a6] st h r := gr_loc m99 f99_126 rfl rfl
theorem f99_129 : gm_ft 99 129 = some (.goto (-101), 3) := by decide +kernel
theorem r99_129 {E : Nat → Value} {d : Nat} {st : List Value} {h : gm_H} {r : gm_R × gm_H} {lv : List Value} : gm_Go E d 99 129 lv st h r ↔ gm_Go E d 99 28 lv st h r := gr_brT m99 f99_129 rfl rfl rfl rfl
theorem f99_132 : gm_ft 99 132 = some (.aload_n 1, 1) := by decide +kernel
theorem r99_132 {E : Nat → Value} {d : Nat} {st : List Value} {h : gm_H} {r : gm_R × gm_H} {a0 a2 a3 a4 a5 a6 : Value} {x : Nat} : gm_Go E d 99 132 [a0, .ref x, a2, a3, a4, a5, a6] st h r ↔ gm_Go E d 99 133 [a0, .ref x, a2, a3, a4, a5, a6] (.ref x :: st) h r := gr_loc m99 f99_132 rfl rfl
theorem r99_132n {E : Nat → Value} {d : Nat} {st : List Value} {h : gm_H} {r : gm_R × gm_H} {a0 a2 a3 a4 a5 a6 : Value}  : gm_Go E d 99 132 [a0, .null, a2, a3, a4, a5, a6] st h r ↔ gm_Go E d 99 133 [a0, .null, a2, a3, a4, a5, a6] (.null :: st) h r := gr_loc m99 f99_132 rfl rfl
theorem f99_133 : gm_ft 99 133 = some (.invokevirtual 256, 3) := by decide +kernel
theorem n99_133 {st : List Value} {h : gm_H} {E : Nat → Value} {lv : List Value} {a : Nat} (hs : (st.map fun v => v.category).sum ≤ 8) (he : (gm_en1 [.ref a]).length ≤ 1) {vs : List Value} (hr : gm_rd h a = some (1, vs)) : gm_next E 99 133 lv (.ref a :: st) h = some (.inr (.inl (0, 104, [.ref a], st))) := gn_call m99 f99_133 rfl rfl rfl rfl rfl rfl rfl (gc_virt (bs := []) (w := 364) rfl rfl rfl rfl hs he hr) (by decide)
theorem f99_136 : gm_ft 99 136 = some (.ifCond .eq 14, 3) := by decide +kernel
theorem r99_136 {E : Nat → Value} {d : Nat} {st : List Value} {h : gm_H} {r : gm_R × gm_H} {lv : List Value} {x : Int32} : gm_Go E d 99 136 lv (.int x :: st) h r ↔ (if x = 0 then gm_Go E d 99 150 lv st h r else gm_Go E d 99 139 lv st h r) := (gr_br m99 f99_136 rfl rfl rfl rfl).trans gr_if
theorem f99_139 : gm_ft 99 139 = some (.iload_n 3, 1) := by decide +kernel
theorem r99_139 {E : Nat → Value} {d : Nat} {st : List Value} {h : gm_H} {r : gm_R × gm_H} {a0 a1 a2 a4 a5 a6 : Value} {x : Int32} : gm_Go E d 99 139 [a0, a1, a2, .int x, a4, a5, a6] st h r ↔ gm_Go E d 99 140 [a0, a1, a2, .int x, a4, a5, a6] (.int x :: st) h r := gr_loc m99 f99_139 rfl rfl
theorem f99_140 : gm_ft 99 140 = some (.ifCond .le 10, 3) := by decide +kernel
theorem r99_140 {E : Nat → Value} {d : Nat} {st : List Value} {h : gm_H} {r : gm_R × gm_H} {lv : List Value} {x : Int32} : gm_Go E d 99 140 lv (.int x :: st) h r ↔ (if x ≤ 0 then gm_Go E d 99 150 lv st h r else gm_Go E d 99 143 lv st h r) := (gr_br m99 f99_140 rfl rfl rfl rfl).trans gr_if
theorem f99_143 : gm_ft 99 143 = some (.aload_n 0, 1) := by decide +kernel
theorem r99_143 {E : Nat → Value} {d : Nat} {st : List Value} {h : gm_H} {r : gm_R × gm_H} {a1 a2 a3 a4 a5 a6 : Value} {x : Nat} : gm_Go E d 99 143 [.ref x, a1, a2, a3, a4, a5, a6] st h r ↔ gm_Go E d 99 144 [.ref x, a1, a2, a3, a4, a5, a6] (.ref x :: st) h r := gr_loc m99 f99_143 rfl rfl
theorem r99_143n {E : Nat → Value} {d : Nat} {st : List Value} {h : gm_H} {r : gm_R × gm_H} {a1 a2 a3 a4 a5 a6 : Value}  : gm_Go E d 99 143 [.null, a1, a2, a3, a4, a5, a6] st h r ↔ gm_Go E d 99 144 [.null, a1, a2, a3, a4, a5, a6] (.null :: st) h r := gr_loc m99 f99_143 rfl rfl
theorem f99_144 : gm_ft 99 144 = some (.bipush (-5), 2) := by decide +kernel
theorem r99_144 {E : Nat → Value} {d : Nat} {st : List Value} {h : gm_H} {r : gm_R × gm_H} {lv : List Value} : gm_Go E d 99 144 lv st h r ↔ gm_Go E d 99 146 lv (.int (-5 : Int32) :: st) h r := gr_pure m99 f99_144 rfl
theorem f99_146 : gm_ft 99 146 = some (.invokevirtual 160, 3) := by decide +kernel
theorem n99_146 {st : List Value} {h : gm_H} {E : Nat → Value} {lv : List Value} {b0 : Value} {a : Nat} (hs : (st.map fun v => v.category).sum ≤ 8) (he : (gm_en1 [.ref a, b0]).length ≤ 2) {vs : List Value} (hr : gm_rd h a = some (0, vs)) : gm_next E 99 146 lv (b0 :: .ref a :: st) h = some (.inr (.inl (0, 66, [.ref a, b0], st))) := gn_call m99 f99_146 rfl rfl rfl rfl rfl rfl rfl (gc_virt (bs := [b0]) (w := 206) rfl rfl rfl rfl hs he hr) (by decide)
theorem f99_149 : gm_ft 99 149 = some (.pop, 1) := by decide +kernel
theorem r99_149 {E : Nat → Value} {d : Nat} {st : List Value} {h : gm_H} {r : gm_R × gm_H} {lv : List Value} {x : Int32} : gm_Go E d 99 149 lv (.int x :: st) h r ↔ gm_Go E d 99 150 lv st h r := gr_pure m99 f99_149 rfl
theorem r99_149a {E : Nat → Value} {d : Nat} {st : List Value} {h : gm_H} {r : gm_R × gm_H} {lv : List Value} {a : Nat} : gm_Go E d 99 149 lv (.ref a :: st) h r ↔ gm_Go E d 99 150 lv st h r := gr_pure m99 f99_149 rfl
theorem r99_149n {E : Nat → Value} {d : Nat} {st : List Value} {h : gm_H} {r : gm_R × gm_H} {lv : List Value} : gm_Go E d 99 149 lv (.null :: st) h r ↔ gm_Go E d 99 150 lv st h r := gr_pure m99 f99_149 rfl
theorem f99_150 : gm_ft 99 150 = some (.return_, 1) := by decide +kernel
theorem r99_150 {E : Nat → Value} {d : Nat} {h : gm_H} {r : gm_R × gm_H} {lv : List Value} : gm_Go E d 99 150 lv [] h r ↔ r = (.inl none, h) := gr_ret m99 f99_150 rfl rfl rfl rfl rfl rfl rfl rfl rfl
/-! GraphReader.isText(I)Z -/
theorem m100 : gm_mt[100]? = some (⟨"GraphReader", "isText", "(I)Z"⟩, prog_1_method_50_code, 2, (some .boolean), [], 0, 1) := rfl
theorem f100_0 : gm_ft 100 0 = some (.aload_n 0, 1) := by decide +kernel
theorem r100_0 {E : Nat → Value} {d : Nat} {st : List Value} {h : gm_H} {r : gm_R × gm_H} {a1 : Value} {x : Nat} : gm_Go E d 100 0 [.ref x, a1] st h r ↔ gm_Go E d 100 1 [.ref x, a1] (.ref x :: st) h r := gr_loc m100 f100_0 rfl rfl
theorem r100_0n {E : Nat → Value} {d : Nat} {st : List Value} {h : gm_H} {r : gm_R × gm_H} {a1 : Value}  : gm_Go E d 100 0 [.null, a1] st h r ↔ gm_Go E d 100 1 [.null, a1] (.null :: st) h r := gr_loc m100 f100_0 rfl rfl
theorem f100_1 : gm_ft 100 1 = some (.iload_n 1, 1) := by decide +kernel
theorem r100_1 {E : Nat → Value} {d : Nat} {st : List Value} {h : gm_H} {r : gm_R × gm_H} {a0 : Value} {x : Int32} : gm_Go E d 100 1 [a0, .int x] st h r ↔ gm_Go E d 100 2 [a0, .int x] (.int x :: st) h r := gr_loc m100 f100_1 rfl rfl
theorem f100_2 : gm_ft 100 2 = some (.invokevirtual 131, 3) := by decide +kernel
theorem n100_2 {st : List Value} {h : gm_H} {E : Nat → Value} {lv : List Value} {b0 : Value} {a : Nat} (hs : (st.map fun v => v.category).sum ≤ 8) (he : (gm_en1 [.ref a, b0]).length ≤ 2) {vs : List Value} (hr : gm_rd h a = some (0, vs)) : gm_next E 100 2 lv (b0 :: .ref a :: st) h = some (.inr (.inl (0, 65, [.ref a, b0], st))) := gn_call m100 f100_2 rfl rfl rfl rfl rfl rfl rfl (gc_virt (bs := [b0]) (w := 468) rfl rfl rfl rfl hs he hr) (by decide)
theorem f100_5 : gm_ft 100 5 = some (.ifCond .eq 20, 3) := by decide +kernel
theorem r100_5 {E : Nat → Value} {d : Nat} {st : List Value} {h : gm_H} {r : gm_R × gm_H} {lv : List Value} {x : Int32} : gm_Go E d 100 5 lv (.int x :: st) h r ↔ (if x = 0 then gm_Go E d 100 25 lv st h r else gm_Go E d 100 8 lv st h r) := (gr_br m100 f100_5 rfl rfl rfl rfl).trans gr_if
theorem f100_8 : gm_ft 100 8 = some (.aload_n 0, 1) := by decide +kernel
theorem r100_8 {E : Nat → Value} {d : Nat} {st : List Value} {h : gm_H} {r : gm_R × gm_H} {a1 : Value} {x : Nat} : gm_Go E d 100 8 [.ref x, a1] st h r ↔ gm_Go E d 100 9 [.ref x, a1] (.ref x :: st) h r := gr_loc m100 f100_8 rfl rfl
theorem r100_8n {E : Nat → Value} {d : Nat} {st : List Value} {h : gm_H} {r : gm_R × gm_H} {a1 : Value}  : gm_Go E d 100 8 [.null, a1] st h r ↔ gm_Go E d 100 9 [.null, a1] (.null :: st) h r := gr_loc m100 f100_8 rfl rfl
theorem f100_9 : gm_ft 100 9 = some (.getfield 21, 3) := by decide +kernel
theorem r100_9 {E : Nat → Value} {d : Nat} {st : List Value} {h : gm_H} {r : gm_R × gm_H} {lv : List Value} {a : Nat} {vs : List Value} {v : Value} (hr : gm_rd h a = some (0, vs)) (hv : vs[8]? = some v) : gm_Go E d 100 9 lv (.ref a :: st) h r ↔ gm_Go E d 100 12 lv (v :: st) h r := gr_rd m100 f100_9 rfl rfl rfl rfl (gf_get k0_21 hr hv)
theorem f100_12 : gm_ft 100 12 = some (.iload_n 1, 1) := by decide +kernel
theorem r100_12 {E : Nat → Value} {d : Nat} {st : List Value} {h : gm_H} {r : gm_R × gm_H} {a0 : Value} {x : Int32} : gm_Go E d 100 12 [a0, .int x] st h r ↔ gm_Go E d 100 13 [a0, .int x] (.int x :: st) h r := gr_loc m100 f100_12 rfl rfl
theorem f100_13 : gm_ft 100 13 = some (.aaload, 1) := by decide +kernel
theorem r100_13 {E : Nat → Value} {d : Nat} {st : List Value} {h : gm_H} {r : gm_R × gm_H} {lv : List Value} {a k j : Nat} {vs : List Value} {v : Value} (hr : gm_rd h a = some (k, vs)) (hk : 100 ≤ k ∧ (fun t => t == 10 || t == 11 || t == 12) (k % 100) = true) (hj : j < 2 ^ 31) (hv : vs[j]? = some v) : gm_Go E d 100 13 lv (.int (nI j) :: .ref a :: st) h r ↔ gm_Go E d 100 14 lv (v :: st) h r := gr_rd m100 f100_13 rfl rfl rfl rfl (ga_ld (P := fun t => t == 10 || t == 11 || t == 12) hr hk hj hv)
theorem f100_14 : gm_ft 100 14 = some (.getfield 134, 3) := by decide +kernel
theorem r100_14 {E : Nat → Value} {d : Nat} {st : List Value} {h : gm_H} {r : gm_R × gm_H} {lv : List Value} {a : Nat} {vs : List Value} {v : Value} (hr : gm_rd h a = some (4, vs)) (hv : vs[0]? = some v) : gm_Go E d 100 14 lv (.ref a :: st) h r ↔ gm_Go E d 100 17 lv (v :: st) h r := gr_rd m100 f100_14 rfl rfl rfl rfl (gf_get k0_134 hr hv)
theorem f100_17 : gm_ft 100 17 = some (.iconst 1, 1) := by decide +kernel
theorem r100_17 {E : Nat → Value} {d : Nat} {st : List Value} {h : gm_H} {r : gm_R × gm_H} {lv : List Value} : gm_Go E d 100 17 lv st h r ↔ gm_Go E d 100 18 lv (.int (1 : Int32) :: st) h r := gr_pure m100 f100_17 rfl
theorem f100_18 : gm_ft 100 18 = some (.if_icmp .ne 7, 3) := by decide +kernel
theorem r100_18 {E : Nat → Value} {d : Nat} {st : List Value} {h : gm_H} {r : gm_R × gm_H} {lv : List Value} {x y : Int32} : gm_Go E d 100 18 lv (.int y :: .int x :: st) h r ↔ (if x = y then gm_Go E d 100 21 lv st h r else gm_Go E d 100 25 lv st h r) := (gr_br m100 f100_18 rfl rfl rfl rfl).trans gr_ifn
theorem f100_21 : gm_ft 100 21 = some (.iconst 1, 1) := by decide +kernel
theorem r100_21 {E : Nat → Value} {d : Nat} {st : List Value} {h : gm_H} {r : gm_R × gm_H} {lv : List Value} : gm_Go E d 100 21 lv st h r ↔ gm_Go E d 100 22 lv (.int (1 : Int32) :: st) h r := gr_pure m100 f100_21 rfl
theorem f100_22 : gm_ft 100 22 = some (.goto 4, 3) := by decide +kernel
theorem r100_22 {E : Nat → Value} {d : Nat} {st : List Value} {h : gm_H} {r : gm_R × gm_H} {lv : List Value} : gm_Go E d 100 22 lv st h r ↔ gm_Go E d 100 26 lv st h r := gr_brT m100 f100_22 rfl rfl rfl rfl
theorem f100_25 : gm_ft 100 25 = some (.iconst 0, 1) := by decide +kernel
theorem r100_25 {E : Nat → Value} {d : Nat} {st : List Value} {h : gm_H} {r : gm_R × gm_H} {lv : List Value} : gm_Go E d 100 25 lv st h r ↔ gm_Go E d 100 26 lv (.int (0 : Int32) :: st) h r := gr_pure m100 f100_25 rfl
theorem f100_26 : gm_ft 100 26 = some (.ireturn, 1) := by decide +kernel
theorem r100_26_0 {E : Nat → Value} {d : Nat} {h : gm_H} {r : gm_R × gm_H} {lv : List Value} : gm_Go E d 100 26 lv [.int (0 : Int32)] h r ↔ r = (.inl (some (.int (0 : Int32))), h) := gr_ret m100 f100_26 rfl rfl rfl rfl rfl rfl rfl rfl (by unfold gm_rt; dsimp only; rw [if_pos ⟨rfl, rfl⟩])
theorem r100_26_1 {E : Nat → Value} {d : Nat} {h : gm_H} {r : gm_R × gm_H} {lv : List Value} : gm_Go E d 100 26 lv [.int (1 : Int32)] h r ↔ r = (.inl (some (.int (1 : Int32))), h) := gr_ret m100 f100_26 rfl rfl rfl rfl rfl rfl rfl rfl (by unfold gm_rt; dsimp only; rw [if_pos ⟨rfl, rfl⟩])
/-! GraphReader.matchLocalClass(LGraphReader$Descriptor;)V -/
theorem m101 : gm_mt[101]? = some (⟨"GraphReader", "matchLocalClass", "(LGraphReader$Descriptor;)V"⟩, prog_1_method_51_code, 2, none, [], 0, 1) := rfl
theorem f101_0 : gm_ft 101 0 = some (.aload_n 1, 1) := by decide +kernel
theorem r101_0 {E : Nat → Value} {d : Nat} {st : List Value} {h : gm_H} {r : gm_R × gm_H} {a0 : Value} {x : Nat} : gm_Go E d 101 0 [a0, .ref x] st h r ↔ gm_Go E d 101 1 [a0, .ref x] (.ref x :: st) h r := gr_loc m101 f101_0 rfl rfl
theorem r101_0n {E : Nat → Value} {d : Nat} {st : List Value} {h : gm_H} {r : gm_R × gm_H} {a0 : Value}  : gm_Go E d 101 0 [a0, .null] st h r ↔ gm_Go E d 101 1 [a0, .null] (.null :: st) h r := gr_loc m101 f101_0 rfl rfl
theorem f101_1 : gm_ft 101 1 = some (.iconst 4, 1) := by decide +kernel
theorem r101_1 {E : Nat → Value} {d : Nat} {st : List Value} {h : gm_H} {r : gm_R × gm_H} {lv : List Value} : gm_Go E d 101 1 lv st h r ↔ gm_Go E d 101 2 lv (.int (4 : Int32) :: st) h r := gr_pure m101 f101_1 rfl
theorem f101_2 : gm_ft 101 2 = some (.invokevirtual 309, 3) := by decide +kernel
theorem n101_2 {st : List Value} {h : gm_H} {E : Nat → Value} {lv : List Value} {b0 : Value} {a : Nat} (hs : (st.map fun v => v.category).sum ≤ 8) (he : (gm_en1 [.ref a, b0]).length ≤ 2) {vs : List Value} (hr : gm_rd h a = some (1, vs)) : gm_next E 101 2 lv (b0 :: .ref a :: st) h = some (.inr (.inl (0, 103, [.ref a, b0], st))) := gn_call m101 f101_2 rfl rfl rfl rfl rfl rfl rfl (gc_virt (bs := [b0]) (w := 360) rfl rfl rfl rfl hs he hr) (by decide)
theorem f101_5 : gm_ft 101 5 = some (.ifCond .eq 10, 3) := by decide +kernel
theorem r101_5 {E : Nat → Value} {d : Nat} {st : List Value} {h : gm_H} {r : gm_R × gm_H} {lv : List Value} {x : Int32} : gm_Go E d 101 5 lv (.int x :: st) h r ↔ (if x = 0 then gm_Go E d 101 15 lv st h r else gm_Go E d 101 8 lv st h r) := (gr_br m101 f101_5 rfl rfl rfl rfl).trans gr_if
theorem f101_8 : gm_ft 101 8 = some (.aload_n 0, 1) := by decide +kernel
theorem r101_8 {E : Nat → Value} {d : Nat} {st : List Value} {h : gm_H} {r : gm_R × gm_H} {a1 : Value} {x : Nat} : gm_Go E d 101 8 [.ref x, a1] st h r ↔ gm_Go E d 101 9 [.ref x, a1] (.ref x :: st) h r := gr_loc m101 f101_8 rfl rfl
theorem r101_8n {E : Nat → Value} {d : Nat} {st : List Value} {h : gm_H} {r : gm_R × gm_H} {a1 : Value}  : gm_Go E d 101 8 [.null, a1] st h r ↔ gm_Go E d 101 9 [.null, a1] (.null :: st) h r := gr_loc m101 f101_8 rfl rfl
theorem f101_9 : gm_ft 101 9 = some (.bipush (-5), 2) := by decide +kernel
theorem r101_9 {E : Nat → Value} {d : Nat} {st : List Value} {h : gm_H} {r : gm_R × gm_H} {lv : List Value} : gm_Go E d 101 9 lv st h r ↔ gm_Go E d 101 11 lv (.int (-5 : Int32) :: st) h r := gr_pure m101 f101_9 rfl
theorem f101_11 : gm_ft 101 11 = some (.invokevirtual 160, 3) := by decide +kernel
theorem n101_11 {st : List Value} {h : gm_H} {E : Nat → Value} {lv : List Value} {b0 : Value} {a : Nat} (hs : (st.map fun v => v.category).sum ≤ 8) (he : (gm_en1 [.ref a, b0]).length ≤ 2) {vs : List Value} (hr : gm_rd h a = some (0, vs)) : gm_next E 101 11 lv (b0 :: .ref a :: st) h = some (.inr (.inl (0, 66, [.ref a, b0], st))) := gn_call m101 f101_11 rfl rfl rfl rfl rfl rfl rfl (gc_virt (bs := [b0]) (w := 206) rfl rfl rfl rfl hs he hr) (by decide)
theorem f101_14 : gm_ft 101 14 = some (.pop, 1) := by decide +kernel
theorem r101_14 {E : Nat → Value} {d : Nat} {st : List Value} {h : gm_H} {r : gm_R × gm_H} {lv : List Value} {x : Int32} : gm_Go E d 101 14 lv (.int x :: st) h r ↔ gm_Go E d 101 15 lv st h r := gr_pure m101 f101_14 rfl
theorem r101_14a {E : Nat → Value} {d : Nat} {st : List Value} {h : gm_H} {r : gm_R × gm_H} {lv : List Value} {a : Nat} : gm_Go E d 101 14 lv (.ref a :: st) h r ↔ gm_Go E d 101 15 lv st h r := gr_pure m101 f101_14 rfl
theorem r101_14n {E : Nat → Value} {d : Nat} {st : List Value} {h : gm_H} {r : gm_R × gm_H} {lv : List Value} : gm_Go E d 101 14 lv (.null :: st) h r ↔ gm_Go E d 101 15 lv st h r := gr_pure m101 f101_14 rfl
theorem f101_15 : gm_ft 101 15 = some (.aload_n 1, 1) := by decide +kernel
theorem r101_15 {E : Nat → Value} {d : Nat} {st : List Value} {h : gm_H} {r : gm_R × gm_H} {a0 : Value} {x : Nat} : gm_Go E d 101 15 [a0, .ref x] st h r ↔ gm_Go E d 101 16 [a0, .ref x] (.ref x :: st) h r := gr_loc m101 f101_15 rfl rfl
theorem r101_15n {E : Nat → Value} {d : Nat} {st : List Value} {h : gm_H} {r : gm_R × gm_H} {a0 : Value}  : gm_Go E d 101 15 [a0, .null] st h r ↔ gm_Go E d 101 16 [a0, .null] (.null :: st) h r := gr_loc m101 f101_15 rfl rfl
theorem f101_16 : gm_ft 101 16 = some (.aload_n 0, 1) := by decide +kernel
theorem r101_16 {E : Nat → Value} {d : Nat} {st : List Value} {h : gm_H} {r : gm_R × gm_H} {a1 : Value} {x : Nat} : gm_Go E d 101 16 [.ref x, a1] st h r ↔ gm_Go E d 101 17 [.ref x, a1] (.ref x :: st) h r := gr_loc m101 f101_16 rfl rfl
theorem r101_16n {E : Nat → Value} {d : Nat} {st : List Value} {h : gm_H} {r : gm_R × gm_H} {a1 : Value}  : gm_Go E d 101 16 [.null, a1] st h r ↔ gm_Go E d 101 17 [.null, a1] (.null :: st) h r := gr_loc m101 f101_16 rfl rfl
theorem f101_17 : gm_ft 101 17 = some (.aload_n 0, 1) := by decide +kernel
theorem r101_17 {E : Nat → Value} {d : Nat} {st : List Value} {h : gm_H} {r : gm_R × gm_H} {a1 : Value} {x : Nat} : gm_Go E d 101 17 [.ref x, a1] st h r ↔ gm_Go E d 101 18 [.ref x, a1] (.ref x :: st) h r := gr_loc m101 f101_17 rfl rfl
theorem r101_17n {E : Nat → Value} {d : Nat} {st : List Value} {h : gm_H} {r : gm_R × gm_H} {a1 : Value}  : gm_Go E d 101 17 [.null, a1] st h r ↔ gm_Go E d 101 18 [.null, a1] (.null :: st) h r := gr_loc m101 f101_17 rfl rfl
theorem f101_18 : gm_ft 101 18 = some (.aload_n 1, 1) := by decide +kernel
theorem r101_18 {E : Nat → Value} {d : Nat} {st : List Value} {h : gm_H} {r : gm_R × gm_H} {a0 : Value} {x : Nat} : gm_Go E d 101 18 [a0, .ref x] st h r ↔ gm_Go E d 101 19 [a0, .ref x] (.ref x :: st) h r := gr_loc m101 f101_18 rfl rfl
theorem r101_18n {E : Nat → Value} {d : Nat} {st : List Value} {h : gm_H} {r : gm_R × gm_H} {a0 : Value}  : gm_Go E d 101 18 [a0, .null] st h r ↔ gm_Go E d 101 19 [a0, .null] (.null :: st) h r := gr_loc m101 f101_18 rfl rfl
theorem f101_19 : gm_ft 101 19 = some (.getfield 239, 3) := by decide +kernel
theorem r101_19 {E : Nat → Value} {d : Nat} {st : List Value} {h : gm_H} {r : gm_R × gm_H} {lv : List Value} {a : Nat} {vs : List Value} {v : Value} (hr : gm_rd h a = some (1, vs)) (hv : vs[0]? = some v) : gm_Go E d 101 19 lv (.ref a :: st) h r ↔ gm_Go E d 101 22 lv (v :: st) h r := gr_rd m101 f101_19 rfl rfl rfl rfl (gf_get k0_239 hr hv)
theorem f101_22 : gm_ft 101 22 = some (.aload_n 1, 1) := by decide +kernel
theorem r101_22 {E : Nat → Value} {d : Nat} {st : List Value} {h : gm_H} {r : gm_R × gm_H} {a0 : Value} {x : Nat} : gm_Go E d 101 22 [a0, .ref x] st h r ↔ gm_Go E d 101 23 [a0, .ref x] (.ref x :: st) h r := gr_loc m101 f101_22 rfl rfl
theorem r101_22n {E : Nat → Value} {d : Nat} {st : List Value} {h : gm_H} {r : gm_R × gm_H} {a0 : Value}  : gm_Go E d 101 22 [a0, .null] st h r ↔ gm_Go E d 101 23 [a0, .null] (.null :: st) h r := gr_loc m101 f101_22 rfl rfl
theorem f101_23 : gm_ft 101 23 = some (.getfield 242, 3) := by decide +kernel
theorem r101_23 {E : Nat → Value} {d : Nat} {st : List Value} {h : gm_H} {r : gm_R × gm_H} {lv : List Value} {a : Nat} {vs : List Value} {v : Value} (hr : gm_rd h a = some (1, vs)) (hv : vs[1]? = some v) : gm_Go E d 101 23 lv (.ref a :: st) h r ↔ gm_Go E d 101 26 lv (v :: st) h r := gr_rd m101 f101_23 rfl rfl rfl rfl (gf_get k0_242 hr hv)
theorem f101_26 : gm_ft 101 26 = some (.bipush 65, 2) := by decide +kernel
theorem r101_26 {E : Nat → Value} {d : Nat} {st : List Value} {h : gm_H} {r : gm_R × gm_H} {lv : List Value} : gm_Go E d 101 26 lv st h r ↔ gm_Go E d 101 28 lv (.int (65 : Int32) :: st) h r := gr_pure m101 f101_26 rfl
theorem f101_28 : gm_ft 101 28 = some (.bipush 6, 2) := by decide +kernel
theorem r101_28 {E : Nat → Value} {d : Nat} {st : List Value} {h : gm_H} {r : gm_R × gm_H} {lv : List Value} : gm_Go E d 101 28 lv st h r ↔ gm_Go E d 101 30 lv (.int (6 : Int32) :: st) h r := gr_pure m101 f101_28 rfl
theorem f101_30 : gm_ft 101 30 = some (.invokevirtual 356, 3) := by decide +kernel
theorem n101_30 {st : List Value} {h : gm_H} {E : Nat → Value} {lv : List Value} {b0 b1 b2 b3 : Value} {a : Nat} (hs : (st.map fun v => v.category).sum ≤ 8) (he : (gm_en1 [.ref a, b0, b1, b2, b3]).length ≤ 6) {vs : List Value} (hr : gm_rd h a = some (0, vs)) : gm_next E 101 30 lv (b3 :: b2 :: b1 :: b0 :: .ref a :: st) h = some (.inr (.inl (0, 73, [.ref a, b0, b1, b2, b3], st))) := gn_call m101 f101_30 rfl rfl rfl rfl rfl rfl rfl (gc_virt (bs := [b3, b2, b1, b0]) (w := 460) rfl rfl rfl rfl hs he hr) (by decide)
theorem f101_33 : gm_ft 101 33 = some (.invokevirtual 64, 3) := by decide +kernel
theorem n101_33 {st : List Value} {h : gm_H} {E : Nat → Value} {lv : List Value} {b0 : Value} {a : Nat} (hs : (st.map fun v => v.category).sum ≤ 8) (he : (gm_en1 [.ref a, b0]).length ≤ 2) {vs : List Value} (hr : gm_rd h a = some (0, vs)) : gm_next E 101 33 lv (b0 :: .ref a :: st) h = some (.inr (.inl (0, 64, [.ref a, b0], st))) := gn_call m101 f101_33 rfl rfl rfl rfl rfl rfl rfl (gc_virt (bs := [b0]) (w := 153) rfl rfl rfl rfl hs he hr) (by decide)
theorem f101_36 : gm_ft 101 36 = some (.putfield 188, 3) := by decide +kernel
theorem r101_36 {E : Nat → Value} {d : Nat} {st : List Value} {h : gm_H} {r : gm_R × gm_H} {lv : List Value} {a : Nat} {vs : List Value} {v : Value} (hr : gm_rd h a = some (1, vs)) (hk : 9 < vs.length) (hn : narrow (gm_ty 1 9) v = v ∧ fits (gm_ty 1 9) v = true) : gm_Go E d 101 36 lv (v :: .ref a :: st) h r ↔ gm_Go E d 101 39 lv st (gm_wr h a (1, vs.set 9 v)) r := gr_wr m101 f101_36 rfl rfl rfl rfl rfl (gf_put k0_188 hr (by decide) hk hn (by decide))
theorem f101_39 : gm_ft 101 39 = some (.aload_n 1, 1) := by decide +kernel
theorem r101_39 {E : Nat → Value} {d : Nat} {st : List Value} {h : gm_H} {r : gm_R × gm_H} {a0 : Value} {x : Nat} : gm_Go E d 101 39 [a0, .ref x] st h r ↔ gm_Go E d 101 40 [a0, .ref x] (.ref x :: st) h r := gr_loc m101 f101_39 rfl rfl
theorem r101_39n {E : Nat → Value} {d : Nat} {st : List Value} {h : gm_H} {r : gm_R × gm_H} {a0 : Value}  : gm_Go E d 101 39 [a0, .null] st h r ↔ gm_Go E d 101 40 [a0, .null] (.null :: st) h r := gr_loc m101 f101_39 rfl rfl
theorem f101_40 : gm_ft 101 40 = some (.getfield 188, 3) := by decide +kernel
theorem r101_40 {E : Nat → Value} {d : Nat} {st : List Value} {h : gm_H} {r : gm_R × gm_H} {lv : List Value} {a : Nat} {vs : List Value} {v : Value} (hr : gm_rd h a = some (1, vs)) (hv : vs[9]? = some v) : gm_Go E d 101 40 lv (.ref a :: st) h r ↔ gm_Go E d 101 43 lv (v :: st) h r := gr_rd m101 f101_40 rfl rfl rfl rfl (gf_get k0_188 hr hv)
theorem f101_43 : gm_ft 101 43 = some (.ifnull 21, 3) := by decide +kernel
theorem r101_43n {E : Nat → Value} {d : Nat} {st : List Value} {h : gm_H} {r : gm_R × gm_H} {lv : List Value} : gm_Go E d 101 43 lv (.null :: st) h r ↔ gm_Go E d 101 64 lv st h r := gr_brT m101 f101_43 rfl rfl rfl rfl
theorem r101_43 {E : Nat → Value} {d : Nat} {st : List Value} {h : gm_H} {r : gm_R × gm_H} {lv : List Value} {a : Nat} : gm_Go E d 101 43 lv (.ref a :: st) h r ↔ gm_Go E d 101 46 lv st h r := gr_brF m101 f101_43 rfl rfl rfl rfl
theorem f101_46 : gm_ft 101 46 = some (.aload_n 1, 1) := by decide +kernel
theorem r101_46 {E : Nat → Value} {d : Nat} {st : List Value} {h : gm_H} {r : gm_R × gm_H} {a0 : Value} {x : Nat} : gm_Go E d 101 46 [a0, .ref x] st h r ↔ gm_Go E d 101 47 [a0, .ref x] (.ref x :: st) h r := gr_loc m101 f101_46 rfl rfl
theorem r101_46n {E : Nat → Value} {d : Nat} {st : List Value} {h : gm_H} {r : gm_R × gm_H} {a0 : Value}  : gm_Go E d 101 46 [a0, .null] st h r ↔ gm_Go E d 101 47 [a0, .null] (.null :: st) h r := gr_loc m101 f101_46 rfl rfl
theorem f101_47 : gm_ft 101 47 = some (.aload_n 1, 1) := by decide +kernel
theorem r101_47 {E : Nat → Value} {d : Nat} {st : List Value} {h : gm_H} {r : gm_R × gm_H} {a0 : Value} {x : Nat} : gm_Go E d 101 47 [a0, .ref x] st h r ↔ gm_Go E d 101 48 [a0, .ref x] (.ref x :: st) h r := gr_loc m101 f101_47 rfl rfl
theorem r101_47n {E : Nat → Value} {d : Nat} {st : List Value} {h : gm_H} {r : gm_R × gm_H} {a0 : Value}  : gm_Go E d 101 47 [a0, .null] st h r ↔ gm_Go E d 101 48 [a0, .null] (.null :: st) h r := gr_loc m101 f101_47 rfl rfl
theorem f101_48 : gm_ft 101 48 = some (.getfield 188, 3) := by decide +kernel
theorem r101_48 {E : Nat → Value} {d : Nat} {st : List Value} {h : gm_H} {r : gm_R × gm_H} {lv : List Value} {a : Nat} {vs : List Value} {v : Value} (hr : gm_rd h a = some (1, vs)) (hv : vs[9]? = some v) : gm_Go E d 101 48 lv (.ref a :: st) h r ↔ gm_Go E d 101 51 lv (v :: st) h r := gr_rd m101 f101_48 rfl rfl rfl rfl (gf_get k0_188 hr hv)
theorem f101_51 : gm_ft 101 51 = some (.invokevirtual 363, 3) := by decide +kernel
theorem n101_51 {st : List Value} {h : gm_H} {E : Nat → Value} {lv : List Value} {b0 : Value} {a : Nat} (hs : (st.map fun v => v.category).sum ≤ 8) (he : (gm_en1 [.ref a, b0]).length ≤ 3) {vs : List Value} (hr : gm_rd h a = some (1, vs)) : gm_next E 101 51 lv (b0 :: .ref a :: st) h = some (.inr (.inl (0, 108, [.ref a, b0], st))) := gn_call m101 f101_51 rfl rfl rfl rfl rfl rfl rfl (gc_virt (bs := [b0]) (w := 491) rfl rfl rfl rfl hs he hr) (by decide)
theorem f101_54 : gm_ft 101 54 = some (.ifCond .ne 10, 3) := by decide +kernel
theorem r101_54 {E : Nat → Value} {d : Nat} {st : List Value} {h : gm_H} {r : gm_R × gm_H} {lv : List Value} {x : Int32} : gm_Go E d 101 54 lv (.int x :: st) h r ↔ (if x = 0 then gm_Go E d 101 57 lv st h r else gm_Go E d 101 64 lv st h r) := (gr_br m101 f101_54 rfl rfl rfl rfl).trans gr_ifn
theorem f101_57 : gm_ft 101 57 = some (.aload_n 0, 1) := by decide +kernel
theorem r101_57 {E : Nat → Value} {d : Nat} {st : List Value} {h : gm_H} {r : gm_R × gm_H} {a1 : Value} {x : Nat} : gm_Go E d 101 57 [.ref x, a1] st h r ↔ gm_Go E d 101 58 [.ref x, a1] (.ref x :: st) h r := gr_loc m101 f101_57 rfl rfl
theorem r101_57n {E : Nat → Value} {d : Nat} {st : List Value} {h : gm_H} {r : gm_R × gm_H} {a1 : Value}  : gm_Go E d 101 57 [.null, a1] st h r ↔ gm_Go E d 101 58 [.null, a1] (.null :: st) h r := gr_loc m101 f101_57 rfl rfl
theorem f101_58 : gm_ft 101 58 = some (.bipush (-5), 2) := by decide +kernel
theorem r101_58 {E : Nat → Value} {d : Nat} {st : List Value} {h : gm_H} {r : gm_R × gm_H} {lv : List Value} : gm_Go E d 101 58 lv st h r ↔ gm_Go E d 101 60 lv (.int (-5 : Int32) :: st) h r := gr_pure m101 f101_58 rfl
theorem f101_60 : gm_ft 101 60 = some (.invokevirtual 160, 3) := by decide +kernel
theorem n101_60 {st : List Value} {h : gm_H} {E : Nat → Value} {lv : List Value} {b0 : Value} {a : Nat} (hs : (st.map fun v => v.category).sum ≤ 8) (he : (gm_en1 [.ref a, b0]).length ≤ 2) {vs : List Value} (hr : gm_rd h a = some (0, vs)) : gm_next E 101 60 lv (b0 :: .ref a :: st) h = some (.inr (.inl (0, 66, [.ref a, b0], st))) := gn_call m101 f101_60 rfl rfl rfl rfl rfl rfl rfl (gc_virt (bs := [b0]) (w := 206) rfl rfl rfl rfl hs he hr) (by decide)
theorem f101_63 : gm_ft 101 63 = some (.pop, 1) := by decide +kernel
theorem r101_63 {E : Nat → Value} {d : Nat} {st : List Value} {h : gm_H} {r : gm_R × gm_H} {lv : List Value} {x : Int32} : gm_Go E d 101 63 lv (.int x :: st) h r ↔ gm_Go E d 101 64 lv st h r := gr_pure m101 f101_63 rfl
theorem r101_63a {E : Nat → Value} {d : Nat} {st : List Value} {h : gm_H} {r : gm_R × gm_H} {lv : List Value} {a : Nat} : gm_Go E d 101 63 lv (.ref a :: st) h r ↔ gm_Go E d 101 64 lv st h r := gr_pure m101 f101_63 rfl
theorem r101_63n {E : Nat → Value} {d : Nat} {st : List Value} {h : gm_H} {r : gm_R × gm_H} {lv : List Value} : gm_Go E d 101 63 lv (.null :: st) h r ↔ gm_Go E d 101 64 lv st h r := gr_pure m101 f101_63 rfl
theorem f101_64 : gm_ft 101 64 = some (.return_, 1) := by decide +kernel
theorem r101_64 {E : Nat → Value} {d : Nat} {h : gm_H} {r : gm_R × gm_H} {lv : List Value} : gm_Go E d 101 64 lv [] h r ↔ r = (.inl none, h) := gr_ret m101 f101_64 rfl rfl rfl rfl rfl rfl rfl rfl rfl
