/-! GraphReaderLaw.cell([II)I -/
theorem m88 : gm_mt[88]? = some (⟨"GraphReaderLaw", "cell", "([II)I"⟩, method_2_code, 2, (some .int), [], 7, 3) := rfl
theorem f88_0 : gm_ft 88 0 = some (.iload_n 1, 1) := by decide +kernel
theorem r88_0 {E : Nat → Value} {d : Nat} {st : List Value} {h : gm_H} {r : gm_R × gm_H} {a0 : Value} {x : Int32} : gm_Go E d 88 0 [a0, .int x] st h r ↔ gm_Go E d 88 1 [a0, .int x] (.int x :: st) h r := gr_loc m88 f88_0 rfl rfl
theorem f88_1 : gm_ft 88 1 = some (.aload_n 0, 1) := by decide +kernel
theorem r88_1 {E : Nat → Value} {d : Nat} {st : List Value} {h : gm_H} {r : gm_R × gm_H} {a1 : Value} {x : Nat} : gm_Go E d 88 1 [.ref x, a1] st h r ↔ gm_Go E d 88 2 [.ref x, a1] (.ref x :: st) h r := gr_loc m88 f88_1 rfl rfl
theorem r88_1n {E : Nat → Value} {d : Nat} {st : List Value} {h : gm_H} {r : gm_R × gm_H} {a1 : Value}  : gm_Go E d 88 1 [.null, a1] st h r ↔ gm_Go E d 88 2 [.null, a1] (.null :: st) h r := gr_loc m88 f88_1 rfl rfl
theorem f88_2 : gm_ft 88 2 = some (.arraylength, 1) := by decide +kernel
theorem r88_2 {E : Nat → Value} {d : Nat} {st : List Value} {h : gm_H} {r : gm_R × gm_H} {lv : List Value} {a k : Nat} {vs : List Value} (hr : gm_rd h a = some (k, vs)) (hk : 100 ≤ k) : gm_Go E d 88 2 lv (.ref a :: st) h r ↔ gm_Go E d 88 3 lv (.int (nI vs.length) :: st) h r := gr_rd m88 f88_2 rfl rfl rfl rfl (ga_len hr hk)
theorem f88_3 : gm_ft 88 3 = some (.if_icmp .ge 9, 3) := by decide +kernel
theorem r88_3 {E : Nat → Value} {d : Nat} {st : List Value} {h : gm_H} {r : gm_R × gm_H} {lv : List Value} {x y : Int32} : gm_Go E d 88 3 lv (.int y :: .int x :: st) h r ↔ (if y ≤ x then gm_Go E d 88 12 lv st h r else gm_Go E d 88 6 lv st h r) := (gr_br m88 f88_3 rfl rfl rfl rfl).trans gr_if
theorem f88_6 : gm_ft 88 6 = some (.aload_n 0, 1) := by decide +kernel
theorem r88_6 {E : Nat → Value} {d : Nat} {st : List Value} {h : gm_H} {r : gm_R × gm_H} {a1 : Value} {x : Nat} : gm_Go E d 88 6 [.ref x, a1] st h r ↔ gm_Go E d 88 7 [.ref x, a1] (.ref x :: st) h r := gr_loc m88 f88_6 rfl rfl
theorem r88_6n {E : Nat → Value} {d : Nat} {st : List Value} {h : gm_H} {r : gm_R × gm_H} {a1 : Value}  : gm_Go E d 88 6 [.null, a1] st h r ↔ gm_Go E d 88 7 [.null, a1] (.null :: st) h r := gr_loc m88 f88_6 rfl rfl
theorem f88_7 : gm_ft 88 7 = some (.iload_n 1, 1) := by decide +kernel
theorem r88_7 {E : Nat → Value} {d : Nat} {st : List Value} {h : gm_H} {r : gm_R × gm_H} {a0 : Value} {x : Int32} : gm_Go E d 88 7 [a0, .int x] st h r ↔ gm_Go E d 88 8 [a0, .int x] (.int x :: st) h r := gr_loc m88 f88_7 rfl rfl
theorem f88_8 : gm_ft 88 8 = some (.iaload, 1) := by decide +kernel
theorem r88_8 {E : Nat → Value} {d : Nat} {st : List Value} {h : gm_H} {r : gm_R × gm_H} {lv : List Value} {a k j : Nat} {vs : List Value} {v : Value} (hr : gm_rd h a = some (k, vs)) (hk : 100 ≤ k ∧ (fun t => t == 0) (k % 100) = true) (hj : j < 2 ^ 31) (hv : vs[j]? = some v) : gm_Go E d 88 8 lv (.int (nI j) :: .ref a :: st) h r ↔ gm_Go E d 88 9 lv (v :: st) h r := gr_rd m88 f88_8 rfl rfl rfl rfl (ga_ld (P := fun t => t == 0) hr hk hj hv)
theorem f88_9 : gm_ft 88 9 = some (.goto 4, 3) := by decide +kernel
theorem r88_9 {E : Nat → Value} {d : Nat} {st : List Value} {h : gm_H} {r : gm_R × gm_H} {lv : List Value} : gm_Go E d 88 9 lv st h r ↔ gm_Go E d 88 13 lv st h r := gr_brT m88 f88_9 rfl rfl rfl rfl
theorem f88_12 : gm_ft 88 12 = some (.iconst 0, 1) := by decide +kernel
theorem r88_12 {E : Nat → Value} {d : Nat} {st : List Value} {h : gm_H} {r : gm_R × gm_H} {lv : List Value} : gm_Go E d 88 12 lv st h r ↔ gm_Go E d 88 13 lv (.int (0 : Int32) :: st) h r := gr_pure m88 f88_12 rfl
theorem f88_13 : gm_ft 88 13 = some (.ireturn, 1) := by decide +kernel
theorem r88_13 {E : Nat → Value} {d : Nat} {h : gm_H} {r : gm_R × gm_H} {lv : List Value} {x : Int32} : gm_Go E d 88 13 lv [.int x] h r ↔ r = (.inl (some (.int x)), h) := gr_ret m88 f88_13 rfl rfl rfl rfl rfl rfl rfl rfl (by unfold gm_rt; dsimp only; rw [if_pos ⟨rfl, rfl⟩])
/-! GraphReaderModel.<init>(IIII)V -/
theorem m89 : gm_mt[89]? = some (⟨"GraphReaderModel", "<init>", "(IIII)V"⟩, prog_7_method_1_code, 6, none, [], 5, 2) := rfl
theorem f89_0 : gm_ft 89 0 = some (.aload_n 0, 1) := by decide +kernel
theorem r89_0 {E : Nat → Value} {d : Nat} {st : List Value} {h : gm_H} {r : gm_R × gm_H} {a1 a2 a3 a4 a5 : Value} {x : Nat} : gm_Go E d 89 0 [.ref x, a1, a2, a3, a4, a5] st h r ↔ gm_Go E d 89 1 [.ref x, a1, a2, a3, a4, a5] (.ref x :: st) h r := gr_loc m89 f89_0 rfl rfl
theorem r89_0n {E : Nat → Value} {d : Nat} {st : List Value} {h : gm_H} {r : gm_R × gm_H} {a1 a2 a3 a4 a5 : Value}  : gm_Go E d 89 0 [.null, a1, a2, a3, a4, a5] st h r ↔ gm_Go E d 89 1 [.null, a1, a2, a3, a4, a5] (.null :: st) h r := gr_loc m89 f89_0 rfl rfl
theorem f89_1 : gm_ft 89 1 = some (.invokespecial 1, 3) := by decide +kernel
theorem r89_1 {E : Nat → Value} {d : Nat} {st : List Value} {h : gm_H} {r : gm_R × gm_H} {lv : List Value} {a : Nat} (hs : (st.map fun v => v.category).sum ≤ 8) : gm_Go E d 89 1 lv (.ref a :: st) h r ↔ gm_Go E d 89 4 lv st h r := gr_oi m89 f89_1 rfl rfl rfl rfl rfl rfl rfl (gc_spec (w := 665) rfl hs (by decide))
theorem f89_4 : gm_ft 89 4 = some (.aload_n 0, 1) := by decide +kernel
theorem r89_4 {E : Nat → Value} {d : Nat} {st : List Value} {h : gm_H} {r : gm_R × gm_H} {a1 a2 a3 a4 a5 : Value} {x : Nat} : gm_Go E d 89 4 [.ref x, a1, a2, a3, a4, a5] st h r ↔ gm_Go E d 89 5 [.ref x, a1, a2, a3, a4, a5] (.ref x :: st) h r := gr_loc m89 f89_4 rfl rfl
theorem r89_4n {E : Nat → Value} {d : Nat} {st : List Value} {h : gm_H} {r : gm_R × gm_H} {a1 a2 a3 a4 a5 : Value}  : gm_Go E d 89 4 [.null, a1, a2, a3, a4, a5] st h r ↔ gm_Go E d 89 5 [.null, a1, a2, a3, a4, a5] (.null :: st) h r := gr_loc m89 f89_4 rfl rfl
theorem f89_5 : gm_ft 89 5 = some (.sipush 720, 3) := by decide +kernel
theorem r89_5 {E : Nat → Value} {d : Nat} {st : List Value} {h : gm_H} {r : gm_R × gm_H} {lv : List Value} : gm_Go E d 89 5 lv st h r ↔ gm_Go E d 89 8 lv (.int (720 : Int32) :: st) h r := gr_pure m89 f89_5 rfl
theorem f89_8 : gm_ft 89 8 = some (.newarray .int, 2) := by decide +kernel
theorem f89_10 : gm_ft 89 10 = some (.putfield 7, 3) := by decide +kernel
theorem r89_10 {E : Nat → Value} {d : Nat} {st : List Value} {h : gm_H} {r : gm_R × gm_H} {lv : List Value} {a : Nat} {vs : List Value} {v : Value} (hr : gm_rd h a = some (5, vs)) (hk : 4 < vs.length) (hn : narrow (gm_ty 5 4) v = v ∧ fits (gm_ty 5 4) v = true) : gm_Go E d 89 10 lv (v :: .ref a :: st) h r ↔ gm_Go E d 89 13 lv st (gm_wr h a (5, vs.set 4 v)) r := gr_wr m89 f89_10 rfl rfl rfl rfl rfl (gf_put k5_7 hr (by decide) hk hn (by decide))
theorem f89_13 : gm_ft 89 13 = some (.aload_n 0, 1) := by decide +kernel
theorem r89_13 {E : Nat → Value} {d : Nat} {st : List Value} {h : gm_H} {r : gm_R × gm_H} {a1 a2 a3 a4 a5 : Value} {x : Nat} : gm_Go E d 89 13 [.ref x, a1, a2, a3, a4, a5] st h r ↔ gm_Go E d 89 14 [.ref x, a1, a2, a3, a4, a5] (.ref x :: st) h r := gr_loc m89 f89_13 rfl rfl
theorem r89_13n {E : Nat → Value} {d : Nat} {st : List Value} {h : gm_H} {r : gm_R × gm_H} {a1 a2 a3 a4 a5 : Value}  : gm_Go E d 89 13 [.null, a1, a2, a3, a4, a5] st h r ↔ gm_Go E d 89 14 [.null, a1, a2, a3, a4, a5] (.null :: st) h r := gr_loc m89 f89_13 rfl rfl
theorem f89_14 : gm_ft 89 14 = some (.bipush 6, 2) := by decide +kernel
theorem r89_14 {E : Nat → Value} {d : Nat} {st : List Value} {h : gm_H} {r : gm_R × gm_H} {lv : List Value} : gm_Go E d 89 14 lv st h r ↔ gm_Go E d 89 16 lv (.int (6 : Int32) :: st) h r := gr_pure m89 f89_14 rfl
theorem f89_16 : gm_ft 89 16 = some (.newarray .int, 2) := by decide +kernel
theorem f89_18 : gm_ft 89 18 = some (.putfield 13, 3) := by decide +kernel
theorem r89_18 {E : Nat → Value} {d : Nat} {st : List Value} {h : gm_H} {r : gm_R × gm_H} {lv : List Value} {a : Nat} {vs : List Value} {v : Value} (hr : gm_rd h a = some (5, vs)) (hk : 10 < vs.length) (hn : narrow (gm_ty 5 10) v = v ∧ fits (gm_ty 5 10) v = true) : gm_Go E d 89 18 lv (v :: .ref a :: st) h r ↔ gm_Go E d 89 21 lv st (gm_wr h a (5, vs.set 10 v)) r := gr_wr m89 f89_18 rfl rfl rfl rfl rfl (gf_put k5_13 hr (by decide) hk hn (by decide))
theorem f89_21 : gm_ft 89 21 = some (.aload_n 0, 1) := by decide +kernel
theorem r89_21 {E : Nat → Value} {d : Nat} {st : List Value} {h : gm_H} {r : gm_R × gm_H} {a1 a2 a3 a4 a5 : Value} {x : Nat} : gm_Go E d 89 21 [.ref x, a1, a2, a3, a4, a5] st h r ↔ gm_Go E d 89 22 [.ref x, a1, a2, a3, a4, a5] (.ref x :: st) h r := gr_loc m89 f89_21 rfl rfl
theorem r89_21n {E : Nat → Value} {d : Nat} {st : List Value} {h : gm_H} {r : gm_R × gm_H} {a1 a2 a3 a4 a5 : Value}  : gm_Go E d 89 21 [.null, a1, a2, a3, a4, a5] st h r ↔ gm_Go E d 89 22 [.null, a1, a2, a3, a4, a5] (.null :: st) h r := gr_loc m89 f89_21 rfl rfl
theorem f89_22 : gm_ft 89 22 = some (.bipush 6, 2) := by decide +kernel
theorem r89_22 {E : Nat → Value} {d : Nat} {st : List Value} {h : gm_H} {r : gm_R × gm_H} {lv : List Value} : gm_Go E d 89 22 lv st h r ↔ gm_Go E d 89 24 lv (.int (6 : Int32) :: st) h r := gr_pure m89 f89_22 rfl
theorem f89_24 : gm_ft 89 24 = some (.newarray .long, 2) := by decide +kernel
theorem f89_26 : gm_ft 89 26 = some (.putfield 16, 3) := by decide +kernel
theorem r89_26 {E : Nat → Value} {d : Nat} {st : List Value} {h : gm_H} {r : gm_R × gm_H} {lv : List Value} {a : Nat} {vs : List Value} {v : Value} (hr : gm_rd h a = some (5, vs)) (hk : 11 < vs.length) (hn : narrow (gm_ty 5 11) v = v ∧ fits (gm_ty 5 11) v = true) : gm_Go E d 89 26 lv (v :: .ref a :: st) h r ↔ gm_Go E d 89 29 lv st (gm_wr h a (5, vs.set 11 v)) r := gr_wr m89 f89_26 rfl rfl rfl rfl rfl (gf_put k5_16 hr (by decide) hk hn (by decide))
theorem f89_29 : gm_ft 89 29 = some (.aload_n 0, 1) := by decide +kernel
theorem r89_29 {E : Nat → Value} {d : Nat} {st : List Value} {h : gm_H} {r : gm_R × gm_H} {a1 a2 a3 a4 a5 : Value} {x : Nat} : gm_Go E d 89 29 [.ref x, a1, a2, a3, a4, a5] st h r ↔ gm_Go E d 89 30 [.ref x, a1, a2, a3, a4, a5] (.ref x :: st) h r := gr_loc m89 f89_29 rfl rfl
theorem r89_29n {E : Nat → Value} {d : Nat} {st : List Value} {h : gm_H} {r : gm_R × gm_H} {a1 a2 a3 a4 a5 : Value}  : gm_Go E d 89 29 [.null, a1, a2, a3, a4, a5] st h r ↔ gm_Go E d 89 30 [.null, a1, a2, a3, a4, a5] (.null :: st) h r := gr_loc m89 f89_29 rfl rfl
theorem f89_30 : gm_ft 89 30 = some (.bipush 6, 2) := by decide +kernel
theorem r89_30 {E : Nat → Value} {d : Nat} {st : List Value} {h : gm_H} {r : gm_R × gm_H} {lv : List Value} : gm_Go E d 89 30 lv st h r ↔ gm_Go E d 89 32 lv (.int (6 : Int32) :: st) h r := gr_pure m89 f89_30 rfl
theorem f89_32 : gm_ft 89 32 = some (.newarray .int, 2) := by decide +kernel
theorem f89_34 : gm_ft 89 34 = some (.putfield 20, 3) := by decide +kernel
theorem r89_34 {E : Nat → Value} {d : Nat} {st : List Value} {h : gm_H} {r : gm_R × gm_H} {lv : List Value} {a : Nat} {vs : List Value} {v : Value} (hr : gm_rd h a = some (5, vs)) (hk : 12 < vs.length) (hn : narrow (gm_ty 5 12) v = v ∧ fits (gm_ty 5 12) v = true) : gm_Go E d 89 34 lv (v :: .ref a :: st) h r ↔ gm_Go E d 89 37 lv st (gm_wr h a (5, vs.set 12 v)) r := gr_wr m89 f89_34 rfl rfl rfl rfl rfl (gf_put k5_20 hr (by decide) hk hn (by decide))
theorem f89_37 : gm_ft 89 37 = some (.aload_n 0, 1) := by decide +kernel
theorem r89_37 {E : Nat → Value} {d : Nat} {st : List Value} {h : gm_H} {r : gm_R × gm_H} {a1 a2 a3 a4 a5 : Value} {x : Nat} : gm_Go E d 89 37 [.ref x, a1, a2, a3, a4, a5] st h r ↔ gm_Go E d 89 38 [.ref x, a1, a2, a3, a4, a5] (.ref x :: st) h r := gr_loc m89 f89_37 rfl rfl
theorem r89_37n {E : Nat → Value} {d : Nat} {st : List Value} {h : gm_H} {r : gm_R × gm_H} {a1 a2 a3 a4 a5 : Value}  : gm_Go E d 89 37 [.null, a1, a2, a3, a4, a5] st h r ↔ gm_Go E d 89 38 [.null, a1, a2, a3, a4, a5] (.null :: st) h r := gr_loc m89 f89_37 rfl rfl
theorem f89_38 : gm_ft 89 38 = some (.bipush 6, 2) := by decide +kernel
theorem r89_38 {E : Nat → Value} {d : Nat} {st : List Value} {h : gm_H} {r : gm_R × gm_H} {lv : List Value} : gm_Go E d 89 38 lv st h r ↔ gm_Go E d 89 40 lv (.int (6 : Int32) :: st) h r := gr_pure m89 f89_38 rfl
theorem f89_40 : gm_ft 89 40 = some (.newarray .int, 2) := by decide +kernel
theorem f89_42 : gm_ft 89 42 = some (.putfield 23, 3) := by decide +kernel
theorem r89_42 {E : Nat → Value} {d : Nat} {st : List Value} {h : gm_H} {r : gm_R × gm_H} {lv : List Value} {a : Nat} {vs : List Value} {v : Value} (hr : gm_rd h a = some (5, vs)) (hk : 13 < vs.length) (hn : narrow (gm_ty 5 13) v = v ∧ fits (gm_ty 5 13) v = true) : gm_Go E d 89 42 lv (v :: .ref a :: st) h r ↔ gm_Go E d 89 45 lv st (gm_wr h a (5, vs.set 13 v)) r := gr_wr m89 f89_42 rfl rfl rfl rfl rfl (gf_put k5_23 hr (by decide) hk hn (by decide))
theorem f89_45 : gm_ft 89 45 = some (.aload_n 0, 1) := by decide +kernel
theorem r89_45 {E : Nat → Value} {d : Nat} {st : List Value} {h : gm_H} {r : gm_R × gm_H} {a1 a2 a3 a4 a5 : Value} {x : Nat} : gm_Go E d 89 45 [.ref x, a1, a2, a3, a4, a5] st h r ↔ gm_Go E d 89 46 [.ref x, a1, a2, a3, a4, a5] (.ref x :: st) h r := gr_loc m89 f89_45 rfl rfl
theorem r89_45n {E : Nat → Value} {d : Nat} {st : List Value} {h : gm_H} {r : gm_R × gm_H} {a1 a2 a3 a4 a5 : Value}  : gm_Go E d 89 45 [.null, a1, a2, a3, a4, a5] st h r ↔ gm_Go E d 89 46 [.null, a1, a2, a3, a4, a5] (.null :: st) h r := gr_loc m89 f89_45 rfl rfl
theorem f89_46 : gm_ft 89 46 = some (.bipush 24, 2) := by decide +kernel
theorem r89_46 {E : Nat → Value} {d : Nat} {st : List Value} {h : gm_H} {r : gm_R × gm_H} {lv : List Value} : gm_Go E d 89 46 lv st h r ↔ gm_Go E d 89 48 lv (.int (24 : Int32) :: st) h r := gr_pure m89 f89_46 rfl
theorem f89_48 : gm_ft 89 48 = some (.newarray .int, 2) := by decide +kernel
theorem f89_50 : gm_ft 89 50 = some (.putfield 26, 3) := by decide +kernel
theorem r89_50 {E : Nat → Value} {d : Nat} {st : List Value} {h : gm_H} {r : gm_R × gm_H} {lv : List Value} {a : Nat} {vs : List Value} {v : Value} (hr : gm_rd h a = some (5, vs)) (hk : 14 < vs.length) (hn : narrow (gm_ty 5 14) v = v ∧ fits (gm_ty 5 14) v = true) : gm_Go E d 89 50 lv (v :: .ref a :: st) h r ↔ gm_Go E d 89 53 lv st (gm_wr h a (5, vs.set 14 v)) r := gr_wr m89 f89_50 rfl rfl rfl rfl rfl (gf_put k5_26 hr (by decide) hk hn (by decide))
theorem f89_53 : gm_ft 89 53 = some (.aload_n 0, 1) := by decide +kernel
theorem r89_53 {E : Nat → Value} {d : Nat} {st : List Value} {h : gm_H} {r : gm_R × gm_H} {a1 a2 a3 a4 a5 : Value} {x : Nat} : gm_Go E d 89 53 [.ref x, a1, a2, a3, a4, a5] st h r ↔ gm_Go E d 89 54 [.ref x, a1, a2, a3, a4, a5] (.ref x :: st) h r := gr_loc m89 f89_53 rfl rfl
theorem r89_53n {E : Nat → Value} {d : Nat} {st : List Value} {h : gm_H} {r : gm_R × gm_H} {a1 a2 a3 a4 a5 : Value}  : gm_Go E d 89 53 [.null, a1, a2, a3, a4, a5] st h r ↔ gm_Go E d 89 54 [.null, a1, a2, a3, a4, a5] (.null :: st) h r := gr_loc m89 f89_53 rfl rfl
theorem f89_54 : gm_ft 89 54 = some (.bipush 24, 2) := by decide +kernel
theorem r89_54 {E : Nat → Value} {d : Nat} {st : List Value} {h : gm_H} {r : gm_R × gm_H} {lv : List Value} : gm_Go E d 89 54 lv st h r ↔ gm_Go E d 89 56 lv (.int (24 : Int32) :: st) h r := gr_pure m89 f89_54 rfl
theorem f89_56 : gm_ft 89 56 = some (.newarray .int, 2) := by decide +kernel
theorem f89_58 : gm_ft 89 58 = some (.putfield 29, 3) := by decide +kernel
theorem r89_58 {E : Nat → Value} {d : Nat} {st : List Value} {h : gm_H} {r : gm_R × gm_H} {lv : List Value} {a : Nat} {vs : List Value} {v : Value} (hr : gm_rd h a = some (5, vs)) (hk : 15 < vs.length) (hn : narrow (gm_ty 5 15) v = v ∧ fits (gm_ty 5 15) v = true) : gm_Go E d 89 58 lv (v :: .ref a :: st) h r ↔ gm_Go E d 89 61 lv st (gm_wr h a (5, vs.set 15 v)) r := gr_wr m89 f89_58 rfl rfl rfl rfl rfl (gf_put k5_29 hr (by decide) hk hn (by decide))
theorem f89_61 : gm_ft 89 61 = some (.aload_n 0, 1) := by decide +kernel
theorem r89_61 {E : Nat → Value} {d : Nat} {st : List Value} {h : gm_H} {r : gm_R × gm_H} {a1 a2 a3 a4 a5 : Value} {x : Nat} : gm_Go E d 89 61 [.ref x, a1, a2, a3, a4, a5] st h r ↔ gm_Go E d 89 62 [.ref x, a1, a2, a3, a4, a5] (.ref x :: st) h r := gr_loc m89 f89_61 rfl rfl
theorem r89_61n {E : Nat → Value} {d : Nat} {st : List Value} {h : gm_H} {r : gm_R × gm_H} {a1 a2 a3 a4 a5 : Value}  : gm_Go E d 89 61 [.null, a1, a2, a3, a4, a5] st h r ↔ gm_Go E d 89 62 [.null, a1, a2, a3, a4, a5] (.null :: st) h r := gr_loc m89 f89_61 rfl rfl
theorem f89_62 : gm_ft 89 62 = some (.bipush 6, 2) := by decide +kernel
theorem r89_62 {E : Nat → Value} {d : Nat} {st : List Value} {h : gm_H} {r : gm_R × gm_H} {lv : List Value} : gm_Go E d 89 62 lv st h r ↔ gm_Go E d 89 64 lv (.int (6 : Int32) :: st) h r := gr_pure m89 f89_62 rfl
theorem f89_64 : gm_ft 89 64 = some (.newarray .int, 2) := by decide +kernel
theorem f89_66 : gm_ft 89 66 = some (.putfield 32, 3) := by decide +kernel
theorem r89_66 {E : Nat → Value} {d : Nat} {st : List Value} {h : gm_H} {r : gm_R × gm_H} {lv : List Value} {a : Nat} {vs : List Value} {v : Value} (hr : gm_rd h a = some (5, vs)) (hk : 16 < vs.length) (hn : narrow (gm_ty 5 16) v = v ∧ fits (gm_ty 5 16) v = true) : gm_Go E d 89 66 lv (v :: .ref a :: st) h r ↔ gm_Go E d 89 69 lv st (gm_wr h a (5, vs.set 16 v)) r := gr_wr m89 f89_66 rfl rfl rfl rfl rfl (gf_put k5_32 hr (by decide) hk hn (by decide))
theorem f89_69 : gm_ft 89 69 = some (.aload_n 0, 1) := by decide +kernel
theorem r89_69 {E : Nat → Value} {d : Nat} {st : List Value} {h : gm_H} {r : gm_R × gm_H} {a1 a2 a3 a4 a5 : Value} {x : Nat} : gm_Go E d 89 69 [.ref x, a1, a2, a3, a4, a5] st h r ↔ gm_Go E d 89 70 [.ref x, a1, a2, a3, a4, a5] (.ref x :: st) h r := gr_loc m89 f89_69 rfl rfl
theorem r89_69n {E : Nat → Value} {d : Nat} {st : List Value} {h : gm_H} {r : gm_R × gm_H} {a1 a2 a3 a4 a5 : Value}  : gm_Go E d 89 69 [.null, a1, a2, a3, a4, a5] st h r ↔ gm_Go E d 89 70 [.null, a1, a2, a3, a4, a5] (.null :: st) h r := gr_loc m89 f89_69 rfl rfl
theorem f89_70 : gm_ft 89 70 = some (.bipush 6, 2) := by decide +kernel
theorem r89_70 {E : Nat → Value} {d : Nat} {st : List Value} {h : gm_H} {r : gm_R × gm_H} {lv : List Value} : gm_Go E d 89 70 lv st h r ↔ gm_Go E d 89 72 lv (.int (6 : Int32) :: st) h r := gr_pure m89 f89_70 rfl
theorem f89_72 : gm_ft 89 72 = some (.newarray .boolean, 2) := by decide +kernel
theorem f89_74 : gm_ft 89 74 = some (.putfield 35, 3) := by decide +kernel
theorem r89_74 {E : Nat → Value} {d : Nat} {st : List Value} {h : gm_H} {r : gm_R × gm_H} {lv : List Value} {a : Nat} {vs : List Value} {v : Value} (hr : gm_rd h a = some (5, vs)) (hk : 17 < vs.length) (hn : narrow (gm_ty 5 17) v = v ∧ fits (gm_ty 5 17) v = true) : gm_Go E d 89 74 lv (v :: .ref a :: st) h r ↔ gm_Go E d 89 77 lv st (gm_wr h a (5, vs.set 17 v)) r := gr_wr m89 f89_74 rfl rfl rfl rfl rfl (gf_put k5_35 hr (by decide) hk hn (by decide))
theorem f89_77 : gm_ft 89 77 = some (.aload_n 0, 1) := by decide +kernel
theorem r89_77 {E : Nat → Value} {d : Nat} {st : List Value} {h : gm_H} {r : gm_R × gm_H} {a1 a2 a3 a4 a5 : Value} {x : Nat} : gm_Go E d 89 77 [.ref x, a1, a2, a3, a4, a5] st h r ↔ gm_Go E d 89 78 [.ref x, a1, a2, a3, a4, a5] (.ref x :: st) h r := gr_loc m89 f89_77 rfl rfl
theorem r89_77n {E : Nat → Value} {d : Nat} {st : List Value} {h : gm_H} {r : gm_R × gm_H} {a1 a2 a3 a4 a5 : Value}  : gm_Go E d 89 77 [.null, a1, a2, a3, a4, a5] st h r ↔ gm_Go E d 89 78 [.null, a1, a2, a3, a4, a5] (.null :: st) h r := gr_loc m89 f89_77 rfl rfl
theorem f89_78 : gm_ft 89 78 = some (.sipush 720, 3) := by decide +kernel
theorem r89_78 {E : Nat → Value} {d : Nat} {st : List Value} {h : gm_H} {r : gm_R × gm_H} {lv : List Value} : gm_Go E d 89 78 lv st h r ↔ gm_Go E d 89 81 lv (.int (720 : Int32) :: st) h r := gr_pure m89 f89_78 rfl
theorem f89_81 : gm_ft 89 81 = some (.newarray .int, 2) := by decide +kernel
theorem f89_83 : gm_ft 89 83 = some (.putfield 39, 3) := by decide +kernel
theorem r89_83 {E : Nat → Value} {d : Nat} {st : List Value} {h : gm_H} {r : gm_R × gm_H} {lv : List Value} {a : Nat} {vs : List Value} {v : Value} (hr : gm_rd h a = some (5, vs)) (hk : 18 < vs.length) (hn : narrow (gm_ty 5 18) v = v ∧ fits (gm_ty 5 18) v = true) : gm_Go E d 89 83 lv (v :: .ref a :: st) h r ↔ gm_Go E d 89 86 lv st (gm_wr h a (5, vs.set 18 v)) r := gr_wr m89 f89_83 rfl rfl rfl rfl rfl (gf_put k5_39 hr (by decide) hk hn (by decide))
theorem f89_86 : gm_ft 89 86 = some (.aload_n 0, 1) := by decide +kernel
theorem r89_86 {E : Nat → Value} {d : Nat} {st : List Value} {h : gm_H} {r : gm_R × gm_H} {a1 a2 a3 a4 a5 : Value} {x : Nat} : gm_Go E d 89 86 [.ref x, a1, a2, a3, a4, a5] st h r ↔ gm_Go E d 89 87 [.ref x, a1, a2, a3, a4, a5] (.ref x :: st) h r := gr_loc m89 f89_86 rfl rfl
theorem r89_86n {E : Nat → Value} {d : Nat} {st : List Value} {h : gm_H} {r : gm_R × gm_H} {a1 a2 a3 a4 a5 : Value}  : gm_Go E d 89 86 [.null, a1, a2, a3, a4, a5] st h r ↔ gm_Go E d 89 87 [.null, a1, a2, a3, a4, a5] (.null :: st) h r := gr_loc m89 f89_86 rfl rfl
theorem f89_87 : gm_ft 89 87 = some (.sipush 720, 3) := by decide +kernel
theorem r89_87 {E : Nat → Value} {d : Nat} {st : List Value} {h : gm_H} {r : gm_R × gm_H} {lv : List Value} : gm_Go E d 89 87 lv st h r ↔ gm_Go E d 89 90 lv (.int (720 : Int32) :: st) h r := gr_pure m89 f89_87 rfl
theorem f89_90 : gm_ft 89 90 = some (.newarray .int, 2) := by decide +kernel
theorem f89_92 : gm_ft 89 92 = some (.putfield 42, 3) := by decide +kernel
theorem r89_92 {E : Nat → Value} {d : Nat} {st : List Value} {h : gm_H} {r : gm_R × gm_H} {lv : List Value} {a : Nat} {vs : List Value} {v : Value} (hr : gm_rd h a = some (5, vs)) (hk : 19 < vs.length) (hn : narrow (gm_ty 5 19) v = v ∧ fits (gm_ty 5 19) v = true) : gm_Go E d 89 92 lv (v :: .ref a :: st) h r ↔ gm_Go E d 89 95 lv st (gm_wr h a (5, vs.set 19 v)) r := gr_wr m89 f89_92 rfl rfl rfl rfl rfl (gf_put k5_42 hr (by decide) hk hn (by decide))
theorem f89_95 : gm_ft 89 95 = some (.aload_n 0, 1) := by decide +kernel
theorem r89_95 {E : Nat → Value} {d : Nat} {st : List Value} {h : gm_H} {r : gm_R × gm_H} {a1 a2 a3 a4 a5 : Value} {x : Nat} : gm_Go E d 89 95 [.ref x, a1, a2, a3, a4, a5] st h r ↔ gm_Go E d 89 96 [.ref x, a1, a2, a3, a4, a5] (.ref x :: st) h r := gr_loc m89 f89_95 rfl rfl
theorem r89_95n {E : Nat → Value} {d : Nat} {st : List Value} {h : gm_H} {r : gm_R × gm_H} {a1 a2 a3 a4 a5 : Value}  : gm_Go E d 89 95 [.null, a1, a2, a3, a4, a5] st h r ↔ gm_Go E d 89 96 [.null, a1, a2, a3, a4, a5] (.null :: st) h r := gr_loc m89 f89_95 rfl rfl
theorem f89_96 : gm_ft 89 96 = some (.sipush 720, 3) := by decide +kernel
theorem r89_96 {E : Nat → Value} {d : Nat} {st : List Value} {h : gm_H} {r : gm_R × gm_H} {lv : List Value} : gm_Go E d 89 96 lv st h r ↔ gm_Go E d 89 99 lv (.int (720 : Int32) :: st) h r := gr_pure m89 f89_96 rfl
theorem f89_99 : gm_ft 89 99 = some (.newarray .int, 2) := by decide +kernel
theorem f89_101 : gm_ft 89 101 = some (.putfield 45, 3) := by decide +kernel
theorem r89_101 {E : Nat → Value} {d : Nat} {st : List Value} {h : gm_H} {r : gm_R × gm_H} {lv : List Value} {a : Nat} {vs : List Value} {v : Value} (hr : gm_rd h a = some (5, vs)) (hk : 20 < vs.length) (hn : narrow (gm_ty 5 20) v = v ∧ fits (gm_ty 5 20) v = true) : gm_Go E d 89 101 lv (v :: .ref a :: st) h r ↔ gm_Go E d 89 104 lv st (gm_wr h a (5, vs.set 20 v)) r := gr_wr m89 f89_101 rfl rfl rfl rfl rfl (gf_put k5_45 hr (by decide) hk hn (by decide))
theorem f89_104 : gm_ft 89 104 = some (.aload_n 0, 1) := by decide +kernel
theorem r89_104 {E : Nat → Value} {d : Nat} {st : List Value} {h : gm_H} {r : gm_R × gm_H} {a1 a2 a3 a4 a5 : Value} {x : Nat} : gm_Go E d 89 104 [.ref x, a1, a2, a3, a4, a5] st h r ↔ gm_Go E d 89 105 [.ref x, a1, a2, a3, a4, a5] (.ref x :: st) h r := gr_loc m89 f89_104 rfl rfl
theorem r89_104n {E : Nat → Value} {d : Nat} {st : List Value} {h : gm_H} {r : gm_R × gm_H} {a1 a2 a3 a4 a5 : Value}  : gm_Go E d 89 104 [.null, a1, a2, a3, a4, a5] st h r ↔ gm_Go E d 89 105 [.null, a1, a2, a3, a4, a5] (.null :: st) h r := gr_loc m89 f89_104 rfl rfl
theorem f89_105 : gm_ft 89 105 = some (.sipush 720, 3) := by decide +kernel
theorem r89_105 {E : Nat → Value} {d : Nat} {st : List Value} {h : gm_H} {r : gm_R × gm_H} {lv : List Value} : gm_Go E d 89 105 lv st h r ↔ gm_Go E d 89 108 lv (.int (720 : Int32) :: st) h r := gr_pure m89 f89_105 rfl
theorem f89_108 : gm_ft 89 108 = some (.newarray .int, 2) := by decide +kernel
theorem f89_110 : gm_ft 89 110 = some (.putfield 48, 3) := by decide +kernel
theorem r89_110 {E : Nat → Value} {d : Nat} {st : List Value} {h : gm_H} {r : gm_R × gm_H} {lv : List Value} {a : Nat} {vs : List Value} {v : Value} (hr : gm_rd h a = some (5, vs)) (hk : 21 < vs.length) (hn : narrow (gm_ty 5 21) v = v ∧ fits (gm_ty 5 21) v = true) : gm_Go E d 89 110 lv (v :: .ref a :: st) h r ↔ gm_Go E d 89 113 lv st (gm_wr h a (5, vs.set 21 v)) r := gr_wr m89 f89_110 rfl rfl rfl rfl rfl (gf_put k5_48 hr (by decide) hk hn (by decide))
theorem f89_113 : gm_ft 89 113 = some (.aload_n 0, 1) := by decide +kernel
theorem r89_113 {E : Nat → Value} {d : Nat} {st : List Value} {h : gm_H} {r : gm_R × gm_H} {a1 a2 a3 a4 a5 : Value} {x : Nat} : gm_Go E d 89 113 [.ref x, a1, a2, a3, a4, a5] st h r ↔ gm_Go E d 89 114 [.ref x, a1, a2, a3, a4, a5] (.ref x :: st) h r := gr_loc m89 f89_113 rfl rfl
theorem r89_113n {E : Nat → Value} {d : Nat} {st : List Value} {h : gm_H} {r : gm_R × gm_H} {a1 a2 a3 a4 a5 : Value}  : gm_Go E d 89 113 [.null, a1, a2, a3, a4, a5] st h r ↔ gm_Go E d 89 114 [.null, a1, a2, a3, a4, a5] (.null :: st) h r := gr_loc m89 f89_113 rfl rfl
theorem f89_114 : gm_ft 89 114 = some (.sipush 720, 3) := by decide +kernel
theorem r89_114 {E : Nat → Value} {d : Nat} {st : List Value} {h : gm_H} {r : gm_R × gm_H} {lv : List Value} : gm_Go E d 89 114 lv st h r ↔ gm_Go E d 89 117 lv (.int (720 : Int32) :: st) h r := gr_pure m89 f89_114 rfl
theorem f89_117 : gm_ft 89 117 = some (.newarray .int, 2) := by decide +kernel
theorem f89_119 : gm_ft 89 119 = some (.putfield 51, 3) := by decide +kernel
theorem r89_119 {E : Nat → Value} {d : Nat} {st : List Value} {h : gm_H} {r : gm_R × gm_H} {lv : List Value} {a : Nat} {vs : List Value} {v : Value} (hr : gm_rd h a = some (5, vs)) (hk : 22 < vs.length) (hn : narrow (gm_ty 5 22) v = v ∧ fits (gm_ty 5 22) v = true) : gm_Go E d 89 119 lv (v :: .ref a :: st) h r ↔ gm_Go E d 89 122 lv st (gm_wr h a (5, vs.set 22 v)) r := gr_wr m89 f89_119 rfl rfl rfl rfl rfl (gf_put k5_51 hr (by decide) hk hn (by decide))
theorem f89_122 : gm_ft 89 122 = some (.aload_n 0, 1) := by decide +kernel
theorem r89_122 {E : Nat → Value} {d : Nat} {st : List Value} {h : gm_H} {r : gm_R × gm_H} {a1 a2 a3 a4 a5 : Value} {x : Nat} : gm_Go E d 89 122 [.ref x, a1, a2, a3, a4, a5] st h r ↔ gm_Go E d 89 123 [.ref x, a1, a2, a3, a4, a5] (.ref x :: st) h r := gr_loc m89 f89_122 rfl rfl
theorem r89_122n {E : Nat → Value} {d : Nat} {st : List Value} {h : gm_H} {r : gm_R × gm_H} {a1 a2 a3 a4 a5 : Value}  : gm_Go E d 89 122 [.null, a1, a2, a3, a4, a5] st h r ↔ gm_Go E d 89 123 [.null, a1, a2, a3, a4, a5] (.null :: st) h r := gr_loc m89 f89_122 rfl rfl
theorem f89_123 : gm_ft 89 123 = some (.sipush 4000, 3) := by decide +kernel
theorem r89_123 {E : Nat → Value} {d : Nat} {st : List Value} {h : gm_H} {r : gm_R × gm_H} {lv : List Value} : gm_Go E d 89 123 lv st h r ↔ gm_Go E d 89 126 lv (.int (4000 : Int32) :: st) h r := gr_pure m89 f89_123 rfl
theorem f89_126 : gm_ft 89 126 = some (.newarray .long, 2) := by decide +kernel
theorem f89_128 : gm_ft 89 128 = some (.putfield 54, 3) := by decide +kernel
theorem r89_128 {E : Nat → Value} {d : Nat} {st : List Value} {h : gm_H} {r : gm_R × gm_H} {lv : List Value} {a : Nat} {vs : List Value} {v : Value} (hr : gm_rd h a = some (5, vs)) (hk : 24 < vs.length) (hn : narrow (gm_ty 5 24) v = v ∧ fits (gm_ty 5 24) v = true) : gm_Go E d 89 128 lv (v :: .ref a :: st) h r ↔ gm_Go E d 89 131 lv st (gm_wr h a (5, vs.set 24 v)) r := gr_wr m89 f89_128 rfl rfl rfl rfl rfl (gf_put k5_54 hr (by decide) hk hn (by decide))
theorem f89_131 : gm_ft 89 131 = some (.aload_n 0, 1) := by decide +kernel
theorem r89_131 {E : Nat → Value} {d : Nat} {st : List Value} {h : gm_H} {r : gm_R × gm_H} {a1 a2 a3 a4 a5 : Value} {x : Nat} : gm_Go E d 89 131 [.ref x, a1, a2, a3, a4, a5] st h r ↔ gm_Go E d 89 132 [.ref x, a1, a2, a3, a4, a5] (.ref x :: st) h r := gr_loc m89 f89_131 rfl rfl
theorem r89_131n {E : Nat → Value} {d : Nat} {st : List Value} {h : gm_H} {r : gm_R × gm_H} {a1 a2 a3 a4 a5 : Value}  : gm_Go E d 89 131 [.null, a1, a2, a3, a4, a5] st h r ↔ gm_Go E d 89 132 [.null, a1, a2, a3, a4, a5] (.null :: st) h r := gr_loc m89 f89_131 rfl rfl
theorem f89_132 : gm_ft 89 132 = some (.sipush 130, 3) := by decide +kernel
theorem r89_132 {E : Nat → Value} {d : Nat} {st : List Value} {h : gm_H} {r : gm_R × gm_H} {lv : List Value} : gm_Go E d 89 132 lv st h r ↔ gm_Go E d 89 135 lv (.int (130 : Int32) :: st) h r := gr_pure m89 f89_132 rfl
theorem f89_135 : gm_ft 89 135 = some (.newarray .int, 2) := by decide +kernel
theorem f89_137 : gm_ft 89 137 = some (.putfield 57, 3) := by decide +kernel
theorem r89_137 {E : Nat → Value} {d : Nat} {st : List Value} {h : gm_H} {r : gm_R × gm_H} {lv : List Value} {a : Nat} {vs : List Value} {v : Value} (hr : gm_rd h a = some (5, vs)) (hk : 26 < vs.length) (hn : narrow (gm_ty 5 26) v = v ∧ fits (gm_ty 5 26) v = true) : gm_Go E d 89 137 lv (v :: .ref a :: st) h r ↔ gm_Go E d 89 140 lv st (gm_wr h a (5, vs.set 26 v)) r := gr_wr m89 f89_137 rfl rfl rfl rfl rfl (gf_put k5_57 hr (by decide) hk hn (by decide))
theorem f89_140 : gm_ft 89 140 = some (.aload_n 0, 1) := by decide +kernel
theorem r89_140 {E : Nat → Value} {d : Nat} {st : List Value} {h : gm_H} {r : gm_R × gm_H} {a1 a2 a3 a4 a5 : Value} {x : Nat} : gm_Go E d 89 140 [.ref x, a1, a2, a3, a4, a5] st h r ↔ gm_Go E d 89 141 [.ref x, a1, a2, a3, a4, a5] (.ref x :: st) h r := gr_loc m89 f89_140 rfl rfl
theorem r89_140n {E : Nat → Value} {d : Nat} {st : List Value} {h : gm_H} {r : gm_R × gm_H} {a1 a2 a3 a4 a5 : Value}  : gm_Go E d 89 140 [.null, a1, a2, a3, a4, a5] st h r ↔ gm_Go E d 89 141 [.null, a1, a2, a3, a4, a5] (.null :: st) h r := gr_loc m89 f89_140 rfl rfl
theorem f89_141 : gm_ft 89 141 = some (.sipush 130, 3) := by decide +kernel
theorem r89_141 {E : Nat → Value} {d : Nat} {st : List Value} {h : gm_H} {r : gm_R × gm_H} {lv : List Value} : gm_Go E d 89 141 lv st h r ↔ gm_Go E d 89 144 lv (.int (130 : Int32) :: st) h r := gr_pure m89 f89_141 rfl
theorem f89_144 : gm_ft 89 144 = some (.newarray .int, 2) := by decide +kernel
theorem f89_146 : gm_ft 89 146 = some (.putfield 60, 3) := by decide +kernel
theorem r89_146 {E : Nat → Value} {d : Nat} {st : List Value} {h : gm_H} {r : gm_R × gm_H} {lv : List Value} {a : Nat} {vs : List Value} {v : Value} (hr : gm_rd h a = some (5, vs)) (hk : 27 < vs.length) (hn : narrow (gm_ty 5 27) v = v ∧ fits (gm_ty 5 27) v = true) : gm_Go E d 89 146 lv (v :: .ref a :: st) h r ↔ gm_Go E d 89 149 lv st (gm_wr h a (5, vs.set 27 v)) r := gr_wr m89 f89_146 rfl rfl rfl rfl rfl (gf_put k5_60 hr (by decide) hk hn (by decide))
theorem f89_149 : gm_ft 89 149 = some (.aload_n 0, 1) := by decide +kernel
theorem r89_149 {E : Nat → Value} {d : Nat} {st : List Value} {h : gm_H} {r : gm_R × gm_H} {a1 a2 a3 a4 a5 : Value} {x : Nat} : gm_Go E d 89 149 [.ref x, a1, a2, a3, a4, a5] st h r ↔ gm_Go E d 89 150 [.ref x, a1, a2, a3, a4, a5] (.ref x :: st) h r := gr_loc m89 f89_149 rfl rfl
theorem r89_149n {E : Nat → Value} {d : Nat} {st : List Value} {h : gm_H} {r : gm_R × gm_H} {a1 a2 a3 a4 a5 : Value}  : gm_Go E d 89 149 [.null, a1, a2, a3, a4, a5] st h r ↔ gm_Go E d 89 150 [.null, a1, a2, a3, a4, a5] (.null :: st) h r := gr_loc m89 f89_149 rfl rfl
theorem f89_150 : gm_ft 89 150 = some (.sipush 130, 3) := by decide +kernel
theorem r89_150 {E : Nat → Value} {d : Nat} {st : List Value} {h : gm_H} {r : gm_R × gm_H} {lv : List Value} : gm_Go E d 89 150 lv st h r ↔ gm_Go E d 89 153 lv (.int (130 : Int32) :: st) h r := gr_pure m89 f89_150 rfl
theorem f89_153 : gm_ft 89 153 = some (.newarray .int, 2) := by decide +kernel
theorem f89_155 : gm_ft 89 155 = some (.putfield 63, 3) := by decide +kernel
theorem r89_155 {E : Nat → Value} {d : Nat} {st : List Value} {h : gm_H} {r : gm_R × gm_H} {lv : List Value} {a : Nat} {vs : List Value} {v : Value} (hr : gm_rd h a = some (5, vs)) (hk : 29 < vs.length) (hn : narrow (gm_ty 5 29) v = v ∧ fits (gm_ty 5 29) v = true) : gm_Go E d 89 155 lv (v :: .ref a :: st) h r ↔ gm_Go E d 89 158 lv st (gm_wr h a (5, vs.set 29 v)) r := gr_wr m89 f89_155 rfl rfl rfl rfl rfl (gf_put k5_63 hr (by decide) hk hn (by decide))
theorem f89_158 : gm_ft 89 158 = some (.aload_n 0, 1) := by decide +kernel
theorem r89_158 {E : Nat → Value} {d : Nat} {st : List Value} {h : gm_H} {r : gm_R × gm_H} {a1 a2 a3 a4 a5 : Value} {x : Nat} : gm_Go E d 89 158 [.ref x, a1, a2, a3, a4, a5] st h r ↔ gm_Go E d 89 159 [.ref x, a1, a2, a3, a4, a5] (.ref x :: st) h r := gr_loc m89 f89_158 rfl rfl
theorem r89_158n {E : Nat → Value} {d : Nat} {st : List Value} {h : gm_H} {r : gm_R × gm_H} {a1 a2 a3 a4 a5 : Value}  : gm_Go E d 89 158 [.null, a1, a2, a3, a4, a5] st h r ↔ gm_Go E d 89 159 [.null, a1, a2, a3, a4, a5] (.null :: st) h r := gr_loc m89 f89_158 rfl rfl
theorem f89_159 : gm_ft 89 159 = some (.sipush 130, 3) := by decide +kernel
theorem r89_159 {E : Nat → Value} {d : Nat} {st : List Value} {h : gm_H} {r : gm_R × gm_H} {lv : List Value} : gm_Go E d 89 159 lv st h r ↔ gm_Go E d 89 162 lv (.int (130 : Int32) :: st) h r := gr_pure m89 f89_159 rfl
theorem f89_162 : gm_ft 89 162 = some (.newarray .int, 2) := by decide +kernel
theorem f89_164 : gm_ft 89 164 = some (.putfield 66, 3) := by decide +kernel
theorem r89_164 {E : Nat → Value} {d : Nat} {st : List Value} {h : gm_H} {r : gm_R × gm_H} {lv : List Value} {a : Nat} {vs : List Value} {v : Value} (hr : gm_rd h a = some (5, vs)) (hk : 30 < vs.length) (hn : narrow (gm_ty 5 30) v = v ∧ fits (gm_ty 5 30) v = true) : gm_Go E d 89 164 lv (v :: .ref a :: st) h r ↔ gm_Go E d 89 167 lv st (gm_wr h a (5, vs.set 30 v)) r := gr_wr m89 f89_164 rfl rfl rfl rfl rfl (gf_put k5_66 hr (by decide) hk hn (by decide))
theorem f89_167 : gm_ft 89 167 = some (.aload_n 0, 1) := by decide +kernel
theorem r89_167 {E : Nat → Value} {d : Nat} {st : List Value} {h : gm_H} {r : gm_R × gm_H} {a1 a2 a3 a4 a5 : Value} {x : Nat} : gm_Go E d 89 167 [.ref x, a1, a2, a3, a4, a5] st h r ↔ gm_Go E d 89 168 [.ref x, a1, a2, a3, a4, a5] (.ref x :: st) h r := gr_loc m89 f89_167 rfl rfl
theorem r89_167n {E : Nat → Value} {d : Nat} {st : List Value} {h : gm_H} {r : gm_R × gm_H} {a1 a2 a3 a4 a5 : Value}  : gm_Go E d 89 167 [.null, a1, a2, a3, a4, a5] st h r ↔ gm_Go E d 89 168 [.null, a1, a2, a3, a4, a5] (.null :: st) h r := gr_loc m89 f89_167 rfl rfl
theorem f89_168 : gm_ft 89 168 = some (.sipush 130, 3) := by decide +kernel
theorem r89_168 {E : Nat → Value} {d : Nat} {st : List Value} {h : gm_H} {r : gm_R × gm_H} {lv : List Value} : gm_Go E d 89 168 lv st h r ↔ gm_Go E d 89 171 lv (.int (130 : Int32) :: st) h r := gr_pure m89 f89_168 rfl
theorem f89_171 : gm_ft 89 171 = some (.newarray .int, 2) := by decide +kernel
theorem f89_173 : gm_ft 89 173 = some (.putfield 69, 3) := by decide +kernel
theorem r89_173 {E : Nat → Value} {d : Nat} {st : List Value} {h : gm_H} {r : gm_R × gm_H} {lv : List Value} {a : Nat} {vs : List Value} {v : Value} (hr : gm_rd h a = some (5, vs)) (hk : 31 < vs.length) (hn : narrow (gm_ty 5 31) v = v ∧ fits (gm_ty 5 31) v = true) : gm_Go E d 89 173 lv (v :: .ref a :: st) h r ↔ gm_Go E d 89 176 lv st (gm_wr h a (5, vs.set 31 v)) r := gr_wr m89 f89_173 rfl rfl rfl rfl rfl (gf_put k5_69 hr (by decide) hk hn (by decide))
theorem f89_176 : gm_ft 89 176 = some (.aload_n 0, 1) := by decide +kernel
theorem r89_176 {E : Nat → Value} {d : Nat} {st : List Value} {h : gm_H} {r : gm_R × gm_H} {a1 a2 a3 a4 a5 : Value} {x : Nat} : gm_Go E d 89 176 [.ref x, a1, a2, a3, a4, a5] st h r ↔ gm_Go E d 89 177 [.ref x, a1, a2, a3, a4, a5] (.ref x :: st) h r := gr_loc m89 f89_176 rfl rfl
theorem r89_176n {E : Nat → Value} {d : Nat} {st : List Value} {h : gm_H} {r : gm_R × gm_H} {a1 a2 a3 a4 a5 : Value}  : gm_Go E d 89 176 [.null, a1, a2, a3, a4, a5] st h r ↔ gm_Go E d 89 177 [.null, a1, a2, a3, a4, a5] (.null :: st) h r := gr_loc m89 f89_176 rfl rfl
theorem f89_177 : gm_ft 89 177 = some (.sipush 130, 3) := by decide +kernel
theorem r89_177 {E : Nat → Value} {d : Nat} {st : List Value} {h : gm_H} {r : gm_R × gm_H} {lv : List Value} : gm_Go E d 89 177 lv st h r ↔ gm_Go E d 89 180 lv (.int (130 : Int32) :: st) h r := gr_pure m89 f89_177 rfl
theorem f89_180 : gm_ft 89 180 = some (.newarray .int, 2) := by decide +kernel
theorem f89_182 : gm_ft 89 182 = some (.putfield 72, 3) := by decide +kernel
theorem r89_182 {E : Nat → Value} {d : Nat} {st : List Value} {h : gm_H} {r : gm_R × gm_H} {lv : List Value} {a : Nat} {vs : List Value} {v : Value} (hr : gm_rd h a = some (5, vs)) (hk : 32 < vs.length) (hn : narrow (gm_ty 5 32) v = v ∧ fits (gm_ty 5 32) v = true) : gm_Go E d 89 182 lv (v :: .ref a :: st) h r ↔ gm_Go E d 89 185 lv st (gm_wr h a (5, vs.set 32 v)) r := gr_wr m89 f89_182 rfl rfl rfl rfl rfl (gf_put k5_72 hr (by decide) hk hn (by decide))
theorem f89_185 : gm_ft 89 185 = some (.aload_n 0, 1) := by decide +kernel
theorem r89_185 {E : Nat → Value} {d : Nat} {st : List Value} {h : gm_H} {r : gm_R × gm_H} {a1 a2 a3 a4 a5 : Value} {x : Nat} : gm_Go E d 89 185 [.ref x, a1, a2, a3, a4, a5] st h r ↔ gm_Go E d 89 186 [.ref x, a1, a2, a3, a4, a5] (.ref x :: st) h r := gr_loc m89 f89_185 rfl rfl
theorem r89_185n {E : Nat → Value} {d : Nat} {st : List Value} {h : gm_H} {r : gm_R × gm_H} {a1 a2 a3 a4 a5 : Value}  : gm_Go E d 89 185 [.null, a1, a2, a3, a4, a5] st h r ↔ gm_Go E d 89 186 [.null, a1, a2, a3, a4, a5] (.null :: st) h r := gr_loc m89 f89_185 rfl rfl
theorem f89_186 : gm_ft 89 186 = some (.sipush 130, 3) := by decide +kernel
theorem r89_186 {E : Nat → Value} {d : Nat} {st : List Value} {h : gm_H} {r : gm_R × gm_H} {lv : List Value} : gm_Go E d 89 186 lv st h r ↔ gm_Go E d 89 189 lv (.int (130 : Int32) :: st) h r := gr_pure m89 f89_186 rfl
theorem f89_189 : gm_ft 89 189 = some (.newarray .int, 2) := by decide +kernel
theorem f89_191 : gm_ft 89 191 = some (.putfield 75, 3) := by decide +kernel
theorem r89_191 {E : Nat → Value} {d : Nat} {st : List Value} {h : gm_H} {r : gm_R × gm_H} {lv : List Value} {a : Nat} {vs : List Value} {v : Value} (hr : gm_rd h a = some (5, vs)) (hk : 33 < vs.length) (hn : narrow (gm_ty 5 33) v = v ∧ fits (gm_ty 5 33) v = true) : gm_Go E d 89 191 lv (v :: .ref a :: st) h r ↔ gm_Go E d 89 194 lv st (gm_wr h a (5, vs.set 33 v)) r := gr_wr m89 f89_191 rfl rfl rfl rfl rfl (gf_put k5_75 hr (by decide) hk hn (by decide))
theorem f89_194 : gm_ft 89 194 = some (.aload_n 0, 1) := by decide +kernel
theorem r89_194 {E : Nat → Value} {d : Nat} {st : List Value} {h : gm_H} {r : gm_R × gm_H} {a1 a2 a3 a4 a5 : Value} {x : Nat} : gm_Go E d 89 194 [.ref x, a1, a2, a3, a4, a5] st h r ↔ gm_Go E d 89 195 [.ref x, a1, a2, a3, a4, a5] (.ref x :: st) h r := gr_loc m89 f89_194 rfl rfl
theorem r89_194n {E : Nat → Value} {d : Nat} {st : List Value} {h : gm_H} {r : gm_R × gm_H} {a1 a2 a3 a4 a5 : Value}  : gm_Go E d 89 194 [.null, a1, a2, a3, a4, a5] st h r ↔ gm_Go E d 89 195 [.null, a1, a2, a3, a4, a5] (.null :: st) h r := gr_loc m89 f89_194 rfl rfl
theorem f89_195 : gm_ft 89 195 = some (.sipush 130, 3) := by decide +kernel
theorem r89_195 {E : Nat → Value} {d : Nat} {st : List Value} {h : gm_H} {r : gm_R × gm_H} {lv : List Value} : gm_Go E d 89 195 lv st h r ↔ gm_Go E d 89 198 lv (.int (130 : Int32) :: st) h r := gr_pure m89 f89_195 rfl
theorem f89_198 : gm_ft 89 198 = some (.newarray .long, 2) := by decide +kernel
theorem f89_200 : gm_ft 89 200 = some (.putfield 78, 3) := by decide +kernel
theorem r89_200 {E : Nat → Value} {d : Nat} {st : List Value} {h : gm_H} {r : gm_R × gm_H} {lv : List Value} {a : Nat} {vs : List Value} {v : Value} (hr : gm_rd h a = some (5, vs)) (hk : 34 < vs.length) (hn : narrow (gm_ty 5 34) v = v ∧ fits (gm_ty 5 34) v = true) : gm_Go E d 89 200 lv (v :: .ref a :: st) h r ↔ gm_Go E d 89 203 lv st (gm_wr h a (5, vs.set 34 v)) r := gr_wr m89 f89_200 rfl rfl rfl rfl rfl (gf_put k5_78 hr (by decide) hk hn (by decide))
theorem f89_203 : gm_ft 89 203 = some (.aload_n 0, 1) := by decide +kernel
theorem r89_203 {E : Nat → Value} {d : Nat} {st : List Value} {h : gm_H} {r : gm_R × gm_H} {a1 a2 a3 a4 a5 : Value} {x : Nat} : gm_Go E d 89 203 [.ref x, a1, a2, a3, a4, a5] st h r ↔ gm_Go E d 89 204 [.ref x, a1, a2, a3, a4, a5] (.ref x :: st) h r := gr_loc m89 f89_203 rfl rfl
theorem r89_203n {E : Nat → Value} {d : Nat} {st : List Value} {h : gm_H} {r : gm_R × gm_H} {a1 a2 a3 a4 a5 : Value}  : gm_Go E d 89 203 [.null, a1, a2, a3, a4, a5] st h r ↔ gm_Go E d 89 204 [.null, a1, a2, a3, a4, a5] (.null :: st) h r := gr_loc m89 f89_203 rfl rfl
theorem f89_204 : gm_ft 89 204 = some (.sipush 130, 3) := by decide +kernel
theorem r89_204 {E : Nat → Value} {d : Nat} {st : List Value} {h : gm_H} {r : gm_R × gm_H} {lv : List Value} : gm_Go E d 89 204 lv st h r ↔ gm_Go E d 89 207 lv (.int (130 : Int32) :: st) h r := gr_pure m89 f89_204 rfl
theorem f89_207 : gm_ft 89 207 = some (.newarray .int, 2) := by decide +kernel
theorem f89_209 : gm_ft 89 209 = some (.putfield 81, 3) := by decide +kernel
theorem r89_209 {E : Nat → Value} {d : Nat} {st : List Value} {h : gm_H} {r : gm_R × gm_H} {lv : List Value} {a : Nat} {vs : List Value} {v : Value} (hr : gm_rd h a = some (5, vs)) (hk : 35 < vs.length) (hn : narrow (gm_ty 5 35) v = v ∧ fits (gm_ty 5 35) v = true) : gm_Go E d 89 209 lv (v :: .ref a :: st) h r ↔ gm_Go E d 89 212 lv st (gm_wr h a (5, vs.set 35 v)) r := gr_wr m89 f89_209 rfl rfl rfl rfl rfl (gf_put k5_81 hr (by decide) hk hn (by decide))
theorem f89_212 : gm_ft 89 212 = some (.aload_n 0, 1) := by decide +kernel
theorem r89_212 {E : Nat → Value} {d : Nat} {st : List Value} {h : gm_H} {r : gm_R × gm_H} {a1 a2 a3 a4 a5 : Value} {x : Nat} : gm_Go E d 89 212 [.ref x, a1, a2, a3, a4, a5] st h r ↔ gm_Go E d 89 213 [.ref x, a1, a2, a3, a4, a5] (.ref x :: st) h r := gr_loc m89 f89_212 rfl rfl
theorem r89_212n {E : Nat → Value} {d : Nat} {st : List Value} {h : gm_H} {r : gm_R × gm_H} {a1 a2 a3 a4 a5 : Value}  : gm_Go E d 89 212 [.null, a1, a2, a3, a4, a5] st h r ↔ gm_Go E d 89 213 [.null, a1, a2, a3, a4, a5] (.null :: st) h r := gr_loc m89 f89_212 rfl rfl
theorem f89_213 : gm_ft 89 213 = some (.sipush 1040, 3) := by decide +kernel
theorem r89_213 {E : Nat → Value} {d : Nat} {st : List Value} {h : gm_H} {r : gm_R × gm_H} {lv : List Value} : gm_Go E d 89 213 lv st h r ↔ gm_Go E d 89 216 lv (.int (1040 : Int32) :: st) h r := gr_pure m89 f89_213 rfl
theorem f89_216 : gm_ft 89 216 = some (.newarray .int, 2) := by decide +kernel
theorem f89_218 : gm_ft 89 218 = some (.putfield 84, 3) := by decide +kernel
theorem r89_218 {E : Nat → Value} {d : Nat} {st : List Value} {h : gm_H} {r : gm_R × gm_H} {lv : List Value} {a : Nat} {vs : List Value} {v : Value} (hr : gm_rd h a = some (5, vs)) (hk : 36 < vs.length) (hn : narrow (gm_ty 5 36) v = v ∧ fits (gm_ty 5 36) v = true) : gm_Go E d 89 218 lv (v :: .ref a :: st) h r ↔ gm_Go E d 89 221 lv st (gm_wr h a (5, vs.set 36 v)) r := gr_wr m89 f89_218 rfl rfl rfl rfl rfl (gf_put k5_84 hr (by decide) hk hn (by decide))
theorem f89_221 : gm_ft 89 221 = some (.aload_n 0, 1) := by decide +kernel
theorem r89_221 {E : Nat → Value} {d : Nat} {st : List Value} {h : gm_H} {r : gm_R × gm_H} {a1 a2 a3 a4 a5 : Value} {x : Nat} : gm_Go E d 89 221 [.ref x, a1, a2, a3, a4, a5] st h r ↔ gm_Go E d 89 222 [.ref x, a1, a2, a3, a4, a5] (.ref x :: st) h r := gr_loc m89 f89_221 rfl rfl
theorem r89_221n {E : Nat → Value} {d : Nat} {st : List Value} {h : gm_H} {r : gm_R × gm_H} {a1 a2 a3 a4 a5 : Value}  : gm_Go E d 89 221 [.null, a1, a2, a3, a4, a5] st h r ↔ gm_Go E d 89 222 [.null, a1, a2, a3, a4, a5] (.null :: st) h r := gr_loc m89 f89_221 rfl rfl
theorem f89_222 : gm_ft 89 222 = some (.sipush 1040, 3) := by decide +kernel
theorem r89_222 {E : Nat → Value} {d : Nat} {st : List Value} {h : gm_H} {r : gm_R × gm_H} {lv : List Value} : gm_Go E d 89 222 lv st h r ↔ gm_Go E d 89 225 lv (.int (1040 : Int32) :: st) h r := gr_pure m89 f89_222 rfl
theorem f89_225 : gm_ft 89 225 = some (.newarray .int, 2) := by decide +kernel
theorem f89_227 : gm_ft 89 227 = some (.putfield 87, 3) := by decide +kernel
theorem r89_227 {E : Nat → Value} {d : Nat} {st : List Value} {h : gm_H} {r : gm_R × gm_H} {lv : List Value} {a : Nat} {vs : List Value} {v : Value} (hr : gm_rd h a = some (5, vs)) (hk : 37 < vs.length) (hn : narrow (gm_ty 5 37) v = v ∧ fits (gm_ty 5 37) v = true) : gm_Go E d 89 227 lv (v :: .ref a :: st) h r ↔ gm_Go E d 89 230 lv st (gm_wr h a (5, vs.set 37 v)) r := gr_wr m89 f89_227 rfl rfl rfl rfl rfl (gf_put k5_87 hr (by decide) hk hn (by decide))
theorem f89_230 : gm_ft 89 230 = some (.aload_n 0, 1) := by decide +kernel
theorem r89_230 {E : Nat → Value} {d : Nat} {st : List Value} {h : gm_H} {r : gm_R × gm_H} {a1 a2 a3 a4 a5 : Value} {x : Nat} : gm_Go E d 89 230 [.ref x, a1, a2, a3, a4, a5] st h r ↔ gm_Go E d 89 231 [.ref x, a1, a2, a3, a4, a5] (.ref x :: st) h r := gr_loc m89 f89_230 rfl rfl
theorem r89_230n {E : Nat → Value} {d : Nat} {st : List Value} {h : gm_H} {r : gm_R × gm_H} {a1 a2 a3 a4 a5 : Value}  : gm_Go E d 89 230 [.null, a1, a2, a3, a4, a5] st h r ↔ gm_Go E d 89 231 [.null, a1, a2, a3, a4, a5] (.null :: st) h r := gr_loc m89 f89_230 rfl rfl
theorem f89_231 : gm_ft 89 231 = some (.sipush 130, 3) := by decide +kernel
theorem r89_231 {E : Nat → Value} {d : Nat} {st : List Value} {h : gm_H} {r : gm_R × gm_H} {lv : List Value} : gm_Go E d 89 231 lv st h r ↔ gm_Go E d 89 234 lv (.int (130 : Int32) :: st) h r := gr_pure m89 f89_231 rfl
theorem f89_234 : gm_ft 89 234 = some (.newarray .int, 2) := by decide +kernel
theorem f89_236 : gm_ft 89 236 = some (.putfield 90, 3) := by decide +kernel
theorem r89_236 {E : Nat → Value} {d : Nat} {st : List Value} {h : gm_H} {r : gm_R × gm_H} {lv : List Value} {a : Nat} {vs : List Value} {v : Value} (hr : gm_rd h a = some (5, vs)) (hk : 38 < vs.length) (hn : narrow (gm_ty 5 38) v = v ∧ fits (gm_ty 5 38) v = true) : gm_Go E d 89 236 lv (v :: .ref a :: st) h r ↔ gm_Go E d 89 239 lv st (gm_wr h a (5, vs.set 38 v)) r := gr_wr m89 f89_236 rfl rfl rfl rfl rfl (gf_put k5_90 hr (by decide) hk hn (by decide))
theorem f89_239 : gm_ft 89 239 = some (.aload_n 0, 1) := by decide +kernel
theorem r89_239 {E : Nat → Value} {d : Nat} {st : List Value} {h : gm_H} {r : gm_R × gm_H} {a1 a2 a3 a4 a5 : Value} {x : Nat} : gm_Go E d 89 239 [.ref x, a1, a2, a3, a4, a5] st h r ↔ gm_Go E d 89 240 [.ref x, a1, a2, a3, a4, a5] (.ref x :: st) h r := gr_loc m89 f89_239 rfl rfl
theorem r89_239n {E : Nat → Value} {d : Nat} {st : List Value} {h : gm_H} {r : gm_R × gm_H} {a1 a2 a3 a4 a5 : Value}  : gm_Go E d 89 239 [.null, a1, a2, a3, a4, a5] st h r ↔ gm_Go E d 89 240 [.null, a1, a2, a3, a4, a5] (.null :: st) h r := gr_loc m89 f89_239 rfl rfl
theorem f89_240 : gm_ft 89 240 = some (.bipush 80, 2) := by decide +kernel
theorem r89_240 {E : Nat → Value} {d : Nat} {st : List Value} {h : gm_H} {r : gm_R × gm_H} {lv : List Value} : gm_Go E d 89 240 lv st h r ↔ gm_Go E d 89 242 lv (.int (80 : Int32) :: st) h r := gr_pure m89 f89_240 rfl
theorem f89_242 : gm_ft 89 242 = some (.newarray .int, 2) := by decide +kernel
theorem f89_244 : gm_ft 89 244 = some (.putfield 93, 3) := by decide +kernel
theorem r89_244 {E : Nat → Value} {d : Nat} {st : List Value} {h : gm_H} {r : gm_R × gm_H} {lv : List Value} {a : Nat} {vs : List Value} {v : Value} (hr : gm_rd h a = some (5, vs)) (hk : 40 < vs.length) (hn : narrow (gm_ty 5 40) v = v ∧ fits (gm_ty 5 40) v = true) : gm_Go E d 89 244 lv (v :: .ref a :: st) h r ↔ gm_Go E d 89 247 lv st (gm_wr h a (5, vs.set 40 v)) r := gr_wr m89 f89_244 rfl rfl rfl rfl rfl (gf_put k5_93 hr (by decide) hk hn (by decide))
theorem f89_247 : gm_ft 89 247 = some (.aload_n 0, 1) := by decide +kernel
theorem r89_247 {E : Nat → Value} {d : Nat} {st : List Value} {h : gm_H} {r : gm_R × gm_H} {a1 a2 a3 a4 a5 : Value} {x : Nat} : gm_Go E d 89 247 [.ref x, a1, a2, a3, a4, a5] st h r ↔ gm_Go E d 89 248 [.ref x, a1, a2, a3, a4, a5] (.ref x :: st) h r := gr_loc m89 f89_247 rfl rfl
theorem r89_247n {E : Nat → Value} {d : Nat} {st : List Value} {h : gm_H} {r : gm_R × gm_H} {a1 a2 a3 a4 a5 : Value}  : gm_Go E d 89 247 [.null, a1, a2, a3, a4, a5] st h r ↔ gm_Go E d 89 248 [.null, a1, a2, a3, a4, a5] (.null :: st) h r := gr_loc m89 f89_247 rfl rfl
theorem f89_248 : gm_ft 89 248 = some (.bipush 80, 2) := by decide +kernel
theorem r89_248 {E : Nat → Value} {d : Nat} {st : List Value} {h : gm_H} {r : gm_R × gm_H} {lv : List Value} : gm_Go E d 89 248 lv st h r ↔ gm_Go E d 89 250 lv (.int (80 : Int32) :: st) h r := gr_pure m89 f89_248 rfl
theorem f89_250 : gm_ft 89 250 = some (.newarray .int, 2) := by decide +kernel
theorem f89_252 : gm_ft 89 252 = some (.putfield 96, 3) := by decide +kernel
theorem r89_252 {E : Nat → Value} {d : Nat} {st : List Value} {h : gm_H} {r : gm_R × gm_H} {lv : List Value} {a : Nat} {vs : List Value} {v : Value} (hr : gm_rd h a = some (5, vs)) (hk : 41 < vs.length) (hn : narrow (gm_ty 5 41) v = v ∧ fits (gm_ty 5 41) v = true) : gm_Go E d 89 252 lv (v :: .ref a :: st) h r ↔ gm_Go E d 89 255 lv st (gm_wr h a (5, vs.set 41 v)) r := gr_wr m89 f89_252 rfl rfl rfl rfl rfl (gf_put k5_96 hr (by decide) hk hn (by decide))
theorem f89_255 : gm_ft 89 255 = some (.aload_n 0, 1) := by decide +kernel
theorem r89_255 {E : Nat → Value} {d : Nat} {st : List Value} {h : gm_H} {r : gm_R × gm_H} {a1 a2 a3 a4 a5 : Value} {x : Nat} : gm_Go E d 89 255 [.ref x, a1, a2, a3, a4, a5] st h r ↔ gm_Go E d 89 256 [.ref x, a1, a2, a3, a4, a5] (.ref x :: st) h r := gr_loc m89 f89_255 rfl rfl
theorem r89_255n {E : Nat → Value} {d : Nat} {st : List Value} {h : gm_H} {r : gm_R × gm_H} {a1 a2 a3 a4 a5 : Value}  : gm_Go E d 89 255 [.null, a1, a2, a3, a4, a5] st h r ↔ gm_Go E d 89 256 [.null, a1, a2, a3, a4, a5] (.null :: st) h r := gr_loc m89 f89_255 rfl rfl
theorem f89_256 : gm_ft 89 256 = some (.bipush 80, 2) := by decide +kernel
theorem r89_256 {E : Nat → Value} {d : Nat} {st : List Value} {h : gm_H} {r : gm_R × gm_H} {lv : List Value} : gm_Go E d 89 256 lv st h r ↔ gm_Go E d 89 258 lv (.int (80 : Int32) :: st) h r := gr_pure m89 f89_256 rfl
theorem f89_258 : gm_ft 89 258 = some (.newarray .int, 2) := by decide +kernel
theorem f89_260 : gm_ft 89 260 = some (.putfield 99, 3) := by decide +kernel
theorem r89_260 {E : Nat → Value} {d : Nat} {st : List Value} {h : gm_H} {r : gm_R × gm_H} {lv : List Value} {a : Nat} {vs : List Value} {v : Value} (hr : gm_rd h a = some (5, vs)) (hk : 42 < vs.length) (hn : narrow (gm_ty 5 42) v = v ∧ fits (gm_ty 5 42) v = true) : gm_Go E d 89 260 lv (v :: .ref a :: st) h r ↔ gm_Go E d 89 263 lv st (gm_wr h a (5, vs.set 42 v)) r := gr_wr m89 f89_260 rfl rfl rfl rfl rfl (gf_put k5_99 hr (by decide) hk hn (by decide))
theorem f89_263 : gm_ft 89 263 = some (.aload_n 0, 1) := by decide +kernel
theorem r89_263 {E : Nat → Value} {d : Nat} {st : List Value} {h : gm_H} {r : gm_R × gm_H} {a1 a2 a3 a4 a5 : Value} {x : Nat} : gm_Go E d 89 263 [.ref x, a1, a2, a3, a4, a5] st h r ↔ gm_Go E d 89 264 [.ref x, a1, a2, a3, a4, a5] (.ref x :: st) h r := gr_loc m89 f89_263 rfl rfl
theorem r89_263n {E : Nat → Value} {d : Nat} {st : List Value} {h : gm_H} {r : gm_R × gm_H} {a1 a2 a3 a4 a5 : Value}  : gm_Go E d 89 263 [.null, a1, a2, a3, a4, a5] st h r ↔ gm_Go E d 89 264 [.null, a1, a2, a3, a4, a5] (.null :: st) h r := gr_loc m89 f89_263 rfl rfl
theorem f89_264 : gm_ft 89 264 = some (.bipush 80, 2) := by decide +kernel
theorem r89_264 {E : Nat → Value} {d : Nat} {st : List Value} {h : gm_H} {r : gm_R × gm_H} {lv : List Value} : gm_Go E d 89 264 lv st h r ↔ gm_Go E d 89 266 lv (.int (80 : Int32) :: st) h r := gr_pure m89 f89_264 rfl
theorem f89_266 : gm_ft 89 266 = some (.newarray .int, 2) := by decide +kernel
theorem f89_268 : gm_ft 89 268 = some (.putfield 102, 3) := by decide +kernel
theorem r89_268 {E : Nat → Value} {d : Nat} {st : List Value} {h : gm_H} {r : gm_R × gm_H} {lv : List Value} {a : Nat} {vs : List Value} {v : Value} (hr : gm_rd h a = some (5, vs)) (hk : 43 < vs.length) (hn : narrow (gm_ty 5 43) v = v ∧ fits (gm_ty 5 43) v = true) : gm_Go E d 89 268 lv (v :: .ref a :: st) h r ↔ gm_Go E d 89 271 lv st (gm_wr h a (5, vs.set 43 v)) r := gr_wr m89 f89_268 rfl rfl rfl rfl rfl (gf_put k5_102 hr (by decide) hk hn (by decide))
theorem f89_271 : gm_ft 89 271 = some (.aload_n 0, 1) := by decide +kernel
theorem r89_271 {E : Nat → Value} {d : Nat} {st : List Value} {h : gm_H} {r : gm_R × gm_H} {a1 a2 a3 a4 a5 : Value} {x : Nat} : gm_Go E d 89 271 [.ref x, a1, a2, a3, a4, a5] st h r ↔ gm_Go E d 89 272 [.ref x, a1, a2, a3, a4, a5] (.ref x :: st) h r := gr_loc m89 f89_271 rfl rfl
theorem r89_271n {E : Nat → Value} {d : Nat} {st : List Value} {h : gm_H} {r : gm_R × gm_H} {a1 a2 a3 a4 a5 : Value}  : gm_Go E d 89 271 [.null, a1, a2, a3, a4, a5] st h r ↔ gm_Go E d 89 272 [.null, a1, a2, a3, a4, a5] (.null :: st) h r := gr_loc m89 f89_271 rfl rfl
theorem f89_272 : gm_ft 89 272 = some (.bipush 80, 2) := by decide +kernel
theorem r89_272 {E : Nat → Value} {d : Nat} {st : List Value} {h : gm_H} {r : gm_R × gm_H} {lv : List Value} : gm_Go E d 89 272 lv st h r ↔ gm_Go E d 89 274 lv (.int (80 : Int32) :: st) h r := gr_pure m89 f89_272 rfl
theorem f89_274 : gm_ft 89 274 = some (.newarray .int, 2) := by decide +kernel
theorem f89_276 : gm_ft 89 276 = some (.putfield 105, 3) := by decide +kernel
theorem r89_276 {E : Nat → Value} {d : Nat} {st : List Value} {h : gm_H} {r : gm_R × gm_H} {lv : List Value} {a : Nat} {vs : List Value} {v : Value} (hr : gm_rd h a = some (5, vs)) (hk : 44 < vs.length) (hn : narrow (gm_ty 5 44) v = v ∧ fits (gm_ty 5 44) v = true) : gm_Go E d 89 276 lv (v :: .ref a :: st) h r ↔ gm_Go E d 89 279 lv st (gm_wr h a (5, vs.set 44 v)) r := gr_wr m89 f89_276 rfl rfl rfl rfl rfl (gf_put k5_105 hr (by decide) hk hn (by decide))
theorem f89_279 : gm_ft 89 279 = some (.aload_n 0, 1) := by decide +kernel
theorem r89_279 {E : Nat → Value} {d : Nat} {st : List Value} {h : gm_H} {r : gm_R × gm_H} {a1 a2 a3 a4 a5 : Value} {x : Nat} : gm_Go E d 89 279 [.ref x, a1, a2, a3, a4, a5] st h r ↔ gm_Go E d 89 280 [.ref x, a1, a2, a3, a4, a5] (.ref x :: st) h r := gr_loc m89 f89_279 rfl rfl
theorem r89_279n {E : Nat → Value} {d : Nat} {st : List Value} {h : gm_H} {r : gm_R × gm_H} {a1 a2 a3 a4 a5 : Value}  : gm_Go E d 89 279 [.null, a1, a2, a3, a4, a5] st h r ↔ gm_Go E d 89 280 [.null, a1, a2, a3, a4, a5] (.null :: st) h r := gr_loc m89 f89_279 rfl rfl
theorem f89_280 : gm_ft 89 280 = some (.bipush 80, 2) := by decide +kernel
theorem r89_280 {E : Nat → Value} {d : Nat} {st : List Value} {h : gm_H} {r : gm_R × gm_H} {lv : List Value} : gm_Go E d 89 280 lv st h r ↔ gm_Go E d 89 282 lv (.int (80 : Int32) :: st) h r := gr_pure m89 f89_280 rfl
theorem f89_282 : gm_ft 89 282 = some (.newarray .int, 2) := by decide +kernel
theorem f89_284 : gm_ft 89 284 = some (.putfield 108, 3) := by decide +kernel
theorem r89_284 {E : Nat → Value} {d : Nat} {st : List Value} {h : gm_H} {r : gm_R × gm_H} {lv : List Value} {a : Nat} {vs : List Value} {v : Value} (hr : gm_rd h a = some (5, vs)) (hk : 45 < vs.length) (hn : narrow (gm_ty 5 45) v = v ∧ fits (gm_ty 5 45) v = true) : gm_Go E d 89 284 lv (v :: .ref a :: st) h r ↔ gm_Go E d 89 287 lv st (gm_wr h a (5, vs.set 45 v)) r := gr_wr m89 f89_284 rfl rfl rfl rfl rfl (gf_put k5_108 hr (by decide) hk hn (by decide))
theorem f89_287 : gm_ft 89 287 = some (.aload_n 0, 1) := by decide +kernel
theorem r89_287 {E : Nat → Value} {d : Nat} {st : List Value} {h : gm_H} {r : gm_R × gm_H} {a1 a2 a3 a4 a5 : Value} {x : Nat} : gm_Go E d 89 287 [.ref x, a1, a2, a3, a4, a5] st h r ↔ gm_Go E d 89 288 [.ref x, a1, a2, a3, a4, a5] (.ref x :: st) h r := gr_loc m89 f89_287 rfl rfl
theorem r89_287n {E : Nat → Value} {d : Nat} {st : List Value} {h : gm_H} {r : gm_R × gm_H} {a1 a2 a3 a4 a5 : Value}  : gm_Go E d 89 287 [.null, a1, a2, a3, a4, a5] st h r ↔ gm_Go E d 89 288 [.null, a1, a2, a3, a4, a5] (.null :: st) h r := gr_loc m89 f89_287 rfl rfl
theorem f89_288 : gm_ft 89 288 = some (.bipush 80, 2) := by decide +kernel
theorem r89_288 {E : Nat → Value} {d : Nat} {st : List Value} {h : gm_H} {r : gm_R × gm_H} {lv : List Value} : gm_Go E d 89 288 lv st h r ↔ gm_Go E d 89 290 lv (.int (80 : Int32) :: st) h r := gr_pure m89 f89_288 rfl
theorem f89_290 : gm_ft 89 290 = some (.newarray .int, 2) := by decide +kernel
theorem f89_292 : gm_ft 89 292 = some (.putfield 111, 3) := by decide +kernel
theorem r89_292 {E : Nat → Value} {d : Nat} {st : List Value} {h : gm_H} {r : gm_R × gm_H} {lv : List Value} {a : Nat} {vs : List Value} {v : Value} (hr : gm_rd h a = some (5, vs)) (hk : 46 < vs.length) (hn : narrow (gm_ty 5 46) v = v ∧ fits (gm_ty 5 46) v = true) : gm_Go E d 89 292 lv (v :: .ref a :: st) h r ↔ gm_Go E d 89 295 lv st (gm_wr h a (5, vs.set 46 v)) r := gr_wr m89 f89_292 rfl rfl rfl rfl rfl (gf_put k5_111 hr (by decide) hk hn (by decide))
theorem f89_295 : gm_ft 89 295 = some (.aload_n 0, 1) := by decide +kernel
theorem r89_295 {E : Nat → Value} {d : Nat} {st : List Value} {h : gm_H} {r : gm_R × gm_H} {a1 a2 a3 a4 a5 : Value} {x : Nat} : gm_Go E d 89 295 [.ref x, a1, a2, a3, a4, a5] st h r ↔ gm_Go E d 89 296 [.ref x, a1, a2, a3, a4, a5] (.ref x :: st) h r := gr_loc m89 f89_295 rfl rfl
theorem r89_295n {E : Nat → Value} {d : Nat} {st : List Value} {h : gm_H} {r : gm_R × gm_H} {a1 a2 a3 a4 a5 : Value}  : gm_Go E d 89 295 [.null, a1, a2, a3, a4, a5] st h r ↔ gm_Go E d 89 296 [.null, a1, a2, a3, a4, a5] (.null :: st) h r := gr_loc m89 f89_295 rfl rfl
theorem f89_296 : gm_ft 89 296 = some (.aload_n 0, 1) := by decide +kernel
theorem r89_296 {E : Nat → Value} {d : Nat} {st : List Value} {h : gm_H} {r : gm_R × gm_H} {a1 a2 a3 a4 a5 : Value} {x : Nat} : gm_Go E d 89 296 [.ref x, a1, a2, a3, a4, a5] st h r ↔ gm_Go E d 89 297 [.ref x, a1, a2, a3, a4, a5] (.ref x :: st) h r := gr_loc m89 f89_296 rfl rfl
theorem r89_296n {E : Nat → Value} {d : Nat} {st : List Value} {h : gm_H} {r : gm_R × gm_H} {a1 a2 a3 a4 a5 : Value}  : gm_Go E d 89 296 [.null, a1, a2, a3, a4, a5] st h r ↔ gm_Go E d 89 297 [.null, a1, a2, a3, a4, a5] (.null :: st) h r := gr_loc m89 f89_296 rfl rfl
theorem f89_297 : gm_ft 89 297 = some (.iload_n 1, 1) := by decide +kernel
theorem r89_297 {E : Nat → Value} {d : Nat} {st : List Value} {h : gm_H} {r : gm_R × gm_H} {a0 a2 a3 a4 a5 : Value} {x : Int32} : gm_Go E d 89 297 [a0, .int x, a2, a3, a4, a5] st h r ↔ gm_Go E d 89 298 [a0, .int x, a2, a3, a4, a5] (.int x :: st) h r := gr_loc m89 f89_297 rfl rfl
theorem f89_298 : gm_ft 89 298 = some (.iconst 1, 1) := by decide +kernel
theorem r89_298 {E : Nat → Value} {d : Nat} {st : List Value} {h : gm_H} {r : gm_R × gm_H} {lv : List Value} : gm_Go E d 89 298 lv st h r ↔ gm_Go E d 89 299 lv (.int (1 : Int32) :: st) h r := gr_pure m89 f89_298 rfl
theorem f89_299 : gm_ft 89 299 = some (.bipush 8, 2) := by decide +kernel
theorem r89_299 {E : Nat → Value} {d : Nat} {st : List Value} {h : gm_H} {r : gm_R × gm_H} {lv : List Value} : gm_Go E d 89 299 lv st h r ↔ gm_Go E d 89 301 lv (.int (8 : Int32) :: st) h r := gr_pure m89 f89_299 rfl
theorem f89_301 : gm_ft 89 301 = some (.invokevirtual 114, 3) := by decide +kernel
theorem n89_301 {st : List Value} {h : gm_H} {E : Nat → Value} {lv : List Value} {b0 b1 b2 : Value} {a : Nat} (hs : (st.map fun v => v.category).sum ≤ 8) (he : (gm_en1 [.ref a, b0, b1, b2]).length ≤ 4) {vs : List Value} (hr : gm_rd h a = some (5, vs)) : gm_next E 89 301 lv (b2 :: b1 :: b0 :: .ref a :: st) h = some (.inr (.inl (0, 90, [.ref a, b0, b1, b2], st))) := gn_call m89 f89_301 rfl rfl rfl rfl rfl rfl rfl (gc_virt (bs := [b2, b1, b0]) (w := 666) rfl rfl rfl rfl hs he hr) (by decide)
theorem f89_304 : gm_ft 89 304 = some (.putfield 118, 3) := by decide +kernel
theorem r89_304 {E : Nat → Value} {d : Nat} {st : List Value} {h : gm_H} {r : gm_R × gm_H} {lv : List Value} {a : Nat} {vs : List Value} {v : Value} (hr : gm_rd h a = some (5, vs)) (hk : 0 < vs.length) (hn : narrow (gm_ty 5 0) v = v ∧ fits (gm_ty 5 0) v = true) : gm_Go E d 89 304 lv (v :: .ref a :: st) h r ↔ gm_Go E d 89 307 lv st (gm_wr h a (5, vs.set 0 v)) r := gr_wr m89 f89_304 rfl rfl rfl rfl rfl (gf_put k5_118 hr (by decide) hk hn (by decide))
theorem f89_307 : gm_ft 89 307 = some (.aload_n 0, 1) := by decide +kernel
theorem r89_307 {E : Nat → Value} {d : Nat} {st : List Value} {h : gm_H} {r : gm_R × gm_H} {a1 a2 a3 a4 a5 : Value} {x : Nat} : gm_Go E d 89 307 [.ref x, a1, a2, a3, a4, a5] st h r ↔ gm_Go E d 89 308 [.ref x, a1, a2, a3, a4, a5] (.ref x :: st) h r := gr_loc m89 f89_307 rfl rfl
theorem r89_307n {E : Nat → Value} {d : Nat} {st : List Value} {h : gm_H} {r : gm_R × gm_H} {a1 a2 a3 a4 a5 : Value}  : gm_Go E d 89 307 [.null, a1, a2, a3, a4, a5] st h r ↔ gm_Go E d 89 308 [.null, a1, a2, a3, a4, a5] (.null :: st) h r := gr_loc m89 f89_307 rfl rfl
theorem f89_308 : gm_ft 89 308 = some (.aload_n 0, 1) := by decide +kernel
theorem r89_308 {E : Nat → Value} {d : Nat} {st : List Value} {h : gm_H} {r : gm_R × gm_H} {a1 a2 a3 a4 a5 : Value} {x : Nat} : gm_Go E d 89 308 [.ref x, a1, a2, a3, a4, a5] st h r ↔ gm_Go E d 89 309 [.ref x, a1, a2, a3, a4, a5] (.ref x :: st) h r := gr_loc m89 f89_308 rfl rfl
theorem r89_308n {E : Nat → Value} {d : Nat} {st : List Value} {h : gm_H} {r : gm_R × gm_H} {a1 a2 a3 a4 a5 : Value}  : gm_Go E d 89 308 [.null, a1, a2, a3, a4, a5] st h r ↔ gm_Go E d 89 309 [.null, a1, a2, a3, a4, a5] (.null :: st) h r := gr_loc m89 f89_308 rfl rfl
theorem f89_309 : gm_ft 89 309 = some (.iload_n 2, 1) := by decide +kernel
theorem r89_309 {E : Nat → Value} {d : Nat} {st : List Value} {h : gm_H} {r : gm_R × gm_H} {a0 a1 a3 a4 a5 : Value} {x : Int32} : gm_Go E d 89 309 [a0, a1, .int x, a3, a4, a5] st h r ↔ gm_Go E d 89 310 [a0, a1, .int x, a3, a4, a5] (.int x :: st) h r := gr_loc m89 f89_309 rfl rfl
theorem f89_310 : gm_ft 89 310 = some (.iconst 1, 1) := by decide +kernel
theorem r89_310 {E : Nat → Value} {d : Nat} {st : List Value} {h : gm_H} {r : gm_R × gm_H} {lv : List Value} : gm_Go E d 89 310 lv st h r ↔ gm_Go E d 89 311 lv (.int (1 : Int32) :: st) h r := gr_pure m89 f89_310 rfl
theorem f89_311 : gm_ft 89 311 = some (.bipush 60, 2) := by decide +kernel
theorem r89_311 {E : Nat → Value} {d : Nat} {st : List Value} {h : gm_H} {r : gm_R × gm_H} {lv : List Value} : gm_Go E d 89 311 lv st h r ↔ gm_Go E d 89 313 lv (.int (60 : Int32) :: st) h r := gr_pure m89 f89_311 rfl
theorem f89_313 : gm_ft 89 313 = some (.invokevirtual 114, 3) := by decide +kernel
theorem n89_313 {st : List Value} {h : gm_H} {E : Nat → Value} {lv : List Value} {b0 b1 b2 : Value} {a : Nat} (hs : (st.map fun v => v.category).sum ≤ 8) (he : (gm_en1 [.ref a, b0, b1, b2]).length ≤ 4) {vs : List Value} (hr : gm_rd h a = some (5, vs)) : gm_next E 89 313 lv (b2 :: b1 :: b0 :: .ref a :: st) h = some (.inr (.inl (0, 90, [.ref a, b0, b1, b2], st))) := gn_call m89 f89_313 rfl rfl rfl rfl rfl rfl rfl (gc_virt (bs := [b2, b1, b0]) (w := 666) rfl rfl rfl rfl hs he hr) (by decide)
theorem f89_316 : gm_ft 89 316 = some (.putfield 122, 3) := by decide +kernel
theorem r89_316 {E : Nat → Value} {d : Nat} {st : List Value} {h : gm_H} {r : gm_R × gm_H} {lv : List Value} {a : Nat} {vs : List Value} {v : Value} (hr : gm_rd h a = some (5, vs)) (hk : 1 < vs.length) (hn : narrow (gm_ty 5 1) v = v ∧ fits (gm_ty 5 1) v = true) : gm_Go E d 89 316 lv (v :: .ref a :: st) h r ↔ gm_Go E d 89 319 lv st (gm_wr h a (5, vs.set 1 v)) r := gr_wr m89 f89_316 rfl rfl rfl rfl rfl (gf_put k5_122 hr (by decide) hk hn (by decide))
theorem f89_319 : gm_ft 89 319 = some (.aload_n 0, 1) := by decide +kernel
theorem r89_319 {E : Nat → Value} {d : Nat} {st : List Value} {h : gm_H} {r : gm_R × gm_H} {a1 a2 a3 a4 a5 : Value} {x : Nat} : gm_Go E d 89 319 [.ref x, a1, a2, a3, a4, a5] st h r ↔ gm_Go E d 89 320 [.ref x, a1, a2, a3, a4, a5] (.ref x :: st) h r := gr_loc m89 f89_319 rfl rfl
theorem r89_319n {E : Nat → Value} {d : Nat} {st : List Value} {h : gm_H} {r : gm_R × gm_H} {a1 a2 a3 a4 a5 : Value}  : gm_Go E d 89 319 [.null, a1, a2, a3, a4, a5] st h r ↔ gm_Go E d 89 320 [.null, a1, a2, a3, a4, a5] (.null :: st) h r := gr_loc m89 f89_319 rfl rfl
theorem f89_320 : gm_ft 89 320 = some (.aload_n 0, 1) := by decide +kernel
theorem r89_320 {E : Nat → Value} {d : Nat} {st : List Value} {h : gm_H} {r : gm_R × gm_H} {a1 a2 a3 a4 a5 : Value} {x : Nat} : gm_Go E d 89 320 [.ref x, a1, a2, a3, a4, a5] st h r ↔ gm_Go E d 89 321 [.ref x, a1, a2, a3, a4, a5] (.ref x :: st) h r := gr_loc m89 f89_320 rfl rfl
theorem r89_320n {E : Nat → Value} {d : Nat} {st : List Value} {h : gm_H} {r : gm_R × gm_H} {a1 a2 a3 a4 a5 : Value}  : gm_Go E d 89 320 [.null, a1, a2, a3, a4, a5] st h r ↔ gm_Go E d 89 321 [.null, a1, a2, a3, a4, a5] (.null :: st) h r := gr_loc m89 f89_320 rfl rfl
theorem f89_321 : gm_ft 89 321 = some (.iload_n 3, 1) := by decide +kernel
theorem r89_321 {E : Nat → Value} {d : Nat} {st : List Value} {h : gm_H} {r : gm_R × gm_H} {a0 a1 a2 a4 a5 : Value} {x : Int32} : gm_Go E d 89 321 [a0, a1, a2, .int x, a4, a5] st h r ↔ gm_Go E d 89 322 [a0, a1, a2, .int x, a4, a5] (.int x :: st) h r := gr_loc m89 f89_321 rfl rfl
theorem f89_322 : gm_ft 89 322 = some (.iconst 0, 1) := by decide +kernel
theorem r89_322 {E : Nat → Value} {d : Nat} {st : List Value} {h : gm_H} {r : gm_R × gm_H} {lv : List Value} : gm_Go E d 89 322 lv st h r ↔ gm_Go E d 89 323 lv (.int (0 : Int32) :: st) h r := gr_pure m89 f89_322 rfl
theorem f89_323 : gm_ft 89 323 = some (.bipush 20, 2) := by decide +kernel
theorem r89_323 {E : Nat → Value} {d : Nat} {st : List Value} {h : gm_H} {r : gm_R × gm_H} {lv : List Value} : gm_Go E d 89 323 lv st h r ↔ gm_Go E d 89 325 lv (.int (20 : Int32) :: st) h r := gr_pure m89 f89_323 rfl
theorem f89_325 : gm_ft 89 325 = some (.invokevirtual 114, 3) := by decide +kernel
theorem n89_325 {st : List Value} {h : gm_H} {E : Nat → Value} {lv : List Value} {b0 b1 b2 : Value} {a : Nat} (hs : (st.map fun v => v.category).sum ≤ 8) (he : (gm_en1 [.ref a, b0, b1, b2]).length ≤ 4) {vs : List Value} (hr : gm_rd h a = some (5, vs)) : gm_next E 89 325 lv (b2 :: b1 :: b0 :: .ref a :: st) h = some (.inr (.inl (0, 90, [.ref a, b0, b1, b2], st))) := gn_call m89 f89_325 rfl rfl rfl rfl rfl rfl rfl (gc_virt (bs := [b2, b1, b0]) (w := 666) rfl rfl rfl rfl hs he hr) (by decide)
theorem f89_328 : gm_ft 89 328 = some (.putfield 125, 3) := by decide +kernel
theorem r89_328 {E : Nat → Value} {d : Nat} {st : List Value} {h : gm_H} {r : gm_R × gm_H} {lv : List Value} {a : Nat} {vs : List Value} {v : Value} (hr : gm_rd h a = some (5, vs)) (hk : 2 < vs.length) (hn : narrow (gm_ty 5 2) v = v ∧ fits (gm_ty 5 2) v = true) : gm_Go E d 89 328 lv (v :: .ref a :: st) h r ↔ gm_Go E d 89 331 lv st (gm_wr h a (5, vs.set 2 v)) r := gr_wr m89 f89_328 rfl rfl rfl rfl rfl (gf_put k5_125 hr (by decide) hk hn (by decide))
theorem f89_331 : gm_ft 89 331 = some (.aload_n 0, 1) := by decide +kernel
theorem r89_331 {E : Nat → Value} {d : Nat} {st : List Value} {h : gm_H} {r : gm_R × gm_H} {a1 a2 a3 a4 a5 : Value} {x : Nat} : gm_Go E d 89 331 [.ref x, a1, a2, a3, a4, a5] st h r ↔ gm_Go E d 89 332 [.ref x, a1, a2, a3, a4, a5] (.ref x :: st) h r := gr_loc m89 f89_331 rfl rfl
theorem r89_331n {E : Nat → Value} {d : Nat} {st : List Value} {h : gm_H} {r : gm_R × gm_H} {a1 a2 a3 a4 a5 : Value}  : gm_Go E d 89 331 [.null, a1, a2, a3, a4, a5] st h r ↔ gm_Go E d 89 332 [.null, a1, a2, a3, a4, a5] (.null :: st) h r := gr_loc m89 f89_331 rfl rfl
theorem f89_332 : gm_ft 89 332 = some (.aload_n 0, 1) := by decide +kernel
theorem r89_332 {E : Nat → Value} {d : Nat} {st : List Value} {h : gm_H} {r : gm_R × gm_H} {a1 a2 a3 a4 a5 : Value} {x : Nat} : gm_Go E d 89 332 [.ref x, a1, a2, a3, a4, a5] st h r ↔ gm_Go E d 89 333 [.ref x, a1, a2, a3, a4, a5] (.ref x :: st) h r := gr_loc m89 f89_332 rfl rfl
theorem r89_332n {E : Nat → Value} {d : Nat} {st : List Value} {h : gm_H} {r : gm_R × gm_H} {a1 a2 a3 a4 a5 : Value}  : gm_Go E d 89 332 [.null, a1, a2, a3, a4, a5] st h r ↔ gm_Go E d 89 333 [.null, a1, a2, a3, a4, a5] (.null :: st) h r := gr_loc m89 f89_332 rfl rfl
theorem f89_333 : gm_ft 89 333 = some (.iload 4, 2) := by decide +kernel
theorem r89_333 {E : Nat → Value} {d : Nat} {st : List Value} {h : gm_H} {r : gm_R × gm_H} {a0 a1 a2 a3 a5 : Value} {x : Int32} : gm_Go E d 89 333 [a0, a1, a2, a3, .int x, a5] st h r ↔ gm_Go E d 89 335 [a0, a1, a2, a3, .int x, a5] (.int x :: st) h r := gr_loc m89 f89_333 rfl rfl
theorem f89_335 : gm_ft 89 335 = some (.iconst 4, 1) := by decide +kernel
theorem r89_335 {E : Nat → Value} {d : Nat} {st : List Value} {h : gm_H} {r : gm_R × gm_H} {lv : List Value} : gm_Go E d 89 335 lv st h r ↔ gm_Go E d 89 336 lv (.int (4 : Int32) :: st) h r := gr_pure m89 f89_335 rfl
theorem f89_336 : gm_ft 89 336 = some (.sipush 700, 3) := by decide +kernel
theorem r89_336 {E : Nat → Value} {d : Nat} {st : List Value} {h : gm_H} {r : gm_R × gm_H} {lv : List Value} : gm_Go E d 89 336 lv st h r ↔ gm_Go E d 89 339 lv (.int (700 : Int32) :: st) h r := gr_pure m89 f89_336 rfl
theorem f89_339 : gm_ft 89 339 = some (.invokevirtual 114, 3) := by decide +kernel
theorem n89_339 {st : List Value} {h : gm_H} {E : Nat → Value} {lv : List Value} {b0 b1 b2 : Value} {a : Nat} (hs : (st.map fun v => v.category).sum ≤ 8) (he : (gm_en1 [.ref a, b0, b1, b2]).length ≤ 4) {vs : List Value} (hr : gm_rd h a = some (5, vs)) : gm_next E 89 339 lv (b2 :: b1 :: b0 :: .ref a :: st) h = some (.inr (.inl (0, 90, [.ref a, b0, b1, b2], st))) := gn_call m89 f89_339 rfl rfl rfl rfl rfl rfl rfl (gc_virt (bs := [b2, b1, b0]) (w := 666) rfl rfl rfl rfl hs he hr) (by decide)
theorem f89_342 : gm_ft 89 342 = some (.putfield 128, 3) := by decide +kernel
theorem r89_342 {E : Nat → Value} {d : Nat} {st : List Value} {h : gm_H} {r : gm_R × gm_H} {lv : List Value} {a : Nat} {vs : List Value} {v : Value} (hr : gm_rd h a = some (5, vs)) (hk : 3 < vs.length) (hn : narrow (gm_ty 5 3) v = v ∧ fits (gm_ty 5 3) v = true) : gm_Go E d 89 342 lv (v :: .ref a :: st) h r ↔ gm_Go E d 89 345 lv st (gm_wr h a (5, vs.set 3 v)) r := gr_wr m89 f89_342 rfl rfl rfl rfl rfl (gf_put k5_128 hr (by decide) hk hn (by decide))
theorem f89_345 : gm_ft 89 345 = some (.iconst 0, 1) := by decide +kernel
theorem r89_345 {E : Nat → Value} {d : Nat} {st : List Value} {h : gm_H} {r : gm_R × gm_H} {lv : List Value} : gm_Go E d 89 345 lv st h r ↔ gm_Go E d 89 346 lv (.int (0 : Int32) :: st) h r := gr_pure m89 f89_345 rfl
theorem f89_346 : gm_ft 89 346 = some (.istore 5, 2) := by decide +kernel
theorem r89_346 {E : Nat → Value} {d : Nat} {st : List Value} {h : gm_H} {r : gm_R × gm_H} {a0 a1 a2 a3 a4 a5 : Value} {x : Int32} : gm_Go E d 89 346 [a0, a1, a2, a3, a4, a5] (.int x :: st) h r ↔ gm_Go E d 89 348 [a0, a1, a2, a3, gm_k a4, .int x] st h r := gr_loc m89 f89_346 rfl rfl
theorem f89_348 : gm_ft 89 348 = some (.iload 5, 2) := by decide +kernel
theorem r89_348 {E : Nat → Value} {d : Nat} {st : List Value} {h : gm_H} {r : gm_R × gm_H} {a0 a1 a2 a3 a4 : Value} {x : Int32} : gm_Go E d 89 348 [a0, a1, a2, a3, a4, .int x] st h r ↔ gm_Go E d 89 350 [a0, a1, a2, a3, a4, .int x] (.int x :: st) h r := gr_loc m89 f89_348 rfl rfl
theorem f89_350 : gm_ft 89 350 = some (.bipush 6, 2) := by decide +kernel
theorem r89_350 {E : Nat → Value} {d : Nat} {st : List Value} {h : gm_H} {r : gm_R × gm_H} {lv : List Value} : gm_Go E d 89 350 lv st h r ↔ gm_Go E d 89 352 lv (.int (6 : Int32) :: st) h r := gr_pure m89 f89_350 rfl
theorem f89_352 : gm_ft 89 352 = some (.if_icmp .ge 17, 3) := by decide +kernel
theorem r89_352 {E : Nat → Value} {d : Nat} {st : List Value} {h : gm_H} {r : gm_R × gm_H} {lv : List Value} {x y : Int32} : gm_Go E d 89 352 lv (.int y :: .int x :: st) h r ↔ (if y ≤ x then gm_Go E d 89 369 lv st h r else gm_Go E d 89 355 lv st h r) := (gr_br m89 f89_352 rfl rfl rfl rfl).trans gr_if
theorem f89_355 : gm_ft 89 355 = some (.aload_n 0, 1) := by decide +kernel
theorem r89_355 {E : Nat → Value} {d : Nat} {st : List Value} {h : gm_H} {r : gm_R × gm_H} {a1 a2 a3 a4 a5 : Value} {x : Nat} : gm_Go E d 89 355 [.ref x, a1, a2, a3, a4, a5] st h r ↔ gm_Go E d 89 356 [.ref x, a1, a2, a3, a4, a5] (.ref x :: st) h r := gr_loc m89 f89_355 rfl rfl
theorem r89_355n {E : Nat → Value} {d : Nat} {st : List Value} {h : gm_H} {r : gm_R × gm_H} {a1 a2 a3 a4 a5 : Value}  : gm_Go E d 89 355 [.null, a1, a2, a3, a4, a5] st h r ↔ gm_Go E d 89 356 [.null, a1, a2, a3, a4, a5] (.null :: st) h r := gr_loc m89 f89_355 rfl rfl
theorem f89_356 : gm_ft 89 356 = some (.getfield 13, 3) := by decide +kernel
theorem r89_356 {E : Nat → Value} {d : Nat} {st : List Value} {h : gm_H} {r : gm_R × gm_H} {lv : List Value} {a : Nat} {vs : List Value} {v : Value} (hr : gm_rd h a = some (5, vs)) (hv : vs[10]? = some v) : gm_Go E d 89 356 lv (.ref a :: st) h r ↔ gm_Go E d 89 359 lv (v :: st) h r := gr_rd m89 f89_356 rfl rfl rfl rfl (gf_get k5_13 hr hv)
theorem f89_359 : gm_ft 89 359 = some (.iload 5, 2) := by decide +kernel
theorem r89_359 {E : Nat → Value} {d : Nat} {st : List Value} {h : gm_H} {r : gm_R × gm_H} {a0 a1 a2 a3 a4 : Value} {x : Int32} : gm_Go E d 89 359 [a0, a1, a2, a3, a4, .int x] st h r ↔ gm_Go E d 89 361 [a0, a1, a2, a3, a4, .int x] (.int x :: st) h r := gr_loc m89 f89_359 rfl rfl
theorem f89_361 : gm_ft 89 361 = some (.iconst (-1), 1) := by decide +kernel
theorem r89_361 {E : Nat → Value} {d : Nat} {st : List Value} {h : gm_H} {r : gm_R × gm_H} {lv : List Value} : gm_Go E d 89 361 lv st h r ↔ gm_Go E d 89 362 lv (.int (-1 : Int32) :: st) h r := gr_pure m89 f89_361 rfl
theorem f89_362 : gm_ft 89 362 = some (.iastore, 1) := by decide +kernel
theorem r89_362 {E : Nat → Value} {d : Nat} {st : List Value} {h : gm_H} {r : gm_R × gm_H} {lv : List Value} {a k j : Nat} {vs : List Value} {x : Int32} (hr : gm_rd h a = some (k, vs)) (hk : 100 ≤ k ∧ k % 100 = 0 ∧ gm_ko k = 2 ∧ 2 < 3) (hj : j < 2 ^ 31) (hl : j < vs.length) : gm_Go E d 89 362 lv (.int x :: .int (nI j) :: .ref a :: st) h r ↔ gm_Go E d 89 363 lv st (gm_wr h a (k, vs.set j (.int x))) r := gr_wr m89 f89_362 rfl rfl rfl rfl rfl (ga_st hr hk hj hl)
theorem f89_363 : gm_ft 89 363 = some (.iinc 5 1, 3) := by decide +kernel
theorem r89_363 {E : Nat → Value} {d : Nat} {st : List Value} {h : gm_H} {r : gm_R × gm_H} {a0 a1 a2 a3 a4 : Value} {x : Int32} : gm_Go E d 89 363 [a0, a1, a2, a3, a4, .int x] st h r ↔ gm_Go E d 89 366 [a0, a1, a2, a3, gm_k a4, .int (x + (1 : Int32))] st h r := gr_loc m89 f89_363 rfl rfl
theorem f89_366 : gm_ft 89 366 = some (.goto (-18), 3) := by decide +kernel
theorem r89_366 {E : Nat → Value} {d : Nat} {st : List Value} {h : gm_H} {r : gm_R × gm_H} {lv : List Value} : gm_Go E d 89 366 lv st h r ↔ gm_Go E d 89 348 lv st h r := gr_brT m89 f89_366 rfl rfl rfl rfl
theorem f89_369 : gm_ft 89 369 = some (.return_, 1) := by decide +kernel
theorem r89_369 {E : Nat → Value} {d : Nat} {h : gm_H} {r : gm_R × gm_H} {lv : List Value} : gm_Go E d 89 369 lv [] h r ↔ r = (.inl none, h) := gr_ret m89 f89_369 rfl rfl rfl rfl rfl rfl rfl rfl rfl
/-! GraphReaderModel.clamp(III)I -/
theorem m90 : gm_mt[90]? = some (⟨"GraphReaderModel", "clamp", "(III)I"⟩, prog_7_method_2_code, 4, (some .int), [], 5, 2) := rfl
theorem f90_0 : gm_ft 90 0 = some (.iload_n 1, 1) := by decide +kernel
theorem r90_0 {E : Nat → Value} {d : Nat} {st : List Value} {h : gm_H} {r : gm_R × gm_H} {a0 a2 a3 : Value} {x : Int32} : gm_Go E d 90 0 [a0, .int x, a2, a3] st h r ↔ gm_Go E d 90 1 [a0, .int x, a2, a3] (.int x :: st) h r := gr_loc m90 f90_0 rfl rfl
theorem f90_1 : gm_ft 90 1 = some (.iload_n 2, 1) := by decide +kernel
theorem r90_1 {E : Nat → Value} {d : Nat} {st : List Value} {h : gm_H} {r : gm_R × gm_H} {a0 a1 a3 : Value} {x : Int32} : gm_Go E d 90 1 [a0, a1, .int x, a3] st h r ↔ gm_Go E d 90 2 [a0, a1, .int x, a3] (.int x :: st) h r := gr_loc m90 f90_1 rfl rfl
theorem f90_2 : gm_ft 90 2 = some (.if_icmp .ge 7, 3) := by decide +kernel
theorem r90_2 {E : Nat → Value} {d : Nat} {st : List Value} {h : gm_H} {r : gm_R × gm_H} {lv : List Value} {x y : Int32} : gm_Go E d 90 2 lv (.int y :: .int x :: st) h r ↔ (if y ≤ x then gm_Go E d 90 9 lv st h r else gm_Go E d 90 5 lv st h r) := (gr_br m90 f90_2 rfl rfl rfl rfl).trans gr_if
theorem f90_5 : gm_ft 90 5 = some (.iload_n 2, 1) := by decide +kernel
theorem r90_5 {E : Nat → Value} {d : Nat} {st : List Value} {h : gm_H} {r : gm_R × gm_H} {a0 a1 a3 : Value} {x : Int32} : gm_Go E d 90 5 [a0, a1, .int x, a3] st h r ↔ gm_Go E d 90 6 [a0, a1, .int x, a3] (.int x :: st) h r := gr_loc m90 f90_5 rfl rfl
theorem f90_6 : gm_ft 90 6 = some (.goto 13, 3) := by decide +kernel
theorem r90_6 {E : Nat → Value} {d : Nat} {st : List Value} {h : gm_H} {r : gm_R × gm_H} {lv : List Value} : gm_Go E d 90 6 lv st h r ↔ gm_Go E d 90 19 lv st h r := gr_brT m90 f90_6 rfl rfl rfl rfl
theorem f90_9 : gm_ft 90 9 = some (.iload_n 1, 1) := by decide +kernel
theorem r90_9 {E : Nat → Value} {d : Nat} {st : List Value} {h : gm_H} {r : gm_R × gm_H} {a0 a2 a3 : Value} {x : Int32} : gm_Go E d 90 9 [a0, .int x, a2, a3] st h r ↔ gm_Go E d 90 10 [a0, .int x, a2, a3] (.int x :: st) h r := gr_loc m90 f90_9 rfl rfl
theorem f90_10 : gm_ft 90 10 = some (.iload_n 3, 1) := by decide +kernel
theorem r90_10 {E : Nat → Value} {d : Nat} {st : List Value} {h : gm_H} {r : gm_R × gm_H} {a0 a1 a2 : Value} {x : Int32} : gm_Go E d 90 10 [a0, a1, a2, .int x] st h r ↔ gm_Go E d 90 11 [a0, a1, a2, .int x] (.int x :: st) h r := gr_loc m90 f90_10 rfl rfl
theorem f90_11 : gm_ft 90 11 = some (.if_icmp .le 7, 3) := by decide +kernel
theorem r90_11 {E : Nat → Value} {d : Nat} {st : List Value} {h : gm_H} {r : gm_R × gm_H} {lv : List Value} {x y : Int32} : gm_Go E d 90 11 lv (.int y :: .int x :: st) h r ↔ (if x ≤ y then gm_Go E d 90 18 lv st h r else gm_Go E d 90 14 lv st h r) := (gr_br m90 f90_11 rfl rfl rfl rfl).trans gr_if
theorem f90_14 : gm_ft 90 14 = some (.iload_n 3, 1) := by decide +kernel
theorem r90_14 {E : Nat → Value} {d : Nat} {st : List Value} {h : gm_H} {r : gm_R × gm_H} {a0 a1 a2 : Value} {x : Int32} : gm_Go E d 90 14 [a0, a1, a2, .int x] st h r ↔ gm_Go E d 90 15 [a0, a1, a2, .int x] (.int x :: st) h r := gr_loc m90 f90_14 rfl rfl
theorem f90_15 : gm_ft 90 15 = some (.goto 4, 3) := by decide +kernel
theorem r90_15 {E : Nat → Value} {d : Nat} {st : List Value} {h : gm_H} {r : gm_R × gm_H} {lv : List Value} : gm_Go E d 90 15 lv st h r ↔ gm_Go E d 90 19 lv st h r := gr_brT m90 f90_15 rfl rfl rfl rfl
theorem f90_18 : gm_ft 90 18 = some (.iload_n 1, 1) := by decide +kernel
theorem r90_18 {E : Nat → Value} {d : Nat} {st : List Value} {h : gm_H} {r : gm_R × gm_H} {a0 a2 a3 : Value} {x : Int32} : gm_Go E d 90 18 [a0, .int x, a2, a3] st h r ↔ gm_Go E d 90 19 [a0, .int x, a2, a3] (.int x :: st) h r := gr_loc m90 f90_18 rfl rfl
theorem f90_19 : gm_ft 90 19 = some (.ireturn, 1) := by decide +kernel
theorem r90_19 {E : Nat → Value} {d : Nat} {h : gm_H} {r : gm_R × gm_H} {lv : List Value} {x : Int32} : gm_Go E d 90 19 lv [.int x] h r ↔ r = (.inl (some (.int x)), h) := gr_ret m90 f90_19 rfl rfl rfl rfl rfl rfl rfl rfl (by unfold gm_rt; dsimp only; rw [if_pos ⟨rfl, rfl⟩])
/-! GraphReaderModel.define(IIIJ)I -/
theorem m91 : gm_mt[91]? = some (⟨"GraphReaderModel", "define", "(IIIJ)I"⟩, prog_7_method_5_code, 6, (some .int), [], 5, 2) := rfl
theorem f91_0 : gm_ft 91 0 = some (.aload_n 0, 1) := by decide +kernel
theorem r91_0 {E : Nat → Value} {d : Nat} {st : List Value} {h : gm_H} {r : gm_R × gm_H} {a1 a2 a3 a4 a5 : Value} {x : Nat} : gm_Go E d 91 0 [.ref x, a1, a2, a3, a4, a5] st h r ↔ gm_Go E d 91 1 [.ref x, a1, a2, a3, a4, a5] (.ref x :: st) h r := gr_loc m91 f91_0 rfl rfl
theorem r91_0n {E : Nat → Value} {d : Nat} {st : List Value} {h : gm_H} {r : gm_R × gm_H} {a1 a2 a3 a4 a5 : Value}  : gm_Go E d 91 0 [.null, a1, a2, a3, a4, a5] st h r ↔ gm_Go E d 91 1 [.null, a1, a2, a3, a4, a5] (.null :: st) h r := gr_loc m91 f91_0 rfl rfl
theorem f91_1 : gm_ft 91 1 = some (.iload_n 1, 1) := by decide +kernel
theorem r91_1 {E : Nat → Value} {d : Nat} {st : List Value} {h : gm_H} {r : gm_R × gm_H} {a0 a2 a3 a4 a5 : Value} {x : Int32} : gm_Go E d 91 1 [a0, .int x, a2, a3, a4, a5] st h r ↔ gm_Go E d 91 2 [a0, .int x, a2, a3, a4, a5] (.int x :: st) h r := gr_loc m91 f91_1 rfl rfl
theorem f91_2 : gm_ft 91 2 = some (.bipush 6, 2) := by decide +kernel
theorem r91_2 {E : Nat → Value} {d : Nat} {st : List Value} {h : gm_H} {r : gm_R × gm_H} {lv : List Value} : gm_Go E d 91 2 lv st h r ↔ gm_Go E d 91 4 lv (.int (6 : Int32) :: st) h r := gr_pure m91 f91_2 rfl
theorem f91_4 : gm_ft 91 4 = some (.invokevirtual 131, 3) := by decide +kernel
theorem n91_4 {st : List Value} {h : gm_H} {E : Nat → Value} {lv : List Value} {b0 b1 : Value} {a : Nat} (hs : (st.map fun v => v.category).sum ≤ 8) (he : (gm_en1 [.ref a, b0, b1]).length ≤ 3) {vs : List Value} (hr : gm_rd h a = some (5, vs)) : gm_next E 91 4 lv (b1 :: b0 :: .ref a :: st) h = some (.inr (.inl (0, 92, [.ref a, b0, b1], st))) := gn_call m91 f91_4 rfl rfl rfl rfl rfl rfl rfl (gc_virt (bs := [b1, b0]) (w := 820) rfl rfl rfl rfl hs he hr) (by decide)
theorem f91_7 : gm_ft 91 7 = some (.ifCond .ne 34, 3) := by decide +kernel
theorem r91_7 {E : Nat → Value} {d : Nat} {st : List Value} {h : gm_H} {r : gm_R × gm_H} {lv : List Value} {x : Int32} : gm_Go E d 91 7 lv (.int x :: st) h r ↔ (if x = 0 then gm_Go E d 91 10 lv st h r else gm_Go E d 91 41 lv st h r) := (gr_br m91 f91_7 rfl rfl rfl rfl).trans gr_ifn
theorem f91_10 : gm_ft 91 10 = some (.aload_n 0, 1) := by decide +kernel
theorem r91_10 {E : Nat → Value} {d : Nat} {st : List Value} {h : gm_H} {r : gm_R × gm_H} {a1 a2 a3 a4 a5 : Value} {x : Nat} : gm_Go E d 91 10 [.ref x, a1, a2, a3, a4, a5] st h r ↔ gm_Go E d 91 11 [.ref x, a1, a2, a3, a4, a5] (.ref x :: st) h r := gr_loc m91 f91_10 rfl rfl
theorem r91_10n {E : Nat → Value} {d : Nat} {st : List Value} {h : gm_H} {r : gm_R × gm_H} {a1 a2 a3 a4 a5 : Value}  : gm_Go E d 91 10 [.null, a1, a2, a3, a4, a5] st h r ↔ gm_Go E d 91 11 [.null, a1, a2, a3, a4, a5] (.null :: st) h r := gr_loc m91 f91_10 rfl rfl
theorem f91_11 : gm_ft 91 11 = some (.iload_n 2, 1) := by decide +kernel
theorem r91_11 {E : Nat → Value} {d : Nat} {st : List Value} {h : gm_H} {r : gm_R × gm_H} {a0 a1 a3 a4 a5 : Value} {x : Int32} : gm_Go E d 91 11 [a0, a1, .int x, a3, a4, a5] st h r ↔ gm_Go E d 91 12 [a0, a1, .int x, a3, a4, a5] (.int x :: st) h r := gr_loc m91 f91_11 rfl rfl
theorem f91_12 : gm_ft 91 12 = some (.iconst 5, 1) := by decide +kernel
theorem r91_12 {E : Nat → Value} {d : Nat} {st : List Value} {h : gm_H} {r : gm_R × gm_H} {lv : List Value} : gm_Go E d 91 12 lv st h r ↔ gm_Go E d 91 13 lv (.int (5 : Int32) :: st) h r := gr_pure m91 f91_12 rfl
theorem f91_13 : gm_ft 91 13 = some (.invokevirtual 131, 3) := by decide +kernel
theorem n91_13 {st : List Value} {h : gm_H} {E : Nat → Value} {lv : List Value} {b0 b1 : Value} {a : Nat} (hs : (st.map fun v => v.category).sum ≤ 8) (he : (gm_en1 [.ref a, b0, b1]).length ≤ 3) {vs : List Value} (hr : gm_rd h a = some (5, vs)) : gm_next E 91 13 lv (b1 :: b0 :: .ref a :: st) h = some (.inr (.inl (0, 92, [.ref a, b0, b1], st))) := gn_call m91 f91_13 rfl rfl rfl rfl rfl rfl rfl (gc_virt (bs := [b1, b0]) (w := 820) rfl rfl rfl rfl hs he hr) (by decide)
theorem f91_16 : gm_ft 91 16 = some (.ifCond .ne 25, 3) := by decide +kernel
theorem r91_16 {E : Nat → Value} {d : Nat} {st : List Value} {h : gm_H} {r : gm_R × gm_H} {lv : List Value} {x : Int32} : gm_Go E d 91 16 lv (.int x :: st) h r ↔ (if x = 0 then gm_Go E d 91 19 lv st h r else gm_Go E d 91 41 lv st h r) := (gr_br m91 f91_16 rfl rfl rfl rfl).trans gr_ifn
theorem f91_19 : gm_ft 91 19 = some (.iload_n 3, 1) := by decide +kernel
theorem r91_19 {E : Nat → Value} {d : Nat} {st : List Value} {h : gm_H} {r : gm_R × gm_H} {a0 a1 a2 a4 a5 : Value} {x : Int32} : gm_Go E d 91 19 [a0, a1, a2, .int x, a4, a5] st h r ↔ gm_Go E d 91 20 [a0, a1, a2, .int x, a4, a5] (.int x :: st) h r := gr_loc m91 f91_19 rfl rfl
theorem f91_20 : gm_ft 91 20 = some (.iconst (-1), 1) := by decide +kernel
theorem r91_20 {E : Nat → Value} {d : Nat} {st : List Value} {h : gm_H} {r : gm_R × gm_H} {lv : List Value} : gm_Go E d 91 20 lv st h r ↔ gm_Go E d 91 21 lv (.int (-1 : Int32) :: st) h r := gr_pure m91 f91_20 rfl
theorem f91_21 : gm_ft 91 21 = some (.if_icmp .lt 20, 3) := by decide +kernel
theorem r91_21 {E : Nat → Value} {d : Nat} {st : List Value} {h : gm_H} {r : gm_R × gm_H} {lv : List Value} {x y : Int32} : gm_Go E d 91 21 lv (.int y :: .int x :: st) h r ↔ (if x < y then gm_Go E d 91 41 lv st h r else gm_Go E d 91 24 lv st h r) := (gr_br m91 f91_21 rfl rfl rfl rfl).trans gr_if
theorem f91_24 : gm_ft 91 24 = some (.iload_n 3, 1) := by decide +kernel
theorem r91_24 {E : Nat → Value} {d : Nat} {st : List Value} {h : gm_H} {r : gm_R × gm_H} {a0 a1 a2 a4 a5 : Value} {x : Int32} : gm_Go E d 91 24 [a0, a1, a2, .int x, a4, a5] st h r ↔ gm_Go E d 91 25 [a0, a1, a2, .int x, a4, a5] (.int x :: st) h r := gr_loc m91 f91_24 rfl rfl
theorem f91_25 : gm_ft 91 25 = some (.ifCond .lt 18, 3) := by decide +kernel
theorem r91_25 {E : Nat → Value} {d : Nat} {st : List Value} {h : gm_H} {r : gm_R × gm_H} {lv : List Value} {x : Int32} : gm_Go E d 91 25 lv (.int x :: st) h r ↔ (if x < 0 then gm_Go E d 91 43 lv st h r else gm_Go E d 91 28 lv st h r) := (gr_br m91 f91_25 rfl rfl rfl rfl).trans gr_if
theorem f91_28 : gm_ft 91 28 = some (.iload_n 3, 1) := by decide +kernel
theorem r91_28 {E : Nat → Value} {d : Nat} {st : List Value} {h : gm_H} {r : gm_R × gm_H} {a0 a1 a2 a4 a5 : Value} {x : Int32} : gm_Go E d 91 28 [a0, a1, a2, .int x, a4, a5] st h r ↔ gm_Go E d 91 29 [a0, a1, a2, .int x, a4, a5] (.int x :: st) h r := gr_loc m91 f91_28 rfl rfl
theorem f91_29 : gm_ft 91 29 = some (.iload_n 1, 1) := by decide +kernel
theorem r91_29 {E : Nat → Value} {d : Nat} {st : List Value} {h : gm_H} {r : gm_R × gm_H} {a0 a2 a3 a4 a5 : Value} {x : Int32} : gm_Go E d 91 29 [a0, .int x, a2, a3, a4, a5] st h r ↔ gm_Go E d 91 30 [a0, .int x, a2, a3, a4, a5] (.int x :: st) h r := gr_loc m91 f91_29 rfl rfl
theorem f91_30 : gm_ft 91 30 = some (.if_icmp .ge 11, 3) := by decide +kernel
theorem r91_30 {E : Nat → Value} {d : Nat} {st : List Value} {h : gm_H} {r : gm_R × gm_H} {lv : List Value} {x y : Int32} : gm_Go E d 91 30 lv (.int y :: .int x :: st) h r ↔ (if y ≤ x then gm_Go E d 91 41 lv st h r else gm_Go E d 91 33 lv st h r) := (gr_br m91 f91_30 rfl rfl rfl rfl).trans gr_if
theorem f91_33 : gm_ft 91 33 = some (.aload_n 0, 1) := by decide +kernel
theorem r91_33 {E : Nat → Value} {d : Nat} {st : List Value} {h : gm_H} {r : gm_R × gm_H} {a1 a2 a3 a4 a5 : Value} {x : Nat} : gm_Go E d 91 33 [.ref x, a1, a2, a3, a4, a5] st h r ↔ gm_Go E d 91 34 [.ref x, a1, a2, a3, a4, a5] (.ref x :: st) h r := gr_loc m91 f91_33 rfl rfl
theorem r91_33n {E : Nat → Value} {d : Nat} {st : List Value} {h : gm_H} {r : gm_R × gm_H} {a1 a2 a3 a4 a5 : Value}  : gm_Go E d 91 33 [.null, a1, a2, a3, a4, a5] st h r ↔ gm_Go E d 91 34 [.null, a1, a2, a3, a4, a5] (.null :: st) h r := gr_loc m91 f91_33 rfl rfl
theorem f91_34 : gm_ft 91 34 = some (.iload_n 3, 1) := by decide +kernel
theorem r91_34 {E : Nat → Value} {d : Nat} {st : List Value} {h : gm_H} {r : gm_R × gm_H} {a0 a1 a2 a4 a5 : Value} {x : Int32} : gm_Go E d 91 34 [a0, a1, a2, .int x, a4, a5] st h r ↔ gm_Go E d 91 35 [a0, a1, a2, .int x, a4, a5] (.int x :: st) h r := gr_loc m91 f91_34 rfl rfl
theorem f91_35 : gm_ft 91 35 = some (.invokevirtual 135, 3) := by decide +kernel
theorem n91_35 {st : List Value} {h : gm_H} {E : Nat → Value} {lv : List Value} {b0 : Value} {a : Nat} (hs : (st.map fun v => v.category).sum ≤ 8) (he : (gm_en1 [.ref a, b0]).length ≤ 2) {vs : List Value} (hr : gm_rd h a = some (5, vs)) : gm_next E 91 35 lv (b0 :: .ref a :: st) h = some (.inr (.inl (0, 93, [.ref a, b0], st))) := gn_call m91 f91_35 rfl rfl rfl rfl rfl rfl rfl (gc_virt (bs := [b0]) (w := 824) rfl rfl rfl rfl hs he hr) (by decide)
theorem f91_38 : gm_ft 91 38 = some (.ifCond .eq 5, 3) := by decide +kernel
theorem r91_38 {E : Nat → Value} {d : Nat} {st : List Value} {h : gm_H} {r : gm_R × gm_H} {lv : List Value} {x : Int32} : gm_Go E d 91 38 lv (.int x :: st) h r ↔ (if x = 0 then gm_Go E d 91 43 lv st h r else gm_Go E d 91 41 lv st h r) := (gr_br m91 f91_38 rfl rfl rfl rfl).trans gr_if
theorem f91_41 : gm_ft 91 41 = some (.iconst (-1), 1) := by decide +kernel
theorem r91_41 {E : Nat → Value} {d : Nat} {st : List Value} {h : gm_H} {r : gm_R × gm_H} {lv : List Value} : gm_Go E d 91 41 lv st h r ↔ gm_Go E d 91 42 lv (.int (-1 : Int32) :: st) h r := gr_pure m91 f91_41 rfl
theorem f91_42 : gm_ft 91 42 = some (.ireturn, 1) := by decide +kernel
theorem r91_42 {E : Nat → Value} {d : Nat} {h : gm_H} {r : gm_R × gm_H} {lv : List Value} {x : Int32} : gm_Go E d 91 42 lv [.int x] h r ↔ r = (.inl (some (.int x)), h) := gr_ret m91 f91_42 rfl rfl rfl rfl rfl rfl rfl rfl (by unfold gm_rt; dsimp only; rw [if_pos ⟨rfl, rfl⟩])
theorem f91_43 : gm_ft 91 43 = some (.aload_n 0, 1) := by decide +kernel
theorem r91_43 {E : Nat → Value} {d : Nat} {st : List Value} {h : gm_H} {r : gm_R × gm_H} {a1 a2 a3 a4 a5 : Value} {x : Nat} : gm_Go E d 91 43 [.ref x, a1, a2, a3, a4, a5] st h r ↔ gm_Go E d 91 44 [.ref x, a1, a2, a3, a4, a5] (.ref x :: st) h r := gr_loc m91 f91_43 rfl rfl
theorem r91_43n {E : Nat → Value} {d : Nat} {st : List Value} {h : gm_H} {r : gm_R × gm_H} {a1 a2 a3 a4 a5 : Value}  : gm_Go E d 91 43 [.null, a1, a2, a3, a4, a5] st h r ↔ gm_Go E d 91 44 [.null, a1, a2, a3, a4, a5] (.null :: st) h r := gr_loc m91 f91_43 rfl rfl
theorem f91_44 : gm_ft 91 44 = some (.getfield 13, 3) := by decide +kernel
theorem r91_44 {E : Nat → Value} {d : Nat} {st : List Value} {h : gm_H} {r : gm_R × gm_H} {lv : List Value} {a : Nat} {vs : List Value} {v : Value} (hr : gm_rd h a = some (5, vs)) (hv : vs[10]? = some v) : gm_Go E d 91 44 lv (.ref a :: st) h r ↔ gm_Go E d 91 47 lv (v :: st) h r := gr_rd m91 f91_44 rfl rfl rfl rfl (gf_get k5_13 hr hv)
theorem f91_47 : gm_ft 91 47 = some (.iload_n 1, 1) := by decide +kernel
theorem r91_47 {E : Nat → Value} {d : Nat} {st : List Value} {h : gm_H} {r : gm_R × gm_H} {a0 a2 a3 a4 a5 : Value} {x : Int32} : gm_Go E d 91 47 [a0, .int x, a2, a3, a4, a5] st h r ↔ gm_Go E d 91 48 [a0, .int x, a2, a3, a4, a5] (.int x :: st) h r := gr_loc m91 f91_47 rfl rfl
theorem f91_48 : gm_ft 91 48 = some (.iaload, 1) := by decide +kernel
theorem r91_48 {E : Nat → Value} {d : Nat} {st : List Value} {h : gm_H} {r : gm_R × gm_H} {lv : List Value} {a k j : Nat} {vs : List Value} {v : Value} (hr : gm_rd h a = some (k, vs)) (hk : 100 ≤ k ∧ (fun t => t == 0) (k % 100) = true) (hj : j < 2 ^ 31) (hv : vs[j]? = some v) : gm_Go E d 91 48 lv (.int (nI j) :: .ref a :: st) h r ↔ gm_Go E d 91 49 lv (v :: st) h r := gr_rd m91 f91_48 rfl rfl rfl rfl (ga_ld (P := fun t => t == 0) hr hk hj hv)
theorem f91_49 : gm_ft 91 49 = some (.ifCond .lt 5, 3) := by decide +kernel
theorem r91_49 {E : Nat → Value} {d : Nat} {st : List Value} {h : gm_H} {r : gm_R × gm_H} {lv : List Value} {x : Int32} : gm_Go E d 91 49 lv (.int x :: st) h r ↔ (if x < 0 then gm_Go E d 91 54 lv st h r else gm_Go E d 91 52 lv st h r) := (gr_br m91 f91_49 rfl rfl rfl rfl).trans gr_if
theorem f91_52 : gm_ft 91 52 = some (.iconst (-1), 1) := by decide +kernel
theorem r91_52 {E : Nat → Value} {d : Nat} {st : List Value} {h : gm_H} {r : gm_R × gm_H} {lv : List Value} : gm_Go E d 91 52 lv st h r ↔ gm_Go E d 91 53 lv (.int (-1 : Int32) :: st) h r := gr_pure m91 f91_52 rfl
theorem f91_53 : gm_ft 91 53 = some (.ireturn, 1) := by decide +kernel
theorem r91_53 {E : Nat → Value} {d : Nat} {h : gm_H} {r : gm_R × gm_H} {lv : List Value} {x : Int32} : gm_Go E d 91 53 lv [.int x] h r ↔ r = (.inl (some (.int x)), h) := gr_ret m91 f91_53 rfl rfl rfl rfl rfl rfl rfl rfl (by unfold gm_rt; dsimp only; rw [if_pos ⟨rfl, rfl⟩])
theorem f91_54 : gm_ft 91 54 = some (.iload_n 3, 1) := by decide +kernel
theorem r91_54 {E : Nat → Value} {d : Nat} {st : List Value} {h : gm_H} {r : gm_R × gm_H} {a0 a1 a2 a4 a5 : Value} {x : Int32} : gm_Go E d 91 54 [a0, a1, a2, .int x, a4, a5] st h r ↔ gm_Go E d 91 55 [a0, a1, a2, .int x, a4, a5] (.int x :: st) h r := gr_loc m91 f91_54 rfl rfl
theorem f91_55 : gm_ft 91 55 = some (.ifCond .lt 33, 3) := by decide +kernel
theorem r91_55 {E : Nat → Value} {d : Nat} {st : List Value} {h : gm_H} {r : gm_R × gm_H} {lv : List Value} {x : Int32} : gm_Go E d 91 55 lv (.int x :: st) h r ↔ (if x < 0 then gm_Go E d 91 88 lv st h r else gm_Go E d 91 58 lv st h r) := (gr_br m91 f91_55 rfl rfl rfl rfl).trans gr_if
theorem f91_58 : gm_ft 91 58 = some (.iload_n 2, 1) := by decide +kernel
theorem r91_58 {E : Nat → Value} {d : Nat} {st : List Value} {h : gm_H} {r : gm_R × gm_H} {a0 a1 a3 a4 a5 : Value} {x : Int32} : gm_Go E d 91 58 [a0, a1, .int x, a3, a4, a5] st h r ↔ gm_Go E d 91 59 [a0, a1, .int x, a3, a4, a5] (.int x :: st) h r := gr_loc m91 f91_58 rfl rfl
theorem f91_59 : gm_ft 91 59 = some (.iconst 2, 1) := by decide +kernel
theorem r91_59 {E : Nat → Value} {d : Nat} {st : List Value} {h : gm_H} {r : gm_R × gm_H} {lv : List Value} : gm_Go E d 91 59 lv st h r ↔ gm_Go E d 91 60 lv (.int (2 : Int32) :: st) h r := gr_pure m91 f91_59 rfl
theorem f91_60 : gm_ft 91 60 = some (.if_icmp .gt 26, 3) := by decide +kernel
theorem r91_60 {E : Nat → Value} {d : Nat} {st : List Value} {h : gm_H} {r : gm_R × gm_H} {lv : List Value} {x y : Int32} : gm_Go E d 91 60 lv (.int y :: .int x :: st) h r ↔ (if y < x then gm_Go E d 91 86 lv st h r else gm_Go E d 91 63 lv st h r) := (gr_br m91 f91_60 rfl rfl rfl rfl).trans gr_if
theorem f91_63 : gm_ft 91 63 = some (.aload_n 0, 1) := by decide +kernel
theorem r91_63 {E : Nat → Value} {d : Nat} {st : List Value} {h : gm_H} {r : gm_R × gm_H} {a1 a2 a3 a4 a5 : Value} {x : Nat} : gm_Go E d 91 63 [.ref x, a1, a2, a3, a4, a5] st h r ↔ gm_Go E d 91 64 [.ref x, a1, a2, a3, a4, a5] (.ref x :: st) h r := gr_loc m91 f91_63 rfl rfl
theorem r91_63n {E : Nat → Value} {d : Nat} {st : List Value} {h : gm_H} {r : gm_R × gm_H} {a1 a2 a3 a4 a5 : Value}  : gm_Go E d 91 63 [.null, a1, a2, a3, a4, a5] st h r ↔ gm_Go E d 91 64 [.null, a1, a2, a3, a4, a5] (.null :: st) h r := gr_loc m91 f91_63 rfl rfl
theorem f91_64 : gm_ft 91 64 = some (.getfield 13, 3) := by decide +kernel
theorem r91_64 {E : Nat → Value} {d : Nat} {st : List Value} {h : gm_H} {r : gm_R × gm_H} {lv : List Value} {a : Nat} {vs : List Value} {v : Value} (hr : gm_rd h a = some (5, vs)) (hv : vs[10]? = some v) : gm_Go E d 91 64 lv (.ref a :: st) h r ↔ gm_Go E d 91 67 lv (v :: st) h r := gr_rd m91 f91_64 rfl rfl rfl rfl (gf_get k5_13 hr hv)
theorem f91_67 : gm_ft 91 67 = some (.iload_n 3, 1) := by decide +kernel
theorem r91_67 {E : Nat → Value} {d : Nat} {st : List Value} {h : gm_H} {r : gm_R × gm_H} {a0 a1 a2 a4 a5 : Value} {x : Int32} : gm_Go E d 91 67 [a0, a1, a2, .int x, a4, a5] st h r ↔ gm_Go E d 91 68 [a0, a1, a2, .int x, a4, a5] (.int x :: st) h r := gr_loc m91 f91_67 rfl rfl
theorem f91_68 : gm_ft 91 68 = some (.iaload, 1) := by decide +kernel
theorem r91_68 {E : Nat → Value} {d : Nat} {st : List Value} {h : gm_H} {r : gm_R × gm_H} {lv : List Value} {a k j : Nat} {vs : List Value} {v : Value} (hr : gm_rd h a = some (k, vs)) (hk : 100 ≤ k ∧ (fun t => t == 0) (k % 100) = true) (hj : j < 2 ^ 31) (hv : vs[j]? = some v) : gm_Go E d 91 68 lv (.int (nI j) :: .ref a :: st) h r ↔ gm_Go E d 91 69 lv (v :: st) h r := gr_rd m91 f91_68 rfl rfl rfl rfl (ga_ld (P := fun t => t == 0) hr hk hj hv)
theorem f91_69 : gm_ft 91 69 = some (.iconst 2, 1) := by decide +kernel
theorem r91_69 {E : Nat → Value} {d : Nat} {st : List Value} {h : gm_H} {r : gm_R × gm_H} {lv : List Value} : gm_Go E d 91 69 lv st h r ↔ gm_Go E d 91 70 lv (.int (2 : Int32) :: st) h r := gr_pure m91 f91_69 rfl
theorem f91_70 : gm_ft 91 70 = some (.if_icmp .gt 16, 3) := by decide +kernel
theorem r91_70 {E : Nat → Value} {d : Nat} {st : List Value} {h : gm_H} {r : gm_R × gm_H} {lv : List Value} {x y : Int32} : gm_Go E d 91 70 lv (.int y :: .int x :: st) h r ↔ (if y < x then gm_Go E d 91 86 lv st h r else gm_Go E d 91 73 lv st h r) := (gr_br m91 f91_70 rfl rfl rfl rfl).trans gr_if
theorem f91_73 : gm_ft 91 73 = some (.iload_n 2, 1) := by decide +kernel
theorem r91_73 {E : Nat → Value} {d : Nat} {st : List Value} {h : gm_H} {r : gm_R × gm_H} {a0 a1 a3 a4 a5 : Value} {x : Int32} : gm_Go E d 91 73 [a0, a1, .int x, a3, a4, a5] st h r ↔ gm_Go E d 91 74 [a0, a1, .int x, a3, a4, a5] (.int x :: st) h r := gr_loc m91 f91_73 rfl rfl
theorem f91_74 : gm_ft 91 74 = some (.ifCond .ne 14, 3) := by decide +kernel
theorem r91_74 {E : Nat → Value} {d : Nat} {st : List Value} {h : gm_H} {r : gm_R × gm_H} {lv : List Value} {x : Int32} : gm_Go E d 91 74 lv (.int x :: st) h r ↔ (if x = 0 then gm_Go E d 91 77 lv st h r else gm_Go E d 91 88 lv st h r) := (gr_br m91 f91_74 rfl rfl rfl rfl).trans gr_ifn
theorem f91_77 : gm_ft 91 77 = some (.aload_n 0, 1) := by decide +kernel
theorem r91_77 {E : Nat → Value} {d : Nat} {st : List Value} {h : gm_H} {r : gm_R × gm_H} {a1 a2 a3 a4 a5 : Value} {x : Nat} : gm_Go E d 91 77 [.ref x, a1, a2, a3, a4, a5] st h r ↔ gm_Go E d 91 78 [.ref x, a1, a2, a3, a4, a5] (.ref x :: st) h r := gr_loc m91 f91_77 rfl rfl
theorem r91_77n {E : Nat → Value} {d : Nat} {st : List Value} {h : gm_H} {r : gm_R × gm_H} {a1 a2 a3 a4 a5 : Value}  : gm_Go E d 91 77 [.null, a1, a2, a3, a4, a5] st h r ↔ gm_Go E d 91 78 [.null, a1, a2, a3, a4, a5] (.null :: st) h r := gr_loc m91 f91_77 rfl rfl
theorem f91_78 : gm_ft 91 78 = some (.getfield 13, 3) := by decide +kernel
theorem r91_78 {E : Nat → Value} {d : Nat} {st : List Value} {h : gm_H} {r : gm_R × gm_H} {lv : List Value} {a : Nat} {vs : List Value} {v : Value} (hr : gm_rd h a = some (5, vs)) (hv : vs[10]? = some v) : gm_Go E d 91 78 lv (.ref a :: st) h r ↔ gm_Go E d 91 81 lv (v :: st) h r := gr_rd m91 f91_78 rfl rfl rfl rfl (gf_get k5_13 hr hv)
theorem f91_81 : gm_ft 91 81 = some (.iload_n 3, 1) := by decide +kernel
theorem r91_81 {E : Nat → Value} {d : Nat} {st : List Value} {h : gm_H} {r : gm_R × gm_H} {a0 a1 a2 a4 a5 : Value} {x : Int32} : gm_Go E d 91 81 [a0, a1, a2, .int x, a4, a5] st h r ↔ gm_Go E d 91 82 [a0, a1, a2, .int x, a4, a5] (.int x :: st) h r := gr_loc m91 f91_81 rfl rfl
theorem f91_82 : gm_ft 91 82 = some (.iaload, 1) := by decide +kernel
theorem r91_82 {E : Nat → Value} {d : Nat} {st : List Value} {h : gm_H} {r : gm_R × gm_H} {lv : List Value} {a k j : Nat} {vs : List Value} {v : Value} (hr : gm_rd h a = some (k, vs)) (hk : 100 ≤ k ∧ (fun t => t == 0) (k % 100) = true) (hj : j < 2 ^ 31) (hv : vs[j]? = some v) : gm_Go E d 91 82 lv (.int (nI j) :: .ref a :: st) h r ↔ gm_Go E d 91 83 lv (v :: st) h r := gr_rd m91 f91_82 rfl rfl rfl rfl (ga_ld (P := fun t => t == 0) hr hk hj hv)
theorem f91_83 : gm_ft 91 83 = some (.ifCond .eq 5, 3) := by decide +kernel
theorem r91_83 {E : Nat → Value} {d : Nat} {st : List Value} {h : gm_H} {r : gm_R × gm_H} {lv : List Value} {x : Int32} : gm_Go E d 91 83 lv (.int x :: st) h r ↔ (if x = 0 then gm_Go E d 91 88 lv st h r else gm_Go E d 91 86 lv st h r) := (gr_br m91 f91_83 rfl rfl rfl rfl).trans gr_if
theorem f91_86 : gm_ft 91 86 = some (.iconst (-1), 1) := by decide +kernel
theorem r91_86 {E : Nat → Value} {d : Nat} {st : List Value} {h : gm_H} {r : gm_R × gm_H} {lv : List Value} : gm_Go E d 91 86 lv st h r ↔ gm_Go E d 91 87 lv (.int (-1 : Int32) :: st) h r := gr_pure m91 f91_86 rfl
theorem f91_87 : gm_ft 91 87 = some (.ireturn, 1) := by decide +kernel
theorem r91_87 {E : Nat → Value} {d : Nat} {h : gm_H} {r : gm_R × gm_H} {lv : List Value} {x : Int32} : gm_Go E d 91 87 lv [.int x] h r ↔ r = (.inl (some (.int x)), h) := gr_ret m91 f91_87 rfl rfl rfl rfl rfl rfl rfl rfl (by unfold gm_rt; dsimp only; rw [if_pos ⟨rfl, rfl⟩])
theorem f91_88 : gm_ft 91 88 = some (.aload_n 0, 1) := by decide +kernel
theorem r91_88 {E : Nat → Value} {d : Nat} {st : List Value} {h : gm_H} {r : gm_R × gm_H} {a1 a2 a3 a4 a5 : Value} {x : Nat} : gm_Go E d 91 88 [.ref x, a1, a2, a3, a4, a5] st h r ↔ gm_Go E d 91 89 [.ref x, a1, a2, a3, a4, a5] (.ref x :: st) h r := gr_loc m91 f91_88 rfl rfl
theorem r91_88n {E : Nat → Value} {d : Nat} {st : List Value} {h : gm_H} {r : gm_R × gm_H} {a1 a2 a3 a4 a5 : Value}  : gm_Go E d 91 88 [.null, a1, a2, a3, a4, a5] st h r ↔ gm_Go E d 91 89 [.null, a1, a2, a3, a4, a5] (.null :: st) h r := gr_loc m91 f91_88 rfl rfl
theorem f91_89 : gm_ft 91 89 = some (.getfield 13, 3) := by decide +kernel
theorem r91_89 {E : Nat → Value} {d : Nat} {st : List Value} {h : gm_H} {r : gm_R × gm_H} {lv : List Value} {a : Nat} {vs : List Value} {v : Value} (hr : gm_rd h a = some (5, vs)) (hv : vs[10]? = some v) : gm_Go E d 91 89 lv (.ref a :: st) h r ↔ gm_Go E d 91 92 lv (v :: st) h r := gr_rd m91 f91_89 rfl rfl rfl rfl (gf_get k5_13 hr hv)
theorem f91_92 : gm_ft 91 92 = some (.iload_n 1, 1) := by decide +kernel
theorem r91_92 {E : Nat → Value} {d : Nat} {st : List Value} {h : gm_H} {r : gm_R × gm_H} {a0 a2 a3 a4 a5 : Value} {x : Int32} : gm_Go E d 91 92 [a0, .int x, a2, a3, a4, a5] st h r ↔ gm_Go E d 91 93 [a0, .int x, a2, a3, a4, a5] (.int x :: st) h r := gr_loc m91 f91_92 rfl rfl
theorem f91_93 : gm_ft 91 93 = some (.iload_n 2, 1) := by decide +kernel
theorem r91_93 {E : Nat → Value} {d : Nat} {st : List Value} {h : gm_H} {r : gm_R × gm_H} {a0 a1 a3 a4 a5 : Value} {x : Int32} : gm_Go E d 91 93 [a0, a1, .int x, a3, a4, a5] st h r ↔ gm_Go E d 91 94 [a0, a1, .int x, a3, a4, a5] (.int x :: st) h r := gr_loc m91 f91_93 rfl rfl
theorem f91_94 : gm_ft 91 94 = some (.iastore, 1) := by decide +kernel
theorem r91_94 {E : Nat → Value} {d : Nat} {st : List Value} {h : gm_H} {r : gm_R × gm_H} {lv : List Value} {a k j : Nat} {vs : List Value} {x : Int32} (hr : gm_rd h a = some (k, vs)) (hk : 100 ≤ k ∧ k % 100 = 0 ∧ gm_ko k = 2 ∧ 2 < 3) (hj : j < 2 ^ 31) (hl : j < vs.length) : gm_Go E d 91 94 lv (.int x :: .int (nI j) :: .ref a :: st) h r ↔ gm_Go E d 91 95 lv st (gm_wr h a (k, vs.set j (.int x))) r := gr_wr m91 f91_94 rfl rfl rfl rfl rfl (ga_st hr hk hj hl)
theorem f91_95 : gm_ft 91 95 = some (.aload_n 0, 1) := by decide +kernel
theorem r91_95 {E : Nat → Value} {d : Nat} {st : List Value} {h : gm_H} {r : gm_R × gm_H} {a1 a2 a3 a4 a5 : Value} {x : Nat} : gm_Go E d 91 95 [.ref x, a1, a2, a3, a4, a5] st h r ↔ gm_Go E d 91 96 [.ref x, a1, a2, a3, a4, a5] (.ref x :: st) h r := gr_loc m91 f91_95 rfl rfl
theorem r91_95n {E : Nat → Value} {d : Nat} {st : List Value} {h : gm_H} {r : gm_R × gm_H} {a1 a2 a3 a4 a5 : Value}  : gm_Go E d 91 95 [.null, a1, a2, a3, a4, a5] st h r ↔ gm_Go E d 91 96 [.null, a1, a2, a3, a4, a5] (.null :: st) h r := gr_loc m91 f91_95 rfl rfl
theorem f91_96 : gm_ft 91 96 = some (.getfield 20, 3) := by decide +kernel
theorem r91_96 {E : Nat → Value} {d : Nat} {st : List Value} {h : gm_H} {r : gm_R × gm_H} {lv : List Value} {a : Nat} {vs : List Value} {v : Value} (hr : gm_rd h a = some (5, vs)) (hv : vs[12]? = some v) : gm_Go E d 91 96 lv (.ref a :: st) h r ↔ gm_Go E d 91 99 lv (v :: st) h r := gr_rd m91 f91_96 rfl rfl rfl rfl (gf_get k5_20 hr hv)
theorem f91_99 : gm_ft 91 99 = some (.iload_n 1, 1) := by decide +kernel
theorem r91_99 {E : Nat → Value} {d : Nat} {st : List Value} {h : gm_H} {r : gm_R × gm_H} {a0 a2 a3 a4 a5 : Value} {x : Int32} : gm_Go E d 91 99 [a0, .int x, a2, a3, a4, a5] st h r ↔ gm_Go E d 91 100 [a0, .int x, a2, a3, a4, a5] (.int x :: st) h r := gr_loc m91 f91_99 rfl rfl
theorem f91_100 : gm_ft 91 100 = some (.iload_n 3, 1) := by decide +kernel
theorem r91_100 {E : Nat → Value} {d : Nat} {st : List Value} {h : gm_H} {r : gm_R × gm_H} {a0 a1 a2 a4 a5 : Value} {x : Int32} : gm_Go E d 91 100 [a0, a1, a2, .int x, a4, a5] st h r ↔ gm_Go E d 91 101 [a0, a1, a2, .int x, a4, a5] (.int x :: st) h r := gr_loc m91 f91_100 rfl rfl
theorem f91_101 : gm_ft 91 101 = some (.iastore, 1) := by decide +kernel
theorem r91_101 {E : Nat → Value} {d : Nat} {st : List Value} {h : gm_H} {r : gm_R × gm_H} {lv : List Value} {a k j : Nat} {vs : List Value} {x : Int32} (hr : gm_rd h a = some (k, vs)) (hk : 100 ≤ k ∧ k % 100 = 0 ∧ gm_ko k = 2 ∧ 2 < 3) (hj : j < 2 ^ 31) (hl : j < vs.length) : gm_Go E d 91 101 lv (.int x :: .int (nI j) :: .ref a :: st) h r ↔ gm_Go E d 91 102 lv st (gm_wr h a (k, vs.set j (.int x))) r := gr_wr m91 f91_101 rfl rfl rfl rfl rfl (ga_st hr hk hj hl)
theorem f91_102 : gm_ft 91 102 = some (.aload_n 0, 1) := by decide +kernel
theorem r91_102 {E : Nat → Value} {d : Nat} {st : List Value} {h : gm_H} {r : gm_R × gm_H} {a1 a2 a3 a4 a5 : Value} {x : Nat} : gm_Go E d 91 102 [.ref x, a1, a2, a3, a4, a5] st h r ↔ gm_Go E d 91 103 [.ref x, a1, a2, a3, a4, a5] (.ref x :: st) h r := gr_loc m91 f91_102 rfl rfl
theorem r91_102n {E : Nat → Value} {d : Nat} {st : List Value} {h : gm_H} {r : gm_R × gm_H} {a1 a2 a3 a4 a5 : Value}  : gm_Go E d 91 102 [.null, a1, a2, a3, a4, a5] st h r ↔ gm_Go E d 91 103 [.null, a1, a2, a3, a4, a5] (.null :: st) h r := gr_loc m91 f91_102 rfl rfl
theorem f91_103 : gm_ft 91 103 = some (.getfield 16, 3) := by decide +kernel
theorem r91_103 {E : Nat → Value} {d : Nat} {st : List Value} {h : gm_H} {r : gm_R × gm_H} {lv : List Value} {a : Nat} {vs : List Value} {v : Value} (hr : gm_rd h a = some (5, vs)) (hv : vs[11]? = some v) : gm_Go E d 91 103 lv (.ref a :: st) h r ↔ gm_Go E d 91 106 lv (v :: st) h r := gr_rd m91 f91_103 rfl rfl rfl rfl (gf_get k5_16 hr hv)
theorem f91_106 : gm_ft 91 106 = some (.iload_n 1, 1) := by decide +kernel
theorem r91_106 {E : Nat → Value} {d : Nat} {st : List Value} {h : gm_H} {r : gm_R × gm_H} {a0 a2 a3 a4 a5 : Value} {x : Int32} : gm_Go E d 91 106 [a0, .int x, a2, a3, a4, a5] st h r ↔ gm_Go E d 91 107 [a0, .int x, a2, a3, a4, a5] (.int x :: st) h r := gr_loc m91 f91_106 rfl rfl
theorem f91_107 : gm_ft 91 107 = some (.lload 4, 2) := by decide +kernel
theorem r91_107 {E : Nat → Value} {d : Nat} {st : List Value} {h : gm_H} {r : gm_R × gm_H} {a0 a1 a2 a3 a5 : Value} {x : Int64} : gm_Go E d 91 107 [a0, a1, a2, a3, .long x, a5] st h r ↔ gm_Go E d 91 109 [a0, a1, a2, a3, .long x, a5] (.long x :: st) h r := gr_loc m91 f91_107 rfl rfl
theorem f91_109 : gm_ft 91 109 = some (.lastore, 1) := by decide +kernel
theorem r91_109 {E : Nat → Value} {d : Nat} {st : List Value} {h : gm_H} {r : gm_R × gm_H} {lv : List Value} {a k j : Nat} {vs : List Value} {x : Int64} (hr : gm_rd h a = some (k, vs)) (hk : 100 ≤ k ∧ k % 100 = 1 ∧ gm_ko k = 2 ∧ 2 < 3) (hj : j < 2 ^ 31) (hl : j < vs.length) : gm_Go E d 91 109 lv (.long x :: .int (nI j) :: .ref a :: st) h r ↔ gm_Go E d 91 110 lv st (gm_wr h a (k, vs.set j (.long x))) r := gr_wr m91 f91_109 rfl rfl rfl rfl rfl (ga_st hr hk hj hl)
theorem f91_110 : gm_ft 91 110 = some (.iconst 0, 1) := by decide +kernel
theorem r91_110 {E : Nat → Value} {d : Nat} {st : List Value} {h : gm_H} {r : gm_R × gm_H} {lv : List Value} : gm_Go E d 91 110 lv st h r ↔ gm_Go E d 91 111 lv (.int (0 : Int32) :: st) h r := gr_pure m91 f91_110 rfl
theorem f91_111 : gm_ft 91 111 = some (.ireturn, 1) := by decide +kernel
theorem r91_111 {E : Nat → Value} {d : Nat} {h : gm_H} {r : gm_R × gm_H} {lv : List Value} {x : Int32} : gm_Go E d 91 111 lv [.int x] h r ↔ r = (.inl (some (.int x)), h) := gr_ret m91 f91_111 rfl rfl rfl rfl rfl rfl rfl rfl (by unfold gm_rt; dsimp only; rw [if_pos ⟨rfl, rfl⟩])
/-! GraphReaderModel.out(II)Z -/
theorem m92 : gm_mt[92]? = some (⟨"GraphReaderModel", "out", "(II)Z"⟩, prog_7_method_3_code, 3, (some .boolean), [], 5, 2) := rfl
theorem f92_0 : gm_ft 92 0 = some (.iload_n 1, 1) := by decide +kernel
theorem r92_0 {E : Nat → Value} {d : Nat} {st : List Value} {h : gm_H} {r : gm_R × gm_H} {a0 a2 : Value} {x : Int32} : gm_Go E d 92 0 [a0, .int x, a2] st h r ↔ gm_Go E d 92 1 [a0, .int x, a2] (.int x :: st) h r := gr_loc m92 f92_0 rfl rfl
theorem f92_1 : gm_ft 92 1 = some (.ifCond .lt 8, 3) := by decide +kernel
theorem r92_1 {E : Nat → Value} {d : Nat} {st : List Value} {h : gm_H} {r : gm_R × gm_H} {lv : List Value} {x : Int32} : gm_Go E d 92 1 lv (.int x :: st) h r ↔ (if x < 0 then gm_Go E d 92 9 lv st h r else gm_Go E d 92 4 lv st h r) := (gr_br m92 f92_1 rfl rfl rfl rfl).trans gr_if
theorem f92_4 : gm_ft 92 4 = some (.iload_n 1, 1) := by decide +kernel
theorem r92_4 {E : Nat → Value} {d : Nat} {st : List Value} {h : gm_H} {r : gm_R × gm_H} {a0 a2 : Value} {x : Int32} : gm_Go E d 92 4 [a0, .int x, a2] st h r ↔ gm_Go E d 92 5 [a0, .int x, a2] (.int x :: st) h r := gr_loc m92 f92_4 rfl rfl
theorem f92_5 : gm_ft 92 5 = some (.iload_n 2, 1) := by decide +kernel
theorem r92_5 {E : Nat → Value} {d : Nat} {st : List Value} {h : gm_H} {r : gm_R × gm_H} {a0 a1 : Value} {x : Int32} : gm_Go E d 92 5 [a0, a1, .int x] st h r ↔ gm_Go E d 92 6 [a0, a1, .int x] (.int x :: st) h r := gr_loc m92 f92_5 rfl rfl
theorem f92_6 : gm_ft 92 6 = some (.if_icmp .lt 7, 3) := by decide +kernel
theorem r92_6 {E : Nat → Value} {d : Nat} {st : List Value} {h : gm_H} {r : gm_R × gm_H} {lv : List Value} {x y : Int32} : gm_Go E d 92 6 lv (.int y :: .int x :: st) h r ↔ (if x < y then gm_Go E d 92 13 lv st h r else gm_Go E d 92 9 lv st h r) := (gr_br m92 f92_6 rfl rfl rfl rfl).trans gr_if
theorem f92_9 : gm_ft 92 9 = some (.iconst 1, 1) := by decide +kernel
theorem r92_9 {E : Nat → Value} {d : Nat} {st : List Value} {h : gm_H} {r : gm_R × gm_H} {lv : List Value} : gm_Go E d 92 9 lv st h r ↔ gm_Go E d 92 10 lv (.int (1 : Int32) :: st) h r := gr_pure m92 f92_9 rfl
theorem f92_10 : gm_ft 92 10 = some (.goto 4, 3) := by decide +kernel
theorem r92_10 {E : Nat → Value} {d : Nat} {st : List Value} {h : gm_H} {r : gm_R × gm_H} {lv : List Value} : gm_Go E d 92 10 lv st h r ↔ gm_Go E d 92 14 lv st h r := gr_brT m92 f92_10 rfl rfl rfl rfl
theorem f92_13 : gm_ft 92 13 = some (.iconst 0, 1) := by decide +kernel
theorem r92_13 {E : Nat → Value} {d : Nat} {st : List Value} {h : gm_H} {r : gm_R × gm_H} {lv : List Value} : gm_Go E d 92 13 lv st h r ↔ gm_Go E d 92 14 lv (.int (0 : Int32) :: st) h r := gr_pure m92 f92_13 rfl
theorem f92_14 : gm_ft 92 14 = some (.ireturn, 1) := by decide +kernel
theorem r92_14_0 {E : Nat → Value} {d : Nat} {h : gm_H} {r : gm_R × gm_H} {lv : List Value} : gm_Go E d 92 14 lv [.int (0 : Int32)] h r ↔ r = (.inl (some (.int (0 : Int32))), h) := gr_ret m92 f92_14 rfl rfl rfl rfl rfl rfl rfl rfl (by unfold gm_rt; dsimp only; rw [if_pos ⟨rfl, rfl⟩])
theorem r92_14_1 {E : Nat → Value} {d : Nat} {h : gm_H} {r : gm_R × gm_H} {lv : List Value} : gm_Go E d 92 14 lv [.int (1 : Int32)] h r ↔ r = (.inl (some (.int (1 : Int32))), h) := gr_ret m92 f92_14 rfl rfl rfl rfl rfl rfl rfl rfl (by unfold gm_rt; dsimp only; rw [if_pos ⟨rfl, rfl⟩])
