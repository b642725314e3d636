/-! GraphReader.<init>(IIII)V -/
theorem m1 : gm_mt[1]? = some (⟨"GraphReader", "<init>", "(IIII)V"⟩, prog_1_method_1_code, 5, none, [], 0, 1) := rfl
theorem f1_0 : gm_ft 1 0 = some (.aload_n 0, 1) := by decide +kernel
theorem r1_0 {E : Nat → Value} {d : Nat} {st : List Value} {h : gm_H} {r : gm_R × gm_H} {a1 a2 a3 a4 : Value} {x : Nat} : gm_Go E d 1 0 [.ref x, a1, a2, a3, a4] st h r ↔ gm_Go E d 1 1 [.ref x, a1, a2, a3, a4] (.ref x :: st) h r := gr_loc m1 f1_0 rfl rfl
theorem r1_0n {E : Nat → Value} {d : Nat} {st : List Value} {h : gm_H} {r : gm_R × gm_H} {a1 a2 a3 a4 : Value}  : gm_Go E d 1 0 [.null, a1, a2, a3, a4] st h r ↔ gm_Go E d 1 1 [.null, a1, a2, a3, a4] (.null :: st) h r := gr_loc m1 f1_0 rfl rfl
theorem f1_1 : gm_ft 1 1 = some (.invokespecial 3, 3) := by decide +kernel
theorem r1_1 {E : Nat → Value} {d : Nat} {st : List Value} {h : gm_H} {r : gm_R × gm_H} {lv : List Value} {a : Nat} (hs : (st.map fun v => v.category).sum ≤ 8) : gm_Go E d 1 1 lv (.ref a :: st) h r ↔ gm_Go E d 1 4 lv st h r := gr_oi m1 f1_1 rfl rfl rfl rfl rfl rfl rfl (gc_spec (w := 22) rfl hs (by decide))
theorem f1_4 : gm_ft 1 4 = some (.aload_n 0, 1) := by decide +kernel
theorem r1_4 {E : Nat → Value} {d : Nat} {st : List Value} {h : gm_H} {r : gm_R × gm_H} {a1 a2 a3 a4 : Value} {x : Nat} : gm_Go E d 1 4 [.ref x, a1, a2, a3, a4] st h r ↔ gm_Go E d 1 5 [.ref x, a1, a2, a3, a4] (.ref x :: st) h r := gr_loc m1 f1_4 rfl rfl
theorem r1_4n {E : Nat → Value} {d : Nat} {st : List Value} {h : gm_H} {r : gm_R × gm_H} {a1 a2 a3 a4 : Value}  : gm_Go E d 1 4 [.null, a1, a2, a3, a4] st h r ↔ gm_Go E d 1 5 [.null, a1, a2, a3, a4] (.null :: st) h r := gr_loc m1 f1_4 rfl rfl
theorem f1_5 : gm_ft 1 5 = some (.bipush 6, 2) := by decide +kernel
theorem r1_5 {E : Nat → Value} {d : Nat} {st : List Value} {h : gm_H} {r : gm_R × gm_H} {lv : List Value} : gm_Go E d 1 5 lv st h r ↔ gm_Go E d 1 7 lv (.int (6 : Int32) :: st) h r := gr_pure m1 f1_5 rfl
theorem f1_7 : gm_ft 1 7 = some (.anewarray 9, 3) := by decide +kernel
theorem f1_10 : gm_ft 1 10 = some (.putfield 11, 3) := by decide +kernel
theorem r1_10 {E : Nat → Value} {d : Nat} {st : List Value} {h : gm_H} {r : gm_R × gm_H} {lv : List Value} {a : Nat} {vs : List Value} {v : Value} (hr : gm_rd h a = some (0, vs)) (hk : 4 < vs.length) (hn : narrow (gm_ty 0 4) v = v ∧ fits (gm_ty 0 4) v = true) : gm_Go E d 1 10 lv (v :: .ref a :: st) h r ↔ gm_Go E d 1 13 lv st (gm_wr h a (0, vs.set 4 v)) r := gr_wr m1 f1_10 rfl rfl rfl rfl rfl (gf_put k0_11 hr (by decide) hk hn (by decide))
theorem f1_13 : gm_ft 1 13 = some (.aload_n 0, 1) := by decide +kernel
theorem r1_13 {E : Nat → Value} {d : Nat} {st : List Value} {h : gm_H} {r : gm_R × gm_H} {a1 a2 a3 a4 : Value} {x : Nat} : gm_Go E d 1 13 [.ref x, a1, a2, a3, a4] st h r ↔ gm_Go E d 1 14 [.ref x, a1, a2, a3, a4] (.ref x :: st) h r := gr_loc m1 f1_13 rfl rfl
theorem r1_13n {E : Nat → Value} {d : Nat} {st : List Value} {h : gm_H} {r : gm_R × gm_H} {a1 a2 a3 a4 : Value}  : gm_Go E d 1 13 [.null, a1, a2, a3, a4] st h r ↔ gm_Go E d 1 14 [.null, a1, a2, a3, a4] (.null :: st) h r := gr_loc m1 f1_13 rfl rfl
theorem f1_14 : gm_ft 1 14 = some (.sipush 700, 3) := by decide +kernel
theorem r1_14 {E : Nat → Value} {d : Nat} {st : List Value} {h : gm_H} {r : gm_R × gm_H} {lv : List Value} : gm_Go E d 1 14 lv st h r ↔ gm_Go E d 1 17 lv (.int (700 : Int32) :: st) h r := gr_pure m1 f1_14 rfl
theorem f1_17 : gm_ft 1 17 = some (.newarray .byte, 2) := by decide +kernel
theorem f1_19 : gm_ft 1 19 = some (.putfield 15, 3) := by decide +kernel
theorem r1_19 {E : Nat → Value} {d : Nat} {st : List Value} {h : gm_H} {r : gm_R × gm_H} {lv : List Value} {a : Nat} {vs : List Value} {v : Value} (hr : gm_rd h a = some (0, vs)) (hk : 5 < vs.length) (hn : narrow (gm_ty 0 5) v = v ∧ fits (gm_ty 0 5) v = true) : gm_Go E d 1 19 lv (v :: .ref a :: st) h r ↔ gm_Go E d 1 22 lv st (gm_wr h a (0, vs.set 5 v)) r := gr_wr m1 f1_19 rfl rfl rfl rfl rfl (gf_put k0_15 hr (by decide) hk hn (by decide))
theorem f1_22 : gm_ft 1 22 = some (.aload_n 0, 1) := by decide +kernel
theorem r1_22 {E : Nat → Value} {d : Nat} {st : List Value} {h : gm_H} {r : gm_R × gm_H} {a1 a2 a3 a4 : Value} {x : Nat} : gm_Go E d 1 22 [.ref x, a1, a2, a3, a4] st h r ↔ gm_Go E d 1 23 [.ref x, a1, a2, a3, a4] (.ref x :: st) h r := gr_loc m1 f1_22 rfl rfl
theorem r1_22n {E : Nat → Value} {d : Nat} {st : List Value} {h : gm_H} {r : gm_R × gm_H} {a1 a2 a3 a4 : Value}  : gm_Go E d 1 22 [.null, a1, a2, a3, a4] st h r ↔ gm_Go E d 1 23 [.null, a1, a2, a3, a4] (.null :: st) h r := gr_loc m1 f1_22 rfl rfl
theorem f1_23 : gm_ft 1 23 = some (.sipush 234, 3) := by decide +kernel
theorem r1_23 {E : Nat → Value} {d : Nat} {st : List Value} {h : gm_H} {r : gm_R × gm_H} {lv : List Value} : gm_Go E d 1 23 lv st h r ↔ gm_Go E d 1 26 lv (.int (234 : Int32) :: st) h r := gr_pure m1 f1_23 rfl
theorem f1_26 : gm_ft 1 26 = some (.anewarray 19, 3) := by decide +kernel
theorem f1_29 : gm_ft 1 29 = some (.putfield 21, 3) := by decide +kernel
theorem r1_29 {E : Nat → Value} {d : Nat} {st : List Value} {h : gm_H} {r : gm_R × gm_H} {lv : List Value} {a : Nat} {vs : List Value} {v : Value} (hr : gm_rd h a = some (0, vs)) (hk : 8 < vs.length) (hn : narrow (gm_ty 0 8) v = v ∧ fits (gm_ty 0 8) v = true) : gm_Go E d 1 29 lv (v :: .ref a :: st) h r ↔ gm_Go E d 1 32 lv st (gm_wr h a (0, vs.set 8 v)) r := gr_wr m1 f1_29 rfl rfl rfl rfl rfl (gf_put k0_21 hr (by decide) hk hn (by decide))
theorem f1_32 : gm_ft 1 32 = some (.aload_n 0, 1) := by decide +kernel
theorem r1_32 {E : Nat → Value} {d : Nat} {st : List Value} {h : gm_H} {r : gm_R × gm_H} {a1 a2 a3 a4 : Value} {x : Nat} : gm_Go E d 1 32 [.ref x, a1, a2, a3, a4] st h r ↔ gm_Go E d 1 33 [.ref x, a1, a2, a3, a4] (.ref x :: st) h r := gr_loc m1 f1_32 rfl rfl
theorem r1_32n {E : Nat → Value} {d : Nat} {st : List Value} {h : gm_H} {r : gm_R × gm_H} {a1 a2 a3 a4 : Value}  : gm_Go E d 1 32 [.null, a1, a2, a3, a4] st h r ↔ gm_Go E d 1 33 [.null, a1, a2, a3, a4] (.null :: st) h r := gr_loc m1 f1_32 rfl rfl
theorem f1_33 : gm_ft 1 33 = some (.new 25, 3) := by decide +kernel
theorem r1_33 {E : Nat → Value} {d : Nat} {st : List Value} {h : gm_H} {r : gm_R × gm_H} {lv : List Value} : gm_Go E d 1 33 lv st h r ↔ gm_Go E d 1 36 lv (.ref h.1 :: st) (gm_nw h (2, (List.range (gm_N 2)).map (fun k => defaultValue (gm_ty 2 k))) (gm_N 2)) r := gr_nw m1 f1_33 rfl rfl rfl rfl rfl rfl rfl
theorem f1_36 : gm_ft 1 36 = some (.dup, 1) := by decide +kernel
theorem r1_36 {E : Nat → Value} {d : Nat} {st : List Value} {h : gm_H} {r : gm_R × gm_H} {lv : List Value} {a : Nat} : gm_Go E d 1 36 lv (.ref a :: st) h r ↔ gm_Go E d 1 37 lv (.ref a :: .ref a :: st) h r := gr_pure m1 f1_36 rfl
theorem r1_36i {E : Nat → Value} {d : Nat} {st : List Value} {h : gm_H} {r : gm_R × gm_H} {lv : List Value} {x : Int32} : gm_Go E d 1 36 lv (.int x :: st) h r ↔ gm_Go E d 1 37 lv (.int x :: .int x :: st) h r := gr_pure m1 f1_36 rfl
theorem f1_37 : gm_ft 1 37 = some (.invokespecial 27, 3) := by decide +kernel
theorem n1_37 {st : List Value} {h : gm_H} {E : Nat → Value} {lv : List Value} {a : Nat} (hs : (st.map fun v => v.category).sum ≤ 8) (he : (gm_en1 [.ref a]).length ≤ 1) : gm_next E 1 37 lv (.ref a :: st) h = some (.inr (.inl (3, 2, [.ref a], st))) := gn_call m1 f1_37 rfl rfl rfl rfl rfl rfl rfl (gc_init (bs := []) (w := 31) rfl rfl rfl hs he (by decide)) (by decide)
theorem f1_40 : gm_ft 1 40 = some (.putfield 28, 3) := by decide +kernel
theorem r1_40 {E : Nat → Value} {d : Nat} {st : List Value} {h : gm_H} {r : gm_R × gm_H} {lv : List Value} {a : Nat} {vs : List Value} {v : Value} (hr : gm_rd h a = some (0, vs)) (hk : 10 < vs.length) (hn : narrow (gm_ty 0 10) v = v ∧ fits (gm_ty 0 10) v = true) : gm_Go E d 1 40 lv (v :: .ref a :: st) h r ↔ gm_Go E d 1 43 lv st (gm_wr h a (0, vs.set 10 v)) r := gr_wr m1 f1_40 rfl rfl rfl rfl rfl (gf_put k0_28 hr (by decide) hk hn (by decide))
theorem f1_43 : gm_ft 1 43 = some (.aload_n 0, 1) := by decide +kernel
theorem r1_43 {E : Nat → Value} {d : Nat} {st : List Value} {h : gm_H} {r : gm_R × gm_H} {a1 a2 a3 a4 : Value} {x : Nat} : gm_Go E d 1 43 [.ref x, a1, a2, a3, a4] st h r ↔ gm_Go E d 1 44 [.ref x, a1, a2, a3, a4] (.ref x :: st) h r := gr_loc m1 f1_43 rfl rfl
theorem r1_43n {E : Nat → Value} {d : Nat} {st : List Value} {h : gm_H} {r : gm_R × gm_H} {a1 a2 a3 a4 : Value}  : gm_Go E d 1 43 [.null, a1, a2, a3, a4] st h r ↔ gm_Go E d 1 44 [.null, a1, a2, a3, a4] (.null :: st) h r := gr_loc m1 f1_43 rfl rfl
theorem f1_44 : gm_ft 1 44 = some (.iconst 1, 1) := by decide +kernel
theorem r1_44 {E : Nat → Value} {d : Nat} {st : List Value} {h : gm_H} {r : gm_R × gm_H} {lv : List Value} : gm_Go E d 1 44 lv st h r ↔ gm_Go E d 1 45 lv (.int (1 : Int32) :: st) h r := gr_pure m1 f1_44 rfl
theorem f1_45 : gm_ft 1 45 = some (.iload_n 1, 1) := by decide +kernel
theorem r1_45 {E : Nat → Value} {d : Nat} {st : List Value} {h : gm_H} {r : gm_R × gm_H} {a0 a2 a3 a4 : Value} {x : Int32} : gm_Go E d 1 45 [a0, .int x, a2, a3, a4] st h r ↔ gm_Go E d 1 46 [a0, .int x, a2, a3, a4] (.int x :: st) h r := gr_loc m1 f1_45 rfl rfl
theorem f1_46 : gm_ft 1 46 = some (.bipush 8, 2) := by decide +kernel
theorem r1_46 {E : Nat → Value} {d : Nat} {st : List Value} {h : gm_H} {r : gm_R × gm_H} {lv : List Value} : gm_Go E d 1 46 lv st h r ↔ gm_Go E d 1 48 lv (.int (8 : Int32) :: st) h r := gr_pure m1 f1_46 rfl
theorem f1_48 : gm_ft 1 48 = some (.invokestatic 32, 3) := by decide +kernel
theorem n1_48 {st : List Value} {h : gm_H} {E : Nat → Value} {lv : List Value} {b0 b1 : Value} (hs : (st.map fun v => v.category).sum ≤ 8) (he : (gm_en1 [b0, b1]).length ≤ 2) : gm_next E 1 48 lv (b1 :: b0 :: st) h = some (.inr (.inl (1, 3, [b0, b1], st))) := gn_call m1 f1_48 rfl rfl rfl rfl rfl rfl rfl (gc_stat (bs := [b1, b0]) (w := 56) rfl rfl rfl hs he) (by decide)
theorem f1_51 : gm_ft 1 51 = some (.invokestatic 38, 3) := by decide +kernel
theorem n1_51 {st : List Value} {h : gm_H} {E : Nat → Value} {lv : List Value} {b0 b1 : Value} (hs : (st.map fun v => v.category).sum ≤ 8) (he : (gm_en1 [b0, b1]).length ≤ 2) : gm_next E 1 51 lv (b1 :: b0 :: st) h = some (.inr (.inl (1, 4, [b0, b1], st))) := gn_call m1 f1_51 rfl rfl rfl rfl rfl rfl rfl (gc_stat (bs := [b1, b0]) (w := 59) rfl rfl rfl hs he) (by decide)
theorem f1_54 : gm_ft 1 54 = some (.putfield 41, 3) := by decide +kernel
theorem r1_54 {E : Nat → Value} {d : Nat} {st : List Value} {h : gm_H} {r : gm_R × gm_H} {lv : List Value} {a : Nat} {vs : List Value} {v : Value} (hr : gm_rd h a = some (0, vs)) (hk : 0 < vs.length) (hn : narrow (gm_ty 0 0) v = v ∧ fits (gm_ty 0 0) v = true) : gm_Go E d 1 54 lv (v :: .ref a :: st) h r ↔ gm_Go E d 1 57 lv st (gm_wr h a (0, vs.set 0 v)) r := gr_wr m1 f1_54 rfl rfl rfl rfl rfl (gf_put k0_41 hr (by decide) hk hn (by decide))
theorem f1_57 : gm_ft 1 57 = some (.aload_n 0, 1) := by decide +kernel
theorem r1_57 {E : Nat → Value} {d : Nat} {st : List Value} {h : gm_H} {r : gm_R × gm_H} {a1 a2 a3 a4 : Value} {x : Nat} : gm_Go E d 1 57 [.ref x, a1, a2, a3, a4] st h r ↔ gm_Go E d 1 58 [.ref x, a1, a2, a3, a4] (.ref x :: st) h r := gr_loc m1 f1_57 rfl rfl
theorem r1_57n {E : Nat → Value} {d : Nat} {st : List Value} {h : gm_H} {r : gm_R × gm_H} {a1 a2 a3 a4 : Value}  : gm_Go E d 1 57 [.null, a1, a2, a3, a4] st h r ↔ gm_Go E d 1 58 [.null, a1, a2, a3, a4] (.null :: st) h r := gr_loc m1 f1_57 rfl rfl
theorem f1_58 : gm_ft 1 58 = some (.iconst 1, 1) := by decide +kernel
theorem r1_58 {E : Nat → Value} {d : Nat} {st : List Value} {h : gm_H} {r : gm_R × gm_H} {lv : List Value} : gm_Go E d 1 58 lv st h r ↔ gm_Go E d 1 59 lv (.int (1 : Int32) :: st) h r := gr_pure m1 f1_58 rfl
theorem f1_59 : gm_ft 1 59 = some (.iload_n 2, 1) := by decide +kernel
theorem r1_59 {E : Nat → Value} {d : Nat} {st : List Value} {h : gm_H} {r : gm_R × gm_H} {a0 a1 a3 a4 : Value} {x : Int32} : gm_Go E d 1 59 [a0, a1, .int x, a3, a4] st h r ↔ gm_Go E d 1 60 [a0, a1, .int x, a3, a4] (.int x :: st) h r := gr_loc m1 f1_59 rfl rfl
theorem f1_60 : gm_ft 1 60 = some (.bipush 60, 2) := by decide +kernel
theorem r1_60 {E : Nat → Value} {d : Nat} {st : List Value} {h : gm_H} {r : gm_R × gm_H} {lv : List Value} : gm_Go E d 1 60 lv st h r ↔ gm_Go E d 1 62 lv (.int (60 : Int32) :: st) h r := gr_pure m1 f1_60 rfl
theorem f1_62 : gm_ft 1 62 = some (.invokestatic 32, 3) := by decide +kernel
theorem n1_62 {st : List Value} {h : gm_H} {E : Nat → Value} {lv : List Value} {b0 b1 : Value} (hs : (st.map fun v => v.category).sum ≤ 8) (he : (gm_en1 [b0, b1]).length ≤ 2) : gm_next E 1 62 lv (b1 :: b0 :: st) h = some (.inr (.inl (1, 3, [b0, b1], st))) := gn_call m1 f1_62 rfl rfl rfl rfl rfl rfl rfl (gc_stat (bs := [b1, b0]) (w := 56) rfl rfl rfl hs he) (by decide)
theorem f1_65 : gm_ft 1 65 = some (.invokestatic 38, 3) := by decide +kernel
theorem n1_65 {st : List Value} {h : gm_H} {E : Nat → Value} {lv : List Value} {b0 b1 : Value} (hs : (st.map fun v => v.category).sum ≤ 8) (he : (gm_en1 [b0, b1]).length ≤ 2) : gm_next E 1 65 lv (b1 :: b0 :: st) h = some (.inr (.inl (1, 4, [b0, b1], st))) := gn_call m1 f1_65 rfl rfl rfl rfl rfl rfl rfl (gc_stat (bs := [b1, b0]) (w := 59) rfl rfl rfl hs he) (by decide)
theorem f1_68 : gm_ft 1 68 = some (.putfield 45, 3) := by decide +kernel
theorem r1_68 {E : Nat → Value} {d : Nat} {st : List Value} {h : gm_H} {r : gm_R × gm_H} {lv : List Value} {a : Nat} {vs : List Value} {v : Value} (hr : gm_rd h a = some (0, vs)) (hk : 1 < vs.length) (hn : narrow (gm_ty 0 1) v = v ∧ fits (gm_ty 0 1) v = true) : gm_Go E d 1 68 lv (v :: .ref a :: st) h r ↔ gm_Go E d 1 71 lv st (gm_wr h a (0, vs.set 1 v)) r := gr_wr m1 f1_68 rfl rfl rfl rfl rfl (gf_put k0_45 hr (by decide) hk hn (by decide))
theorem f1_71 : gm_ft 1 71 = some (.aload_n 0, 1) := by decide +kernel
theorem r1_71 {E : Nat → Value} {d : Nat} {st : List Value} {h : gm_H} {r : gm_R × gm_H} {a1 a2 a3 a4 : Value} {x : Nat} : gm_Go E d 1 71 [.ref x, a1, a2, a3, a4] st h r ↔ gm_Go E d 1 72 [.ref x, a1, a2, a3, a4] (.ref x :: st) h r := gr_loc m1 f1_71 rfl rfl
theorem r1_71n {E : Nat → Value} {d : Nat} {st : List Value} {h : gm_H} {r : gm_R × gm_H} {a1 a2 a3 a4 : Value}  : gm_Go E d 1 71 [.null, a1, a2, a3, a4] st h r ↔ gm_Go E d 1 72 [.null, a1, a2, a3, a4] (.null :: st) h r := gr_loc m1 f1_71 rfl rfl
theorem f1_72 : gm_ft 1 72 = some (.iconst 0, 1) := by decide +kernel
theorem r1_72 {E : Nat → Value} {d : Nat} {st : List Value} {h : gm_H} {r : gm_R × gm_H} {lv : List Value} : gm_Go E d 1 72 lv st h r ↔ gm_Go E d 1 73 lv (.int (0 : Int32) :: st) h r := gr_pure m1 f1_72 rfl
theorem f1_73 : gm_ft 1 73 = some (.iload_n 3, 1) := by decide +kernel
theorem r1_73 {E : Nat → Value} {d : Nat} {st : List Value} {h : gm_H} {r : gm_R × gm_H} {a0 a1 a2 a4 : Value} {x : Int32} : gm_Go E d 1 73 [a0, a1, a2, .int x, a4] st h r ↔ gm_Go E d 1 74 [a0, a1, a2, .int x, a4] (.int x :: st) h r := gr_loc m1 f1_73 rfl rfl
theorem f1_74 : gm_ft 1 74 = some (.bipush 20, 2) := by decide +kernel
theorem r1_74 {E : Nat → Value} {d : Nat} {st : List Value} {h : gm_H} {r : gm_R × gm_H} {lv : List Value} : gm_Go E d 1 74 lv st h r ↔ gm_Go E d 1 76 lv (.int (20 : Int32) :: st) h r := gr_pure m1 f1_74 rfl
theorem f1_76 : gm_ft 1 76 = some (.invokestatic 32, 3) := by decide +kernel
theorem n1_76 {st : List Value} {h : gm_H} {E : Nat → Value} {lv : List Value} {b0 b1 : Value} (hs : (st.map fun v => v.category).sum ≤ 8) (he : (gm_en1 [b0, b1]).length ≤ 2) : gm_next E 1 76 lv (b1 :: b0 :: st) h = some (.inr (.inl (1, 3, [b0, b1], st))) := gn_call m1 f1_76 rfl rfl rfl rfl rfl rfl rfl (gc_stat (bs := [b1, b0]) (w := 56) rfl rfl rfl hs he) (by decide)
theorem f1_79 : gm_ft 1 79 = some (.invokestatic 38, 3) := by decide +kernel
theorem n1_79 {st : List Value} {h : gm_H} {E : Nat → Value} {lv : List Value} {b0 b1 : Value} (hs : (st.map fun v => v.category).sum ≤ 8) (he : (gm_en1 [b0, b1]).length ≤ 2) : gm_next E 1 79 lv (b1 :: b0 :: st) h = some (.inr (.inl (1, 4, [b0, b1], st))) := gn_call m1 f1_79 rfl rfl rfl rfl rfl rfl rfl (gc_stat (bs := [b1, b0]) (w := 59) rfl rfl rfl hs he) (by decide)
theorem f1_82 : gm_ft 1 82 = some (.putfield 48, 3) := by decide +kernel
theorem r1_82 {E : Nat → Value} {d : Nat} {st : List Value} {h : gm_H} {r : gm_R × gm_H} {lv : List Value} {a : Nat} {vs : List Value} {v : Value} (hr : gm_rd h a = some (0, vs)) (hk : 2 < vs.length) (hn : narrow (gm_ty 0 2) v = v ∧ fits (gm_ty 0 2) v = true) : gm_Go E d 1 82 lv (v :: .ref a :: st) h r ↔ gm_Go E d 1 85 lv st (gm_wr h a (0, vs.set 2 v)) r := gr_wr m1 f1_82 rfl rfl rfl rfl rfl (gf_put k0_48 hr (by decide) hk hn (by decide))
theorem f1_85 : gm_ft 1 85 = some (.aload_n 0, 1) := by decide +kernel
theorem r1_85 {E : Nat → Value} {d : Nat} {st : List Value} {h : gm_H} {r : gm_R × gm_H} {a1 a2 a3 a4 : Value} {x : Nat} : gm_Go E d 1 85 [.ref x, a1, a2, a3, a4] st h r ↔ gm_Go E d 1 86 [.ref x, a1, a2, a3, a4] (.ref x :: st) h r := gr_loc m1 f1_85 rfl rfl
theorem r1_85n {E : Nat → Value} {d : Nat} {st : List Value} {h : gm_H} {r : gm_R × gm_H} {a1 a2 a3 a4 : Value}  : gm_Go E d 1 85 [.null, a1, a2, a3, a4] st h r ↔ gm_Go E d 1 86 [.null, a1, a2, a3, a4] (.null :: st) h r := gr_loc m1 f1_85 rfl rfl
theorem f1_86 : gm_ft 1 86 = some (.iconst 4, 1) := by decide +kernel
theorem r1_86 {E : Nat → Value} {d : Nat} {st : List Value} {h : gm_H} {r : gm_R × gm_H} {lv : List Value} : gm_Go E d 1 86 lv st h r ↔ gm_Go E d 1 87 lv (.int (4 : Int32) :: st) h r := gr_pure m1 f1_86 rfl
theorem f1_87 : gm_ft 1 87 = some (.iload 4, 2) := by decide +kernel
theorem r1_87 {E : Nat → Value} {d : Nat} {st : List Value} {h : gm_H} {r : gm_R × gm_H} {a0 a1 a2 a3 : Value} {x : Int32} : gm_Go E d 1 87 [a0, a1, a2, a3, .int x] st h r ↔ gm_Go E d 1 89 [a0, a1, a2, a3, .int x] (.int x :: st) h r := gr_loc m1 f1_87 rfl rfl
theorem f1_89 : gm_ft 1 89 = some (.sipush 700, 3) := by decide +kernel
theorem r1_89 {E : Nat → Value} {d : Nat} {st : List Value} {h : gm_H} {r : gm_R × gm_H} {lv : List Value} : gm_Go E d 1 89 lv st h r ↔ gm_Go E d 1 92 lv (.int (700 : Int32) :: st) h r := gr_pure m1 f1_89 rfl
theorem f1_92 : gm_ft 1 92 = some (.invokestatic 32, 3) := by decide +kernel
theorem n1_92 {st : List Value} {h : gm_H} {E : Nat → Value} {lv : List Value} {b0 b1 : Value} (hs : (st.map fun v => v.category).sum ≤ 8) (he : (gm_en1 [b0, b1]).length ≤ 2) : gm_next E 1 92 lv (b1 :: b0 :: st) h = some (.inr (.inl (1, 3, [b0, b1], st))) := gn_call m1 f1_92 rfl rfl rfl rfl rfl rfl rfl (gc_stat (bs := [b1, b0]) (w := 56) rfl rfl rfl hs he) (by decide)
theorem f1_95 : gm_ft 1 95 = some (.invokestatic 38, 3) := by decide +kernel
theorem n1_95 {st : List Value} {h : gm_H} {E : Nat → Value} {lv : List Value} {b0 b1 : Value} (hs : (st.map fun v => v.category).sum ≤ 8) (he : (gm_en1 [b0, b1]).length ≤ 2) : gm_next E 1 95 lv (b1 :: b0 :: st) h = some (.inr (.inl (1, 4, [b0, b1], st))) := gn_call m1 f1_95 rfl rfl rfl rfl rfl rfl rfl (gc_stat (bs := [b1, b0]) (w := 59) rfl rfl rfl hs he) (by decide)
theorem f1_98 : gm_ft 1 98 = some (.putfield 51, 3) := by decide +kernel
theorem r1_98 {E : Nat → Value} {d : Nat} {st : List Value} {h : gm_H} {r : gm_R × gm_H} {lv : List Value} {a : Nat} {vs : List Value} {v : Value} (hr : gm_rd h a = some (0, vs)) (hk : 3 < vs.length) (hn : narrow (gm_ty 0 3) v = v ∧ fits (gm_ty 0 3) v = true) : gm_Go E d 1 98 lv (v :: .ref a :: st) h r ↔ gm_Go E d 1 101 lv st (gm_wr h a (0, vs.set 3 v)) r := gr_wr m1 f1_98 rfl rfl rfl rfl rfl (gf_put k0_51 hr (by decide) hk hn (by decide))
theorem f1_101 : gm_ft 1 101 = some (.return_, 1) := by decide +kernel
theorem r1_101 {E : Nat → Value} {d : Nat} {h : gm_H} {r : gm_R × gm_H} {lv : List Value} : gm_Go E d 1 101 lv [] h r ↔ r = (.inl none, h) := gr_ret m1 f1_101 rfl rfl rfl rfl rfl rfl rfl rfl rfl
/-! GraphReader$Handles.<init>()V -/
theorem m2 : gm_mt[2]? = some (⟨"GraphReader$Handles", "<init>", "()V"⟩, prog_3_method_1_code, 1, none, [], 2, 1) := rfl
theorem f2_0 : gm_ft 2 0 = some (.aload_n 0, 1) := by decide +kernel
theorem r2_0 {E : Nat → Value} {d : Nat} {st : List Value} {h : gm_H} {r : gm_R × gm_H}  {x : Nat} : gm_Go E d 2 0 [.ref x] st h r ↔ gm_Go E d 2 1 [.ref x] (.ref x :: st) h r := gr_loc m2 f2_0 rfl rfl
theorem r2_0n {E : Nat → Value} {d : Nat} {st : List Value} {h : gm_H} {r : gm_R × gm_H}   : gm_Go E d 2 0 [.null] st h r ↔ gm_Go E d 2 1 [.null] (.null :: st) h r := gr_loc m2 f2_0 rfl rfl
theorem f2_1 : gm_ft 2 1 = some (.invokespecial 3, 3) := by decide +kernel
theorem r2_1 {E : Nat → Value} {d : Nat} {st : List Value} {h : gm_H} {r : gm_R × gm_H} {lv : List Value} {a : Nat} (hs : (st.map fun v => v.category).sum ≤ 8) : gm_Go E d 2 1 lv (.ref a :: st) h r ↔ gm_Go E d 2 4 lv st h r := gr_oi m2 f2_1 rfl rfl rfl rfl rfl rfl rfl (gc_spec (w := 34) rfl hs (by decide))
theorem f2_4 : gm_ft 2 4 = some (.aload_n 0, 1) := by decide +kernel
theorem r2_4 {E : Nat → Value} {d : Nat} {st : List Value} {h : gm_H} {r : gm_R × gm_H}  {x : Nat} : gm_Go E d 2 4 [.ref x] st h r ↔ gm_Go E d 2 5 [.ref x] (.ref x :: st) h r := gr_loc m2 f2_4 rfl rfl
theorem r2_4n {E : Nat → Value} {d : Nat} {st : List Value} {h : gm_H} {r : gm_R × gm_H}   : gm_Go E d 2 4 [.null] st h r ↔ gm_Go E d 2 5 [.null] (.null :: st) h r := gr_loc m2 f2_4 rfl rfl
theorem f2_5 : gm_ft 2 5 = some (.sipush 234, 3) := by decide +kernel
theorem r2_5 {E : Nat → Value} {d : Nat} {st : List Value} {h : gm_H} {r : gm_R × gm_H} {lv : List Value} : gm_Go E d 2 5 lv st h r ↔ gm_Go E d 2 8 lv (.int (234 : Int32) :: st) h r := gr_pure m2 f2_5 rfl
theorem f2_8 : gm_ft 2 8 = some (.newarray .int, 2) := by decide +kernel
theorem f2_10 : gm_ft 2 10 = some (.putfield 9, 3) := by decide +kernel
theorem r2_10 {E : Nat → Value} {d : Nat} {st : List Value} {h : gm_H} {r : gm_R × gm_H} {lv : List Value} {a : Nat} {vs : List Value} {v : Value} (hr : gm_rd h a = some (2, vs)) (hk : 0 < vs.length) (hn : narrow (gm_ty 2 0) v = v ∧ fits (gm_ty 2 0) v = true) : gm_Go E d 2 10 lv (v :: .ref a :: st) h r ↔ gm_Go E d 2 13 lv st (gm_wr h a (2, vs.set 0 v)) r := gr_wr m2 f2_10 rfl rfl rfl rfl rfl (gf_put k2_9 hr (by decide) hk hn (by decide))
theorem f2_13 : gm_ft 2 13 = some (.aload_n 0, 1) := by decide +kernel
theorem r2_13 {E : Nat → Value} {d : Nat} {st : List Value} {h : gm_H} {r : gm_R × gm_H}  {x : Nat} : gm_Go E d 2 13 [.ref x] st h r ↔ gm_Go E d 2 14 [.ref x] (.ref x :: st) h r := gr_loc m2 f2_13 rfl rfl
theorem r2_13n {E : Nat → Value} {d : Nat} {st : List Value} {h : gm_H} {r : gm_R × gm_H}   : gm_Go E d 2 13 [.null] st h r ↔ gm_Go E d 2 14 [.null] (.null :: st) h r := gr_loc m2 f2_13 rfl rfl
theorem f2_14 : gm_ft 2 14 = some (.sipush 234, 3) := by decide +kernel
theorem r2_14 {E : Nat → Value} {d : Nat} {st : List Value} {h : gm_H} {r : gm_R × gm_H} {lv : List Value} : gm_Go E d 2 14 lv st h r ↔ gm_Go E d 2 17 lv (.int (234 : Int32) :: st) h r := gr_pure m2 f2_14 rfl
theorem f2_17 : gm_ft 2 17 = some (.anewarray 15, 3) := by decide +kernel
theorem f2_20 : gm_ft 2 20 = some (.putfield 17, 3) := by decide +kernel
theorem r2_20 {E : Nat → Value} {d : Nat} {st : List Value} {h : gm_H} {r : gm_R × gm_H} {lv : List Value} {a : Nat} {vs : List Value} {v : Value} (hr : gm_rd h a = some (2, vs)) (hk : 1 < vs.length) (hn : narrow (gm_ty 2 1) v = v ∧ fits (gm_ty 2 1) v = true) : gm_Go E d 2 20 lv (v :: .ref a :: st) h r ↔ gm_Go E d 2 23 lv st (gm_wr h a (2, vs.set 1 v)) r := gr_wr m2 f2_20 rfl rfl rfl rfl rfl (gf_put k2_17 hr (by decide) hk hn (by decide))
theorem f2_23 : gm_ft 2 23 = some (.return_, 1) := by decide +kernel
theorem r2_23 {E : Nat → Value} {d : Nat} {h : gm_H} {r : gm_R × gm_H} {lv : List Value} : gm_Go E d 2 23 lv [] h r ↔ r = (.inl none, h) := gr_ret m2 f2_23 rfl rfl rfl rfl rfl rfl rfl rfl rfl
/-! java/lang/Math.min(II)I -/
theorem m3 : gm_mt[3]? = some (⟨"java/lang/Math", "min", "(II)I"⟩, prog_11_method_69_code, 2, (some .int), [], 8, 3) := rfl
theorem f3_0 : gm_ft 3 0 = some (.iload_n 0, 1) := by decide +kernel
theorem r3_0 {E : Nat → Value} {d : Nat} {st : List Value} {h : gm_H} {r : gm_R × gm_H} {a1 : Value} {x : Int32} : gm_Go E d 3 0 [.int x, a1] st h r ↔ gm_Go E d 3 1 [.int x, a1] (.int x :: st) h r := gr_loc m3 f3_0 rfl rfl
theorem f3_1 : gm_ft 3 1 = some (.iload_n 1, 1) := by decide +kernel
theorem r3_1 {E : Nat → Value} {d : Nat} {st : List Value} {h : gm_H} {r : gm_R × gm_H} {a0 : Value} {x : Int32} : gm_Go E d 3 1 [a0, .int x] st h r ↔ gm_Go E d 3 2 [a0, .int x] (.int x :: st) h r := gr_loc m3 f3_1 rfl rfl
theorem f3_2 : gm_ft 3 2 = some (.if_icmp .gt 7, 3) := by decide +kernel
theorem r3_2 {E : Nat → Value} {d : Nat} {st : List Value} {h : gm_H} {r : gm_R × gm_H} {lv : List Value} {x y : Int32} : gm_Go E d 3 2 lv (.int y :: .int x :: st) h r ↔ (if y < x then gm_Go E d 3 9 lv st h r else gm_Go E d 3 5 lv st h r) := (gr_br m3 f3_2 rfl rfl rfl rfl).trans gr_if
theorem f3_5 : gm_ft 3 5 = some (.iload_n 0, 1) := by decide +kernel
theorem r3_5 {E : Nat → Value} {d : Nat} {st : List Value} {h : gm_H} {r : gm_R × gm_H} {a1 : Value} {x : Int32} : gm_Go E d 3 5 [.int x, a1] st h r ↔ gm_Go E d 3 6 [.int x, a1] (.int x :: st) h r := gr_loc m3 f3_5 rfl rfl
theorem f3_6 : gm_ft 3 6 = some (.goto 4, 3) := by decide +kernel
theorem r3_6 {E : Nat → Value} {d : Nat} {st : List Value} {h : gm_H} {r : gm_R × gm_H} {lv : List Value} : gm_Go E d 3 6 lv st h r ↔ gm_Go E d 3 10 lv st h r := gr_brT m3 f3_6 rfl rfl rfl rfl
theorem f3_9 : gm_ft 3 9 = some (.iload_n 1, 1) := by decide +kernel
theorem r3_9 {E : Nat → Value} {d : Nat} {st : List Value} {h : gm_H} {r : gm_R × gm_H} {a0 : Value} {x : Int32} : gm_Go E d 3 9 [a0, .int x] st h r ↔ gm_Go E d 3 10 [a0, .int x] (.int x :: st) h r := gr_loc m3 f3_9 rfl rfl
theorem f3_10 : gm_ft 3 10 = some (.ireturn, 1) := by decide +kernel
theorem r3_10 {E : Nat → Value} {d : Nat} {h : gm_H} {r : gm_R × gm_H} {lv : List Value} {x : Int32} : gm_Go E d 3 10 lv [.int x] h r ↔ r = (.inl (some (.int x)), h) := gr_ret m3 f3_10 rfl rfl rfl rfl rfl rfl rfl rfl (by unfold gm_rt; dsimp only; rw [if_pos ⟨rfl, rfl⟩])
/-! java/lang/Math.max(II)I -/
theorem m4 : gm_mt[4]? = some (⟨"java/lang/Math", "max", "(II)I"⟩, prog_11_method_65_code, 2, (some .int), [], 8, 3) := rfl
theorem f4_0 : gm_ft 4 0 = some (.iload_n 0, 1) := by decide +kernel
theorem r4_0 {E : Nat → Value} {d : Nat} {st : List Value} {h : gm_H} {r : gm_R × gm_H} {a1 : Value} {x : Int32} : gm_Go E d 4 0 [.int x, a1] st h r ↔ gm_Go E d 4 1 [.int x, a1] (.int x :: st) h r := gr_loc m4 f4_0 rfl rfl
theorem f4_1 : gm_ft 4 1 = some (.iload_n 1, 1) := by decide +kernel
theorem r4_1 {E : Nat → Value} {d : Nat} {st : List Value} {h : gm_H} {r : gm_R × gm_H} {a0 : Value} {x : Int32} : gm_Go E d 4 1 [a0, .int x] st h r ↔ gm_Go E d 4 2 [a0, .int x] (.int x :: st) h r := gr_loc m4 f4_1 rfl rfl
theorem f4_2 : gm_ft 4 2 = some (.if_icmp .lt 7, 3) := by decide +kernel
theorem r4_2 {E : Nat → Value} {d : Nat} {st : List Value} {h : gm_H} {r : gm_R × gm_H} {lv : List Value} {x y : Int32} : gm_Go E d 4 2 lv (.int y :: .int x :: st) h r ↔ (if x < y then gm_Go E d 4 9 lv st h r else gm_Go E d 4 5 lv st h r) := (gr_br m4 f4_2 rfl rfl rfl rfl).trans gr_if
theorem f4_5 : gm_ft 4 5 = some (.iload_n 0, 1) := by decide +kernel
theorem r4_5 {E : Nat → Value} {d : Nat} {st : List Value} {h : gm_H} {r : gm_R × gm_H} {a1 : Value} {x : Int32} : gm_Go E d 4 5 [.int x, a1] st h r ↔ gm_Go E d 4 6 [.int x, a1] (.int x :: st) h r := gr_loc m4 f4_5 rfl rfl
theorem f4_6 : gm_ft 4 6 = some (.goto 4, 3) := by decide +kernel
theorem r4_6 {E : Nat → Value} {d : Nat} {st : List Value} {h : gm_H} {r : gm_R × gm_H} {lv : List Value} : gm_Go E d 4 6 lv st h r ↔ gm_Go E d 4 10 lv st h r := gr_brT m4 f4_6 rfl rfl rfl rfl
theorem f4_9 : gm_ft 4 9 = some (.iload_n 1, 1) := by decide +kernel
theorem r4_9 {E : Nat → Value} {d : Nat} {st : List Value} {h : gm_H} {r : gm_R × gm_H} {a0 : Value} {x : Int32} : gm_Go E d 4 9 [a0, .int x] st h r ↔ gm_Go E d 4 10 [a0, .int x] (.int x :: st) h r := gr_loc m4 f4_9 rfl rfl
theorem f4_10 : gm_ft 4 10 = some (.ireturn, 1) := by decide +kernel
theorem r4_10 {E : Nat → Value} {d : Nat} {h : gm_H} {r : gm_R × gm_H} {lv : List Value} {x : Int32} : gm_Go E d 4 10 lv [.int x] h r ↔ r = (.inl (some (.int x)), h) := gr_ret m4 f4_10 rfl rfl rfl rfl rfl rfl rfl rfl (by unfold gm_rt; dsimp only; rw [if_pos ⟨rfl, rfl⟩])
/-! GraphReader.define(IIIJ)I -/
theorem m5 : gm_mt[5]? = some (⟨"GraphReader", "define", "(IIIJ)I"⟩, prog_1_method_2_code, 7, (some .int), [], 0, 1) := rfl
theorem f5_0 : gm_ft 5 0 = some (.iload_n 1, 1) := by decide +kernel
theorem r5_0 {E : Nat → Value} {d : Nat} {st : List Value} {h : gm_H} {r : gm_R × gm_H} {a0 a2 a3 a4 a5 a6 : Value} {x : Int32} : gm_Go E d 5 0 [a0, .int x, a2, a3, a4, a5, a6] st h r ↔ gm_Go E d 5 1 [a0, .int x, a2, a3, a4, a5, a6] (.int x :: st) h r := gr_loc m5 f5_0 rfl rfl
theorem f5_1 : gm_ft 5 1 = some (.ifCond .lt 18, 3) := by decide +kernel
theorem r5_1 {E : Nat → Value} {d : Nat} {st : List Value} {h : gm_H} {r : gm_R × gm_H} {lv : List Value} {x : Int32} : gm_Go E d 5 1 lv (.int x :: st) h r ↔ (if x < 0 then gm_Go E d 5 19 lv st h r else gm_Go E d 5 4 lv st h r) := (gr_br m5 f5_1 rfl rfl rfl rfl).trans gr_if
theorem f5_4 : gm_ft 5 4 = some (.iload_n 1, 1) := by decide +kernel
theorem r5_4 {E : Nat → Value} {d : Nat} {st : List Value} {h : gm_H} {r : gm_R × gm_H} {a0 a2 a3 a4 a5 a6 : Value} {x : Int32} : gm_Go E d 5 4 [a0, .int x, a2, a3, a4, a5, a6] st h r ↔ gm_Go E d 5 5 [a0, .int x, a2, a3, a4, a5, a6] (.int x :: st) h r := gr_loc m5 f5_4 rfl rfl
theorem f5_5 : gm_ft 5 5 = some (.bipush 6, 2) := by decide +kernel
theorem r5_5 {E : Nat → Value} {d : Nat} {st : List Value} {h : gm_H} {r : gm_R × gm_H} {lv : List Value} : gm_Go E d 5 5 lv st h r ↔ gm_Go E d 5 7 lv (.int (6 : Int32) :: st) h r := gr_pure m5 f5_5 rfl
theorem f5_7 : gm_ft 5 7 = some (.if_icmp .ge 12, 3) := by decide +kernel
theorem r5_7 {E : Nat → Value} {d : Nat} {st : List Value} {h : gm_H} {r : gm_R × gm_H} {lv : List Value} {x y : Int32} : gm_Go E d 5 7 lv (.int y :: .int x :: st) h r ↔ (if y ≤ x then gm_Go E d 5 19 lv st h r else gm_Go E d 5 10 lv st h r) := (gr_br m5 f5_7 rfl rfl rfl rfl).trans gr_if
theorem f5_10 : gm_ft 5 10 = some (.iload_n 2, 1) := by decide +kernel
theorem r5_10 {E : Nat → Value} {d : Nat} {st : List Value} {h : gm_H} {r : gm_R × gm_H} {a0 a1 a3 a4 a5 a6 : Value} {x : Int32} : gm_Go E d 5 10 [a0, a1, .int x, a3, a4, a5, a6] st h r ↔ gm_Go E d 5 11 [a0, a1, .int x, a3, a4, a5, a6] (.int x :: st) h r := gr_loc m5 f5_10 rfl rfl
theorem f5_11 : gm_ft 5 11 = some (.ifCond .lt 8, 3) := by decide +kernel
theorem r5_11 {E : Nat → Value} {d : Nat} {st : List Value} {h : gm_H} {r : gm_R × gm_H} {lv : List Value} {x : Int32} : gm_Go E d 5 11 lv (.int x :: st) h r ↔ (if x < 0 then gm_Go E d 5 19 lv st h r else gm_Go E d 5 14 lv st h r) := (gr_br m5 f5_11 rfl rfl rfl rfl).trans gr_if
theorem f5_14 : gm_ft 5 14 = some (.iload_n 2, 1) := by decide +kernel
theorem r5_14 {E : Nat → Value} {d : Nat} {st : List Value} {h : gm_H} {r : gm_R × gm_H} {a0 a1 a3 a4 a5 a6 : Value} {x : Int32} : gm_Go E d 5 14 [a0, a1, .int x, a3, a4, a5, a6] st h r ↔ gm_Go E d 5 15 [a0, a1, .int x, a3, a4, a5, a6] (.int x :: st) h r := gr_loc m5 f5_14 rfl rfl
theorem f5_15 : gm_ft 5 15 = some (.iconst 4, 1) := by decide +kernel
theorem r5_15 {E : Nat → Value} {d : Nat} {st : List Value} {h : gm_H} {r : gm_R × gm_H} {lv : List Value} : gm_Go E d 5 15 lv st h r ↔ gm_Go E d 5 16 lv (.int (4 : Int32) :: st) h r := gr_pure m5 f5_15 rfl
theorem f5_16 : gm_ft 5 16 = some (.if_icmp .le 5, 3) := by decide +kernel
theorem r5_16 {E : Nat → Value} {d : Nat} {st : List Value} {h : gm_H} {r : gm_R × gm_H} {lv : List Value} {x y : Int32} : gm_Go E d 5 16 lv (.int y :: .int x :: st) h r ↔ (if x ≤ y then gm_Go E d 5 21 lv st h r else gm_Go E d 5 19 lv st h r) := (gr_br m5 f5_16 rfl rfl rfl rfl).trans gr_if
theorem f5_19 : gm_ft 5 19 = some (.iconst (-1), 1) := by decide +kernel
theorem r5_19 {E : Nat → Value} {d : Nat} {st : List Value} {h : gm_H} {r : gm_R × gm_H} {lv : List Value} : gm_Go E d 5 19 lv st h r ↔ gm_Go E d 5 20 lv (.int (-1 : Int32) :: st) h r := gr_pure m5 f5_19 rfl
theorem f5_20 : gm_ft 5 20 = some (.ireturn, 1) := by decide +kernel
theorem r5_20 {E : Nat → Value} {d : Nat} {h : gm_H} {r : gm_R × gm_H} {lv : List Value} {x : Int32} : gm_Go E d 5 20 lv [.int x] h r ↔ r = (.inl (some (.int x)), h) := gr_ret m5 f5_20 rfl rfl rfl rfl rfl rfl rfl rfl (by unfold gm_rt; dsimp only; rw [if_pos ⟨rfl, rfl⟩])
theorem f5_21 : gm_ft 5 21 = some (.iload_n 3, 1) := by decide +kernel
theorem r5_21 {E : Nat → Value} {d : Nat} {st : List Value} {h : gm_H} {r : gm_R × gm_H} {a0 a1 a2 a4 a5 a6 : Value} {x : Int32} : gm_Go E d 5 21 [a0, a1, a2, .int x, a4, a5, a6] st h r ↔ gm_Go E d 5 22 [a0, a1, a2, .int x, a4, a5, a6] (.int x :: st) h r := gr_loc m5 f5_21 rfl rfl
theorem f5_22 : gm_ft 5 22 = some (.iconst (-1), 1) := by decide +kernel
theorem r5_22 {E : Nat → Value} {d : Nat} {st : List Value} {h : gm_H} {r : gm_R × gm_H} {lv : List Value} : gm_Go E d 5 22 lv st h r ↔ gm_Go E d 5 23 lv (.int (-1 : Int32) :: st) h r := gr_pure m5 f5_22 rfl
theorem f5_23 : gm_ft 5 23 = some (.if_icmp .lt 17, 3) := by decide +kernel
theorem r5_23 {E : Nat → Value} {d : Nat} {st : List Value} {h : gm_H} {r : gm_R × gm_H} {lv : List Value} {x y : Int32} : gm_Go E d 5 23 lv (.int y :: .int x :: st) h r ↔ (if x < y then gm_Go E d 5 40 lv st h r else gm_Go E d 5 26 lv st h r) := (gr_br m5 f5_23 rfl rfl rfl rfl).trans gr_if
theorem f5_26 : gm_ft 5 26 = some (.iload_n 3, 1) := by decide +kernel
theorem r5_26 {E : Nat → Value} {d : Nat} {st : List Value} {h : gm_H} {r : gm_R × gm_H} {a0 a1 a2 a4 a5 a6 : Value} {x : Int32} : gm_Go E d 5 26 [a0, a1, a2, .int x, a4, a5, a6] st h r ↔ gm_Go E d 5 27 [a0, a1, a2, .int x, a4, a5, a6] (.int x :: st) h r := gr_loc m5 f5_26 rfl rfl
theorem f5_27 : gm_ft 5 27 = some (.iload_n 1, 1) := by decide +kernel
theorem r5_27 {E : Nat → Value} {d : Nat} {st : List Value} {h : gm_H} {r : gm_R × gm_H} {a0 a2 a3 a4 a5 a6 : Value} {x : Int32} : gm_Go E d 5 27 [a0, .int x, a2, a3, a4, a5, a6] st h r ↔ gm_Go E d 5 28 [a0, .int x, a2, a3, a4, a5, a6] (.int x :: st) h r := gr_loc m5 f5_27 rfl rfl
theorem f5_28 : gm_ft 5 28 = some (.if_icmp .ge 12, 3) := by decide +kernel
theorem r5_28 {E : Nat → Value} {d : Nat} {st : List Value} {h : gm_H} {r : gm_R × gm_H} {lv : List Value} {x y : Int32} : gm_Go E d 5 28 lv (.int y :: .int x :: st) h r ↔ (if y ≤ x then gm_Go E d 5 40 lv st h r else gm_Go E d 5 31 lv st h r) := (gr_br m5 f5_28 rfl rfl rfl rfl).trans gr_if
theorem f5_31 : gm_ft 5 31 = some (.aload_n 0, 1) := by decide +kernel
theorem r5_31 {E : Nat → Value} {d : Nat} {st : List Value} {h : gm_H} {r : gm_R × gm_H} {a1 a2 a3 a4 a5 a6 : Value} {x : Nat} : gm_Go E d 5 31 [.ref x, a1, a2, a3, a4, a5, a6] st h r ↔ gm_Go E d 5 32 [.ref x, a1, a2, a3, a4, a5, a6] (.ref x :: st) h r := gr_loc m5 f5_31 rfl rfl
theorem r5_31n {E : Nat → Value} {d : Nat} {st : List Value} {h : gm_H} {r : gm_R × gm_H} {a1 a2 a3 a4 a5 a6 : Value}  : gm_Go E d 5 31 [.null, a1, a2, a3, a4, a5, a6] st h r ↔ gm_Go E d 5 32 [.null, a1, a2, a3, a4, a5, a6] (.null :: st) h r := gr_loc m5 f5_31 rfl rfl
theorem f5_32 : gm_ft 5 32 = some (.getfield 11, 3) := by decide +kernel
theorem r5_32 {E : Nat → Value} {d : Nat} {st : List Value} {h : gm_H} {r : gm_R × gm_H} {lv : List Value} {a : Nat} {vs : List Value} {v : Value} (hr : gm_rd h a = some (0, vs)) (hv : vs[4]? = some v) : gm_Go E d 5 32 lv (.ref a :: st) h r ↔ gm_Go E d 5 35 lv (v :: st) h r := gr_rd m5 f5_32 rfl rfl rfl rfl (gf_get k0_11 hr hv)
theorem f5_35 : gm_ft 5 35 = some (.iload_n 1, 1) := by decide +kernel
theorem r5_35 {E : Nat → Value} {d : Nat} {st : List Value} {h : gm_H} {r : gm_R × gm_H} {a0 a2 a3 a4 a5 a6 : Value} {x : Int32} : gm_Go E d 5 35 [a0, .int x, a2, a3, a4, a5, a6] st h r ↔ gm_Go E d 5 36 [a0, .int x, a2, a3, a4, a5, a6] (.int x :: st) h r := gr_loc m5 f5_35 rfl rfl
theorem f5_36 : gm_ft 5 36 = some (.aaload, 1) := by decide +kernel
theorem r5_36 {E : Nat → Value} {d : Nat} {st : List Value} {h : gm_H} {r : gm_R × gm_H} {lv : List Value} {a k j : Nat} {vs : List Value} {v : Value} (hr : gm_rd h a = some (k, vs)) (hk : 100 ≤ k ∧ (fun t => t == 10 || t == 11 || t == 12) (k % 100) = true) (hj : j < 2 ^ 31) (hv : vs[j]? = some v) : gm_Go E d 5 36 lv (.int (nI j) :: .ref a :: st) h r ↔ gm_Go E d 5 37 lv (v :: st) h r := gr_rd m5 f5_36 rfl rfl rfl rfl (ga_ld (P := fun t => t == 10 || t == 11 || t == 12) hr hk hj hv)
theorem f5_37 : gm_ft 5 37 = some (.ifnull 5, 3) := by decide +kernel
theorem r5_37n {E : Nat → Value} {d : Nat} {st : List Value} {h : gm_H} {r : gm_R × gm_H} {lv : List Value} : gm_Go E d 5 37 lv (.null :: st) h r ↔ gm_Go E d 5 42 lv st h r := gr_brT m5 f5_37 rfl rfl rfl rfl
theorem r5_37 {E : Nat → Value} {d : Nat} {st : List Value} {h : gm_H} {r : gm_R × gm_H} {lv : List Value} {a : Nat} : gm_Go E d 5 37 lv (.ref a :: st) h r ↔ gm_Go E d 5 40 lv st h r := gr_brF m5 f5_37 rfl rfl rfl rfl
theorem f5_40 : gm_ft 5 40 = some (.iconst (-1), 1) := by decide +kernel
theorem r5_40 {E : Nat → Value} {d : Nat} {st : List Value} {h : gm_H} {r : gm_R × gm_H} {lv : List Value} : gm_Go E d 5 40 lv st h r ↔ gm_Go E d 5 41 lv (.int (-1 : Int32) :: st) h r := gr_pure m5 f5_40 rfl
theorem f5_41 : gm_ft 5 41 = some (.ireturn, 1) := by decide +kernel
theorem r5_41 {E : Nat → Value} {d : Nat} {h : gm_H} {r : gm_R × gm_H} {lv : List Value} {x : Int32} : gm_Go E d 5 41 lv [.int x] h r ↔ r = (.inl (some (.int x)), h) := gr_ret m5 f5_41 rfl rfl rfl rfl rfl rfl rfl rfl (by unfold gm_rt; dsimp only; rw [if_pos ⟨rfl, rfl⟩])
theorem f5_42 : gm_ft 5 42 = some (.aconst_null, 1) := by decide +kernel
theorem r5_42 {E : Nat → Value} {d : Nat} {st : List Value} {h : gm_H} {r : gm_R × gm_H} {lv : List Value} : gm_Go E d 5 42 lv st h r ↔ gm_Go E d 5 43 lv (.null :: st) h r := gr_pure m5 f5_42 rfl
theorem f5_43 : gm_ft 5 43 = some (.astore 6, 2) := by decide +kernel
theorem r5_43 {E : Nat → Value} {d : Nat} {st : List Value} {h : gm_H} {r : gm_R × gm_H} {a0 a1 a2 a3 a4 a5 a6 : Value} {x : Nat} : gm_Go E d 5 43 [a0, a1, a2, a3, a4, a5, a6] (.ref x :: st) h r ↔ gm_Go E d 5 45 [a0, a1, a2, a3, a4, gm_k a5, .ref x] st h r := gr_loc m5 f5_43 rfl rfl
theorem r5_43n {E : Nat → Value} {d : Nat} {st : List Value} {h : gm_H} {r : gm_R × gm_H} {a0 a1 a2 a3 a4 a5 a6 : Value}  : gm_Go E d 5 43 [a0, a1, a2, a3, a4, a5, a6] (.null :: st) h r ↔ gm_Go E d 5 45 [a0, a1, a2, a3, a4, gm_k a5, .null] st h r := gr_loc m5 f5_43 rfl rfl
theorem f5_45 : gm_ft 5 45 = some (.iload_n 3, 1) := by decide +kernel
theorem r5_45 {E : Nat → Value} {d : Nat} {st : List Value} {h : gm_H} {r : gm_R × gm_H} {a0 a1 a2 a4 a5 a6 : Value} {x : Int32} : gm_Go E d 5 45 [a0, a1, a2, .int x, a4, a5, a6] st h r ↔ gm_Go E d 5 46 [a0, a1, a2, .int x, a4, a5, a6] (.int x :: st) h r := gr_loc m5 f5_45 rfl rfl
theorem f5_46 : gm_ft 5 46 = some (.ifCond .lt 30, 3) := by decide +kernel
theorem r5_46 {E : Nat → Value} {d : Nat} {st : List Value} {h : gm_H} {r : gm_R × gm_H} {lv : List Value} {x : Int32} : gm_Go E d 5 46 lv (.int x :: st) h r ↔ (if x < 0 then gm_Go E d 5 76 lv st h r else gm_Go E d 5 49 lv st h r) := (gr_br m5 f5_46 rfl rfl rfl rfl).trans gr_if
theorem f5_49 : gm_ft 5 49 = some (.aload_n 0, 1) := by decide +kernel
theorem r5_49 {E : Nat → Value} {d : Nat} {st : List Value} {h : gm_H} {r : gm_R × gm_H} {a1 a2 a3 a4 a5 a6 : Value} {x : Nat} : gm_Go E d 5 49 [.ref x, a1, a2, a3, a4, a5, a6] st h r ↔ gm_Go E d 5 50 [.ref x, a1, a2, a3, a4, a5, a6] (.ref x :: st) h r := gr_loc m5 f5_49 rfl rfl
theorem r5_49n {E : Nat → Value} {d : Nat} {st : List Value} {h : gm_H} {r : gm_R × gm_H} {a1 a2 a3 a4 a5 a6 : Value}  : gm_Go E d 5 49 [.null, a1, a2, a3, a4, a5, a6] st h r ↔ gm_Go E d 5 50 [.null, a1, a2, a3, a4, a5, a6] (.null :: st) h r := gr_loc m5 f5_49 rfl rfl
theorem f5_50 : gm_ft 5 50 = some (.getfield 11, 3) := by decide +kernel
theorem r5_50 {E : Nat → Value} {d : Nat} {st : List Value} {h : gm_H} {r : gm_R × gm_H} {lv : List Value} {a : Nat} {vs : List Value} {v : Value} (hr : gm_rd h a = some (0, vs)) (hv : vs[4]? = some v) : gm_Go E d 5 50 lv (.ref a :: st) h r ↔ gm_Go E d 5 53 lv (v :: st) h r := gr_rd m5 f5_50 rfl rfl rfl rfl (gf_get k0_11 hr hv)
theorem f5_53 : gm_ft 5 53 = some (.iload_n 3, 1) := by decide +kernel
theorem r5_53 {E : Nat → Value} {d : Nat} {st : List Value} {h : gm_H} {r : gm_R × gm_H} {a0 a1 a2 a4 a5 a6 : Value} {x : Int32} : gm_Go E d 5 53 [a0, a1, a2, .int x, a4, a5, a6] st h r ↔ gm_Go E d 5 54 [a0, a1, a2, .int x, a4, a5, a6] (.int x :: st) h r := gr_loc m5 f5_53 rfl rfl
theorem f5_54 : gm_ft 5 54 = some (.aaload, 1) := by decide +kernel
theorem r5_54 {E : Nat → Value} {d : Nat} {st : List Value} {h : gm_H} {r : gm_R × gm_H} {lv : List Value} {a k j : Nat} {vs : List Value} {v : Value} (hr : gm_rd h a = some (k, vs)) (hk : 100 ≤ k ∧ (fun t => t == 10 || t == 11 || t == 12) (k % 100) = true) (hj : j < 2 ^ 31) (hv : vs[j]? = some v) : gm_Go E d 5 54 lv (.int (nI j) :: .ref a :: st) h r ↔ gm_Go E d 5 55 lv (v :: st) h r := gr_rd m5 f5_54 rfl rfl rfl rfl (ga_ld (P := fun t => t == 10 || t == 11 || t == 12) hr hk hj hv)
theorem f5_55 : gm_ft 5 55 = some (.astore 6, 2) := by decide +kernel
theorem r5_55 {E : Nat → Value} {d : Nat} {st : List Value} {h : gm_H} {r : gm_R × gm_H} {a0 a1 a2 a3 a4 a5 a6 : Value} {x : Nat} : gm_Go E d 5 55 [a0, a1, a2, a3, a4, a5, a6] (.ref x :: st) h r ↔ gm_Go E d 5 57 [a0, a1, a2, a3, a4, gm_k a5, .ref x] st h r := gr_loc m5 f5_55 rfl rfl
theorem r5_55n {E : Nat → Value} {d : Nat} {st : List Value} {h : gm_H} {r : gm_R × gm_H} {a0 a1 a2 a3 a4 a5 a6 : Value}  : gm_Go E d 5 55 [a0, a1, a2, a3, a4, a5, a6] (.null :: st) h r ↔ gm_Go E d 5 57 [a0, a1, a2, a3, a4, gm_k a5, .null] st h r := gr_loc m5 f5_55 rfl rfl
theorem f5_57 : gm_ft 5 57 = some (.aload 6, 2) := by decide +kernel
theorem r5_57 {E : Nat → Value} {d : Nat} {st : List Value} {h : gm_H} {r : gm_R × gm_H} {a0 a1 a2 a3 a4 a5 : Value} {x : Nat} : gm_Go E d 5 57 [a0, a1, a2, a3, a4, a5, .ref x] st h r ↔ gm_Go E d 5 59 [a0, a1, a2, a3, a4, a5, .ref x] (.ref x :: st) h r := gr_loc m5 f5_57 rfl rfl
theorem r5_57n {E : Nat → Value} {d : Nat} {st : List Value} {h : gm_H} {r : gm_R × gm_H} {a0 a1 a2 a3 a4 a5 : Value}  : gm_Go E d 5 57 [a0, a1, a2, a3, a4, a5, .null] st h r ↔ gm_Go E d 5 59 [a0, a1, a2, a3, a4, a5, .null] (.null :: st) h r := gr_loc m5 f5_57 rfl rfl
theorem f5_59 : gm_ft 5 59 = some (.ifnull 15, 3) := by decide +kernel
theorem r5_59n {E : Nat → Value} {d : Nat} {st : List Value} {h : gm_H} {r : gm_R × gm_H} {lv : List Value} : gm_Go E d 5 59 lv (.null :: st) h r ↔ gm_Go E d 5 74 lv st h r := gr_brT m5 f5_59 rfl rfl rfl rfl
theorem r5_59 {E : Nat → Value} {d : Nat} {st : List Value} {h : gm_H} {r : gm_R × gm_H} {lv : List Value} {a : Nat} : gm_Go E d 5 59 lv (.ref a :: st) h r ↔ gm_Go E d 5 62 lv st h r := gr_brF m5 f5_59 rfl rfl rfl rfl
theorem f5_62 : gm_ft 5 62 = some (.iload_n 2, 1) := by decide +kernel
theorem r5_62 {E : Nat → Value} {d : Nat} {st : List Value} {h : gm_H} {r : gm_R × gm_H} {a0 a1 a3 a4 a5 a6 : Value} {x : Int32} : gm_Go E d 5 62 [a0, a1, .int x, a3, a4, a5, a6] st h r ↔ gm_Go E d 5 63 [a0, a1, .int x, a3, a4, a5, a6] (.int x :: st) h r := gr_loc m5 f5_62 rfl rfl
theorem f5_63 : gm_ft 5 63 = some (.aload 6, 2) := by decide +kernel
theorem r5_63 {E : Nat → Value} {d : Nat} {st : List Value} {h : gm_H} {r : gm_R × gm_H} {a0 a1 a2 a3 a4 a5 : Value} {x : Nat} : gm_Go E d 5 63 [a0, a1, a2, a3, a4, a5, .ref x] st h r ↔ gm_Go E d 5 65 [a0, a1, a2, a3, a4, a5, .ref x] (.ref x :: st) h r := gr_loc m5 f5_63 rfl rfl
theorem r5_63n {E : Nat → Value} {d : Nat} {st : List Value} {h : gm_H} {r : gm_R × gm_H} {a0 a1 a2 a3 a4 a5 : Value}  : gm_Go E d 5 63 [a0, a1, a2, a3, a4, a5, .null] st h r ↔ gm_Go E d 5 65 [a0, a1, a2, a3, a4, a5, .null] (.null :: st) h r := gr_loc m5 f5_63 rfl rfl
theorem f5_65 : gm_ft 5 65 = some (.getfield 54, 3) := by decide +kernel
theorem r5_65 {E : Nat → Value} {d : Nat} {st : List Value} {h : gm_H} {r : gm_R × gm_H} {lv : List Value} {a : Nat} {vs : List Value} {v : Value} (hr : gm_rd h a = some (3, vs)) (hv : vs[1]? = some v) : gm_Go E d 5 65 lv (.ref a :: st) h r ↔ gm_Go E d 5 68 lv (v :: st) h r := gr_rd m5 f5_65 rfl rfl rfl rfl (gf_get k0_54 hr hv)
theorem f5_68 : gm_ft 5 68 = some (.invokestatic 57, 3) := by decide +kernel
theorem n5_68 {st : List Value} {h : gm_H} {E : Nat → Value} {lv : List Value} {b0 b1 : Value} (hs : (st.map fun v => v.category).sum ≤ 8) (he : (gm_en1 [b0, b1]).length ≤ 2) : gm_next E 5 68 lv (b1 :: b0 :: st) h = some (.inr (.inl (1, 6, [b0, b1], st))) := gn_call m5 f5_68 rfl rfl rfl rfl rfl rfl rfl (gc_stat (bs := [b1, b0]) (w := 106) rfl rfl rfl hs he) (by decide)
theorem f5_71 : gm_ft 5 71 = some (.ifCond .ne 5, 3) := by decide +kernel
theorem r5_71 {E : Nat → Value} {d : Nat} {st : List Value} {h : gm_H} {r : gm_R × gm_H} {lv : List Value} {x : Int32} : gm_Go E d 5 71 lv (.int x :: st) h r ↔ (if x = 0 then gm_Go E d 5 74 lv st h r else gm_Go E d 5 76 lv st h r) := (gr_br m5 f5_71 rfl rfl rfl rfl).trans gr_ifn
theorem f5_74 : gm_ft 5 74 = some (.iconst (-1), 1) := by decide +kernel
theorem r5_74 {E : Nat → Value} {d : Nat} {st : List Value} {h : gm_H} {r : gm_R × gm_H} {lv : List Value} : gm_Go E d 5 74 lv st h r ↔ gm_Go E d 5 75 lv (.int (-1 : Int32) :: st) h r := gr_pure m5 f5_74 rfl
theorem f5_75 : gm_ft 5 75 = some (.ireturn, 1) := by decide +kernel
theorem r5_75 {E : Nat → Value} {d : Nat} {h : gm_H} {r : gm_R × gm_H} {lv : List Value} {x : Int32} : gm_Go E d 5 75 lv [.int x] h r ↔ r = (.inl (some (.int x)), h) := gr_ret m5 f5_75 rfl rfl rfl rfl rfl rfl rfl rfl (by unfold gm_rt; dsimp only; rw [if_pos ⟨rfl, rfl⟩])
theorem f5_76 : gm_ft 5 76 = some (.aload_n 0, 1) := by decide +kernel
theorem r5_76 {E : Nat → Value} {d : Nat} {st : List Value} {h : gm_H} {r : gm_R × gm_H} {a1 a2 a3 a4 a5 a6 : Value} {x : Nat} : gm_Go E d 5 76 [.ref x, a1, a2, a3, a4, a5, a6] st h r ↔ gm_Go E d 5 77 [.ref x, a1, a2, a3, a4, a5, a6] (.ref x :: st) h r := gr_loc m5 f5_76 rfl rfl
theorem r5_76n {E : Nat → Value} {d : Nat} {st : List Value} {h : gm_H} {r : gm_R × gm_H} {a1 a2 a3 a4 a5 a6 : Value}  : gm_Go E d 5 76 [.null, a1, a2, a3, a4, a5, a6] st h r ↔ gm_Go E d 5 77 [.null, a1, a2, a3, a4, a5, a6] (.null :: st) h r := gr_loc m5 f5_76 rfl rfl
theorem f5_77 : gm_ft 5 77 = some (.getfield 11, 3) := by decide +kernel
theorem r5_77 {E : Nat → Value} {d : Nat} {st : List Value} {h : gm_H} {r : gm_R × gm_H} {lv : List Value} {a : Nat} {vs : List Value} {v : Value} (hr : gm_rd h a = some (0, vs)) (hv : vs[4]? = some v) : gm_Go E d 5 77 lv (.ref a :: st) h r ↔ gm_Go E d 5 80 lv (v :: st) h r := gr_rd m5 f5_77 rfl rfl rfl rfl (gf_get k0_11 hr hv)
theorem f5_80 : gm_ft 5 80 = some (.iload_n 1, 1) := by decide +kernel
theorem r5_80 {E : Nat → Value} {d : Nat} {st : List Value} {h : gm_H} {r : gm_R × gm_H} {a0 a2 a3 a4 a5 a6 : Value} {x : Int32} : gm_Go E d 5 80 [a0, .int x, a2, a3, a4, a5, a6] st h r ↔ gm_Go E d 5 81 [a0, .int x, a2, a3, a4, a5, a6] (.int x :: st) h r := gr_loc m5 f5_80 rfl rfl
theorem f5_81 : gm_ft 5 81 = some (.new 9, 3) := by decide +kernel
theorem r5_81 {E : Nat → Value} {d : Nat} {st : List Value} {h : gm_H} {r : gm_R × gm_H} {lv : List Value} : gm_Go E d 5 81 lv st h r ↔ gm_Go E d 5 84 lv (.ref h.1 :: st) (gm_nw h (3, (List.range (gm_N 3)).map (fun k => defaultValue (gm_ty 3 k))) (gm_N 3)) r := gr_nw m5 f5_81 rfl rfl rfl rfl rfl rfl rfl
theorem f5_84 : gm_ft 5 84 = some (.dup, 1) := by decide +kernel
theorem r5_84 {E : Nat → Value} {d : Nat} {st : List Value} {h : gm_H} {r : gm_R × gm_H} {lv : List Value} {a : Nat} : gm_Go E d 5 84 lv (.ref a :: st) h r ↔ gm_Go E d 5 85 lv (.ref a :: .ref a :: st) h r := gr_pure m5 f5_84 rfl
theorem r5_84i {E : Nat → Value} {d : Nat} {st : List Value} {h : gm_H} {r : gm_R × gm_H} {lv : List Value} {x : Int32} : gm_Go E d 5 84 lv (.int x :: st) h r ↔ gm_Go E d 5 85 lv (.int x :: .int x :: st) h r := gr_pure m5 f5_84 rfl
theorem f5_85 : gm_ft 5 85 = some (.iload_n 1, 1) := by decide +kernel
theorem r5_85 {E : Nat → Value} {d : Nat} {st : List Value} {h : gm_H} {r : gm_R × gm_H} {a0 a2 a3 a4 a5 a6 : Value} {x : Int32} : gm_Go E d 5 85 [a0, .int x, a2, a3, a4, a5, a6] st h r ↔ gm_Go E d 5 86 [a0, .int x, a2, a3, a4, a5, a6] (.int x :: st) h r := gr_loc m5 f5_85 rfl rfl
theorem f5_86 : gm_ft 5 86 = some (.iload_n 2, 1) := by decide +kernel
theorem r5_86 {E : Nat → Value} {d : Nat} {st : List Value} {h : gm_H} {r : gm_R × gm_H} {a0 a1 a3 a4 a5 a6 : Value} {x : Int32} : gm_Go E d 5 86 [a0, a1, .int x, a3, a4, a5, a6] st h r ↔ gm_Go E d 5 87 [a0, a1, .int x, a3, a4, a5, a6] (.int x :: st) h r := gr_loc m5 f5_86 rfl rfl
theorem f5_87 : gm_ft 5 87 = some (.aload 6, 2) := by decide +kernel
theorem r5_87 {E : Nat → Value} {d : Nat} {st : List Value} {h : gm_H} {r : gm_R × gm_H} {a0 a1 a2 a3 a4 a5 : Value} {x : Nat} : gm_Go E d 5 87 [a0, a1, a2, a3, a4, a5, .ref x] st h r ↔ gm_Go E d 5 89 [a0, a1, a2, a3, a4, a5, .ref x] (.ref x :: st) h r := gr_loc m5 f5_87 rfl rfl
theorem r5_87n {E : Nat → Value} {d : Nat} {st : List Value} {h : gm_H} {r : gm_R × gm_H} {a0 a1 a2 a3 a4 a5 : Value}  : gm_Go E d 5 87 [a0, a1, a2, a3, a4, a5, .null] st h r ↔ gm_Go E d 5 89 [a0, a1, a2, a3, a4, a5, .null] (.null :: st) h r := gr_loc m5 f5_87 rfl rfl
theorem f5_89 : gm_ft 5 89 = some (.lload 4, 2) := by decide +kernel
theorem r5_89 {E : Nat → Value} {d : Nat} {st : List Value} {h : gm_H} {r : gm_R × gm_H} {a0 a1 a2 a3 a5 a6 : Value} {x : Int64} : gm_Go E d 5 89 [a0, a1, a2, a3, .long x, a5, a6] st h r ↔ gm_Go E d 5 91 [a0, a1, a2, a3, .long x, a5, a6] (.long x :: st) h r := gr_loc m5 f5_89 rfl rfl
theorem f5_91 : gm_ft 5 91 = some (.invokespecial 61, 3) := by decide +kernel
theorem n5_91 {st : List Value} {h : gm_H} {E : Nat → Value} {lv : List Value} {b0 b1 b2 b3 : Value} {a : Nat} (hs : (st.map fun v => v.category).sum ≤ 8) (he : (gm_en1 [.ref a, b0, b1, b2, b3]).length ≤ 6) : gm_next E 5 91 lv (b3 :: b2 :: b1 :: b0 :: .ref a :: st) h = some (.inr (.inl (2, 7, [.ref a, b0, b1, b2, b3], st))) := gn_call m5 f5_91 rfl rfl rfl rfl rfl rfl rfl (gc_init (bs := [b3, b2, b1, b0]) (w := 110) rfl rfl rfl hs he (by decide)) (by decide)
theorem f5_94 : gm_ft 5 94 = some (.aastore, 1) := by decide +kernel
theorem f5_95 : gm_ft 5 95 = some (.iconst 0, 1) := by decide +kernel
theorem r5_95 {E : Nat → Value} {d : Nat} {st : List Value} {h : gm_H} {r : gm_R × gm_H} {lv : List Value} : gm_Go E d 5 95 lv st h r ↔ gm_Go E d 5 96 lv (.int (0 : Int32) :: st) h r := gr_pure m5 f5_95 rfl
theorem f5_96 : gm_ft 5 96 = some (.ireturn, 1) := by decide +kernel
theorem r5_96 {E : Nat → Value} {d : Nat} {h : gm_H} {r : gm_R × gm_H} {lv : List Value} {x : Int32} : gm_Go E d 5 96 lv [.int x] h r ↔ r = (.inl (some (.int x)), h) := gr_ret m5 f5_96 rfl rfl rfl rfl rfl rfl rfl rfl (by unfold gm_rt; dsimp only; rw [if_pos ⟨rfl, rfl⟩])
/-! GraphReader.mayExtend(II)Z -/
theorem m6 : gm_mt[6]? = some (⟨"GraphReader", "mayExtend", "(II)Z"⟩, prog_1_method_13_code, 2, (some .boolean), [], 0, 1) := rfl
theorem f6_0 : gm_ft 6 0 = some (.iload_n 1, 1) := by decide +kernel
theorem r6_0 {E : Nat → Value} {d : Nat} {st : List Value} {h : gm_H} {r : gm_R × gm_H} {a0 : Value} {x : Int32} : gm_Go E d 6 0 [a0, .int x] st h r ↔ gm_Go E d 6 1 [a0, .int x] (.int x :: st) h r := gr_loc m6 f6_0 rfl rfl
theorem f6_1 : gm_ft 6 1 = some (.iconst 2, 1) := by decide +kernel
theorem r6_1 {E : Nat → Value} {d : Nat} {st : List Value} {h : gm_H} {r : gm_R × gm_H} {lv : List Value} : gm_Go E d 6 1 lv st h r ↔ gm_Go E d 6 2 lv (.int (2 : Int32) :: st) h r := gr_pure m6 f6_1 rfl
theorem f6_2 : gm_ft 6 2 = some (.if_icmp .gt 8, 3) := by decide +kernel
theorem r6_2 {E : Nat → Value} {d : Nat} {st : List Value} {h : gm_H} {r : gm_R × gm_H} {lv : List Value} {x y : Int32} : gm_Go E d 6 2 lv (.int y :: .int x :: st) h r ↔ (if y < x then gm_Go E d 6 10 lv st h r else gm_Go E d 6 5 lv st h r) := (gr_br m6 f6_2 rfl rfl rfl rfl).trans gr_if
theorem f6_5 : gm_ft 6 5 = some (.iload_n 0, 1) := by decide +kernel
theorem r6_5 {E : Nat → Value} {d : Nat} {st : List Value} {h : gm_H} {r : gm_R × gm_H} {a1 : Value} {x : Int32} : gm_Go E d 6 5 [.int x, a1] st h r ↔ gm_Go E d 6 6 [.int x, a1] (.int x :: st) h r := gr_loc m6 f6_5 rfl rfl
theorem f6_6 : gm_ft 6 6 = some (.iconst 2, 1) := by decide +kernel
theorem r6_6 {E : Nat → Value} {d : Nat} {st : List Value} {h : gm_H} {r : gm_R × gm_H} {lv : List Value} : gm_Go E d 6 6 lv st h r ↔ gm_Go E d 6 7 lv (.int (2 : Int32) :: st) h r := gr_pure m6 f6_6 rfl
theorem f6_7 : gm_ft 6 7 = some (.if_icmp .le 5, 3) := by decide +kernel
theorem r6_7 {E : Nat → Value} {d : Nat} {st : List Value} {h : gm_H} {r : gm_R × gm_H} {lv : List Value} {x y : Int32} : gm_Go E d 6 7 lv (.int y :: .int x :: st) h r ↔ (if x ≤ y then gm_Go E d 6 12 lv st h r else gm_Go E d 6 10 lv st h r) := (gr_br m6 f6_7 rfl rfl rfl rfl).trans gr_if
theorem f6_10 : gm_ft 6 10 = some (.iconst 0, 1) := by decide +kernel
theorem r6_10 {E : Nat → Value} {d : Nat} {st : List Value} {h : gm_H} {r : gm_R × gm_H} {lv : List Value} : gm_Go E d 6 10 lv st h r ↔ gm_Go E d 6 11 lv (.int (0 : Int32) :: st) h r := gr_pure m6 f6_10 rfl
theorem f6_11 : gm_ft 6 11 = some (.ireturn, 1) := by decide +kernel
theorem r6_11_0 {E : Nat → Value} {d : Nat} {h : gm_H} {r : gm_R × gm_H} {lv : List Value} : gm_Go E d 6 11 lv [.int (0 : Int32)] h r ↔ r = (.inl (some (.int (0 : Int32))), h) := gr_ret m6 f6_11 rfl rfl rfl rfl rfl rfl rfl rfl (by unfold gm_rt; dsimp only; rw [if_pos ⟨rfl, rfl⟩])
theorem r6_11_1 {E : Nat → Value} {d : Nat} {h : gm_H} {r : gm_R × gm_H} {lv : List Value} : gm_Go E d 6 11 lv [.int (1 : Int32)] h r ↔ r = (.inl (some (.int (1 : Int32))), h) := gr_ret m6 f6_11 rfl rfl rfl rfl rfl rfl rfl rfl (by unfold gm_rt; dsimp only; rw [if_pos ⟨rfl, rfl⟩])
theorem f6_12 : gm_ft 6 12 = some (.iload_n 0, 1) := by decide +kernel
theorem r6_12 {E : Nat → Value} {d : Nat} {st : List Value} {h : gm_H} {r : gm_R × gm_H} {a1 : Value} {x : Int32} : gm_Go E d 6 12 [.int x, a1] st h r ↔ gm_Go E d 6 13 [.int x, a1] (.int x :: st) h r := gr_loc m6 f6_12 rfl rfl
theorem f6_13 : gm_ft 6 13 = some (.ifCond .ne 7, 3) := by decide +kernel
theorem r6_13 {E : Nat → Value} {d : Nat} {st : List Value} {h : gm_H} {r : gm_R × gm_H} {lv : List Value} {x : Int32} : gm_Go E d 6 13 lv (.int x :: st) h r ↔ (if x = 0 then gm_Go E d 6 16 lv st h r else gm_Go E d 6 20 lv st h r) := (gr_br m6 f6_13 rfl rfl rfl rfl).trans gr_ifn
theorem f6_16 : gm_ft 6 16 = some (.iload_n 1, 1) := by decide +kernel
theorem r6_16 {E : Nat → Value} {d : Nat} {st : List Value} {h : gm_H} {r : gm_R × gm_H} {a0 : Value} {x : Int32} : gm_Go E d 6 16 [a0, .int x] st h r ↔ gm_Go E d 6 17 [a0, .int x] (.int x :: st) h r := gr_loc m6 f6_16 rfl rfl
theorem f6_17 : gm_ft 6 17 = some (.ifCond .ne 7, 3) := by decide +kernel
theorem r6_17 {E : Nat → Value} {d : Nat} {st : List Value} {h : gm_H} {r : gm_R × gm_H} {lv : List Value} {x : Int32} : gm_Go E d 6 17 lv (.int x :: st) h r ↔ (if x = 0 then gm_Go E d 6 20 lv st h r else gm_Go E d 6 24 lv st h r) := (gr_br m6 f6_17 rfl rfl rfl rfl).trans gr_ifn
theorem f6_20 : gm_ft 6 20 = some (.iconst 1, 1) := by decide +kernel
theorem r6_20 {E : Nat → Value} {d : Nat} {st : List Value} {h : gm_H} {r : gm_R × gm_H} {lv : List Value} : gm_Go E d 6 20 lv st h r ↔ gm_Go E d 6 21 lv (.int (1 : Int32) :: st) h r := gr_pure m6 f6_20 rfl
theorem f6_21 : gm_ft 6 21 = some (.goto 4, 3) := by decide +kernel
theorem r6_21 {E : Nat → Value} {d : Nat} {st : List Value} {h : gm_H} {r : gm_R × gm_H} {lv : List Value} : gm_Go E d 6 21 lv st h r ↔ gm_Go E d 6 25 lv st h r := gr_brT m6 f6_21 rfl rfl rfl rfl
theorem f6_24 : gm_ft 6 24 = some (.iconst 0, 1) := by decide +kernel
theorem r6_24 {E : Nat → Value} {d : Nat} {st : List Value} {h : gm_H} {r : gm_R × gm_H} {lv : List Value} : gm_Go E d 6 24 lv st h r ↔ gm_Go E d 6 25 lv (.int (0 : Int32) :: st) h r := gr_pure m6 f6_24 rfl
theorem f6_25 : gm_ft 6 25 = some (.ireturn, 1) := by decide +kernel
theorem r6_25_0 {E : Nat → Value} {d : Nat} {h : gm_H} {r : gm_R × gm_H} {lv : List Value} : gm_Go E d 6 25 lv [.int (0 : Int32)] h r ↔ r = (.inl (some (.int (0 : Int32))), h) := gr_ret m6 f6_25 rfl rfl rfl rfl rfl rfl rfl rfl (by unfold gm_rt; dsimp only; rw [if_pos ⟨rfl, rfl⟩])
theorem r6_25_1 {E : Nat → Value} {d : Nat} {h : gm_H} {r : gm_R × gm_H} {lv : List Value} : gm_Go E d 6 25 lv [.int (1 : Int32)] h r ↔ r = (.inl (some (.int (1 : Int32))), h) := gr_ret m6 f6_25 rfl rfl rfl rfl rfl rfl rfl rfl (by unfold gm_rt; dsimp only; rw [if_pos ⟨rfl, rfl⟩])
/-! GraphReader$LocalClass.<init>(IILGraphReader$LocalClass;J)V -/
theorem m7 : gm_mt[7]? = some (⟨"GraphReader$LocalClass", "<init>", "(IILGraphReader$LocalClass;J)V"⟩, prog_4_method_1_code, 6, none, [], 3, 1) := rfl
theorem f7_0 : gm_ft 7 0 = some (.aload_n 0, 1) := by decide +kernel
theorem r7_0 {E : Nat → Value} {d : Nat} {st : List Value} {h : gm_H} {r : gm_R × gm_H} {a1 a2 a3 a4 a5 : Value} {x : Nat} : gm_Go E d 7 0 [.ref x, a1, a2, a3, a4, a5] st h r ↔ gm_Go E d 7 1 [.ref x, a1, a2, a3, a4, a5] (.ref x :: st) h r := gr_loc m7 f7_0 rfl rfl
theorem r7_0n {E : Nat → Value} {d : Nat} {st : List Value} {h : gm_H} {r : gm_R × gm_H} {a1 a2 a3 a4 a5 : Value}  : gm_Go E d 7 0 [.null, a1, a2, a3, a4, a5] st h r ↔ gm_Go E d 7 1 [.null, a1, a2, a3, a4, a5] (.null :: st) h r := gr_loc m7 f7_0 rfl rfl
theorem f7_1 : gm_ft 7 1 = some (.invokespecial 3, 3) := by decide +kernel
theorem r7_1 {E : Nat → Value} {d : Nat} {st : List Value} {h : gm_H} {r : gm_R × gm_H} {lv : List Value} {a : Nat} (hs : (st.map fun v => v.category).sum ≤ 8) : gm_Go E d 7 1 lv (.ref a :: st) h r ↔ gm_Go E d 7 4 lv st h r := gr_oi m7 f7_1 rfl rfl rfl rfl rfl rfl rfl (gc_spec (w := 113) rfl hs (by decide))
theorem f7_4 : gm_ft 7 4 = some (.aload_n 0, 1) := by decide +kernel
theorem r7_4 {E : Nat → Value} {d : Nat} {st : List Value} {h : gm_H} {r : gm_R × gm_H} {a1 a2 a3 a4 a5 : Value} {x : Nat} : gm_Go E d 7 4 [.ref x, a1, a2, a3, a4, a5] st h r ↔ gm_Go E d 7 5 [.ref x, a1, a2, a3, a4, a5] (.ref x :: st) h r := gr_loc m7 f7_4 rfl rfl
theorem r7_4n {E : Nat → Value} {d : Nat} {st : List Value} {h : gm_H} {r : gm_R × gm_H} {a1 a2 a3 a4 a5 : Value}  : gm_Go E d 7 4 [.null, a1, a2, a3, a4, a5] st h r ↔ gm_Go E d 7 5 [.null, a1, a2, a3, a4, a5] (.null :: st) h r := gr_loc m7 f7_4 rfl rfl
theorem f7_5 : gm_ft 7 5 = some (.iconst 4, 1) := by decide +kernel
theorem r7_5 {E : Nat → Value} {d : Nat} {st : List Value} {h : gm_H} {r : gm_R × gm_H} {lv : List Value} : gm_Go E d 7 5 lv st h r ↔ gm_Go E d 7 6 lv (.int (4 : Int32) :: st) h r := gr_pure m7 f7_5 rfl
theorem f7_6 : gm_ft 7 6 = some (.newarray .int, 2) := by decide +kernel
theorem f7_8 : gm_ft 7 8 = some (.putfield 9, 3) := by decide +kernel
theorem r7_8 {E : Nat → Value} {d : Nat} {st : List Value} {h : gm_H} {r : gm_R × gm_H} {lv : List Value} {a : Nat} {vs : List Value} {v : Value} (hr : gm_rd h a = some (3, vs)) (hk : 4 < vs.length) (hn : narrow (gm_ty 3 4) v = v ∧ fits (gm_ty 3 4) v = true) : gm_Go E d 7 8 lv (v :: .ref a :: st) h r ↔ gm_Go E d 7 11 lv st (gm_wr h a (3, vs.set 4 v)) r := gr_wr m7 f7_8 rfl rfl rfl rfl rfl (gf_put k3_9 hr (by decide) hk hn (by decide))
theorem f7_11 : gm_ft 7 11 = some (.aload_n 0, 1) := by decide +kernel
theorem r7_11 {E : Nat → Value} {d : Nat} {st : List Value} {h : gm_H} {r : gm_R × gm_H} {a1 a2 a3 a4 a5 : Value} {x : Nat} : gm_Go E d 7 11 [.ref x, a1, a2, a3, a4, a5] st h r ↔ gm_Go E d 7 12 [.ref x, a1, a2, a3, a4, a5] (.ref x :: st) h r := gr_loc m7 f7_11 rfl rfl
theorem r7_11n {E : Nat → Value} {d : Nat} {st : List Value} {h : gm_H} {r : gm_R × gm_H} {a1 a2 a3 a4 a5 : Value}  : gm_Go E d 7 11 [.null, a1, a2, a3, a4, a5] st h r ↔ gm_Go E d 7 12 [.null, a1, a2, a3, a4, a5] (.null :: st) h r := gr_loc m7 f7_11 rfl rfl
theorem f7_12 : gm_ft 7 12 = some (.iconst 4, 1) := by decide +kernel
theorem r7_12 {E : Nat → Value} {d : Nat} {st : List Value} {h : gm_H} {r : gm_R × gm_H} {lv : List Value} : gm_Go E d 7 12 lv st h r ↔ gm_Go E d 7 13 lv (.int (4 : Int32) :: st) h r := gr_pure m7 f7_12 rfl
theorem f7_13 : gm_ft 7 13 = some (.newarray .int, 2) := by decide +kernel
theorem f7_15 : gm_ft 7 15 = some (.putfield 15, 3) := by decide +kernel
theorem r7_15 {E : Nat → Value} {d : Nat} {st : List Value} {h : gm_H} {r : gm_R × gm_H} {lv : List Value} {a : Nat} {vs : List Value} {v : Value} (hr : gm_rd h a = some (3, vs)) (hk : 5 < vs.length) (hn : narrow (gm_ty 3 5) v = v ∧ fits (gm_ty 3 5) v = true) : gm_Go E d 7 15 lv (v :: .ref a :: st) h r ↔ gm_Go E d 7 18 lv st (gm_wr h a (3, vs.set 5 v)) r := gr_wr m7 f7_15 rfl rfl rfl rfl rfl (gf_put k3_15 hr (by decide) hk hn (by decide))
theorem f7_18 : gm_ft 7 18 = some (.aload_n 0, 1) := by decide +kernel
theorem r7_18 {E : Nat → Value} {d : Nat} {st : List Value} {h : gm_H} {r : gm_R × gm_H} {a1 a2 a3 a4 a5 : Value} {x : Nat} : gm_Go E d 7 18 [.ref x, a1, a2, a3, a4, a5] st h r ↔ gm_Go E d 7 19 [.ref x, a1, a2, a3, a4, a5] (.ref x :: st) h r := gr_loc m7 f7_18 rfl rfl
theorem r7_18n {E : Nat → Value} {d : Nat} {st : List Value} {h : gm_H} {r : gm_R × gm_H} {a1 a2 a3 a4 a5 : Value}  : gm_Go E d 7 18 [.null, a1, a2, a3, a4, a5] st h r ↔ gm_Go E d 7 19 [.null, a1, a2, a3, a4, a5] (.null :: st) h r := gr_loc m7 f7_18 rfl rfl
theorem f7_19 : gm_ft 7 19 = some (.iload_n 1, 1) := by decide +kernel
theorem r7_19 {E : Nat → Value} {d : Nat} {st : List Value} {h : gm_H} {r : gm_R × gm_H} {a0 a2 a3 a4 a5 : Value} {x : Int32} : gm_Go E d 7 19 [a0, .int x, a2, a3, a4, a5] st h r ↔ gm_Go E d 7 20 [a0, .int x, a2, a3, a4, a5] (.int x :: st) h r := gr_loc m7 f7_19 rfl rfl
theorem f7_20 : gm_ft 7 20 = some (.putfield 18, 3) := by decide +kernel
theorem r7_20 {E : Nat → Value} {d : Nat} {st : List Value} {h : gm_H} {r : gm_R × gm_H} {lv : List Value} {a : Nat} {vs : List Value} {v : Value} (hr : gm_rd h a = some (3, vs)) (hk : 0 < vs.length) (hn : narrow (gm_ty 3 0) v = v ∧ fits (gm_ty 3 0) v = true) : gm_Go E d 7 20 lv (v :: .ref a :: st) h r ↔ gm_Go E d 7 23 lv st (gm_wr h a (3, vs.set 0 v)) r := gr_wr m7 f7_20 rfl rfl rfl rfl rfl (gf_put k3_18 hr (by decide) hk hn (by decide))
theorem f7_23 : gm_ft 7 23 = some (.aload_n 0, 1) := by decide +kernel
theorem r7_23 {E : Nat → Value} {d : Nat} {st : List Value} {h : gm_H} {r : gm_R × gm_H} {a1 a2 a3 a4 a5 : Value} {x : Nat} : gm_Go E d 7 23 [.ref x, a1, a2, a3, a4, a5] st h r ↔ gm_Go E d 7 24 [.ref x, a1, a2, a3, a4, a5] (.ref x :: st) h r := gr_loc m7 f7_23 rfl rfl
theorem r7_23n {E : Nat → Value} {d : Nat} {st : List Value} {h : gm_H} {r : gm_R × gm_H} {a1 a2 a3 a4 a5 : Value}  : gm_Go E d 7 23 [.null, a1, a2, a3, a4, a5] st h r ↔ gm_Go E d 7 24 [.null, a1, a2, a3, a4, a5] (.null :: st) h r := gr_loc m7 f7_23 rfl rfl
theorem f7_24 : gm_ft 7 24 = some (.iload_n 2, 1) := by decide +kernel
theorem r7_24 {E : Nat → Value} {d : Nat} {st : List Value} {h : gm_H} {r : gm_R × gm_H} {a0 a1 a3 a4 a5 : Value} {x : Int32} : gm_Go E d 7 24 [a0, a1, .int x, a3, a4, a5] st h r ↔ gm_Go E d 7 25 [a0, a1, .int x, a3, a4, a5] (.int x :: st) h r := gr_loc m7 f7_24 rfl rfl
theorem f7_25 : gm_ft 7 25 = some (.putfield 22, 3) := by decide +kernel
theorem r7_25 {E : Nat → Value} {d : Nat} {st : List Value} {h : gm_H} {r : gm_R × gm_H} {lv : List Value} {a : Nat} {vs : List Value} {v : Value} (hr : gm_rd h a = some (3, vs)) (hk : 1 < vs.length) (hn : narrow (gm_ty 3 1) v = v ∧ fits (gm_ty 3 1) v = true) : gm_Go E d 7 25 lv (v :: .ref a :: st) h r ↔ gm_Go E d 7 28 lv st (gm_wr h a (3, vs.set 1 v)) r := gr_wr m7 f7_25 rfl rfl rfl rfl rfl (gf_put k3_22 hr (by decide) hk hn (by decide))
theorem f7_28 : gm_ft 7 28 = some (.aload_n 0, 1) := by decide +kernel
theorem r7_28 {E : Nat → Value} {d : Nat} {st : List Value} {h : gm_H} {r : gm_R × gm_H} {a1 a2 a3 a4 a5 : Value} {x : Nat} : gm_Go E d 7 28 [.ref x, a1, a2, a3, a4, a5] st h r ↔ gm_Go E d 7 29 [.ref x, a1, a2, a3, a4, a5] (.ref x :: st) h r := gr_loc m7 f7_28 rfl rfl
theorem r7_28n {E : Nat → Value} {d : Nat} {st : List Value} {h : gm_H} {r : gm_R × gm_H} {a1 a2 a3 a4 a5 : Value}  : gm_Go E d 7 28 [.null, a1, a2, a3, a4, a5] st h r ↔ gm_Go E d 7 29 [.null, a1, a2, a3, a4, a5] (.null :: st) h r := gr_loc m7 f7_28 rfl rfl
theorem f7_29 : gm_ft 7 29 = some (.aload_n 3, 1) := by decide +kernel
theorem r7_29 {E : Nat → Value} {d : Nat} {st : List Value} {h : gm_H} {r : gm_R × gm_H} {a0 a1 a2 a4 a5 : Value} {x : Nat} : gm_Go E d 7 29 [a0, a1, a2, .ref x, a4, a5] st h r ↔ gm_Go E d 7 30 [a0, a1, a2, .ref x, a4, a5] (.ref x :: st) h r := gr_loc m7 f7_29 rfl rfl
theorem r7_29n {E : Nat → Value} {d : Nat} {st : List Value} {h : gm_H} {r : gm_R × gm_H} {a0 a1 a2 a4 a5 : Value}  : gm_Go E d 7 29 [a0, a1, a2, .null, a4, a5] st h r ↔ gm_Go E d 7 30 [a0, a1, a2, .null, a4, a5] (.null :: st) h r := gr_loc m7 f7_29 rfl rfl
theorem f7_30 : gm_ft 7 30 = some (.putfield 25, 3) := by decide +kernel
theorem r7_30 {E : Nat → Value} {d : Nat} {st : List Value} {h : gm_H} {r : gm_R × gm_H} {lv : List Value} {a : Nat} {vs : List Value} {v : Value} (hr : gm_rd h a = some (3, vs)) (hk : 2 < vs.length) (hn : narrow (gm_ty 3 2) v = v ∧ fits (gm_ty 3 2) v = true) : gm_Go E d 7 30 lv (v :: .ref a :: st) h r ↔ gm_Go E d 7 33 lv st (gm_wr h a (3, vs.set 2 v)) r := gr_wr m7 f7_30 rfl rfl rfl rfl rfl (gf_put k3_25 hr (by decide) hk hn (by decide))
theorem f7_33 : gm_ft 7 33 = some (.aload_n 0, 1) := by decide +kernel
theorem r7_33 {E : Nat → Value} {d : Nat} {st : List Value} {h : gm_H} {r : gm_R × gm_H} {a1 a2 a3 a4 a5 : Value} {x : Nat} : gm_Go E d 7 33 [.ref x, a1, a2, a3, a4, a5] st h r ↔ gm_Go E d 7 34 [.ref x, a1, a2, a3, a4, a5] (.ref x :: st) h r := gr_loc m7 f7_33 rfl rfl
theorem r7_33n {E : Nat → Value} {d : Nat} {st : List Value} {h : gm_H} {r : gm_R × gm_H} {a1 a2 a3 a4 a5 : Value}  : gm_Go E d 7 33 [.null, a1, a2, a3, a4, a5] st h r ↔ gm_Go E d 7 34 [.null, a1, a2, a3, a4, a5] (.null :: st) h r := gr_loc m7 f7_33 rfl rfl
theorem f7_34 : gm_ft 7 34 = some (.lload 4, 2) := by decide +kernel
theorem r7_34 {E : Nat → Value} {d : Nat} {st : List Value} {h : gm_H} {r : gm_R × gm_H} {a0 a1 a2 a3 a5 : Value} {x : Int64} : gm_Go E d 7 34 [a0, a1, a2, a3, .long x, a5] st h r ↔ gm_Go E d 7 36 [a0, a1, a2, a3, .long x, a5] (.long x :: st) h r := gr_loc m7 f7_34 rfl rfl
theorem f7_36 : gm_ft 7 36 = some (.putfield 29, 3) := by decide +kernel
theorem r7_36 {E : Nat → Value} {d : Nat} {st : List Value} {h : gm_H} {r : gm_R × gm_H} {lv : List Value} {a : Nat} {vs : List Value} {v : Value} (hr : gm_rd h a = some (3, vs)) (hk : 3 < vs.length) (hn : narrow (gm_ty 3 3) v = v ∧ fits (gm_ty 3 3) v = true) : gm_Go E d 7 36 lv (v :: .ref a :: st) h r ↔ gm_Go E d 7 39 lv st (gm_wr h a (3, vs.set 3 v)) r := gr_wr m7 f7_36 rfl rfl rfl rfl rfl (gf_put k3_29 hr (by decide) hk hn (by decide))
theorem f7_39 : gm_ft 7 39 = some (.return_, 1) := by decide +kernel
theorem r7_39 {E : Nat → Value} {d : Nat} {h : gm_H} {r : gm_R × gm_H} {lv : List Value} : gm_Go E d 7 39 lv [] h r ↔ r = (.inl none, h) := gr_ret m7 f7_39 rfl rfl rfl rfl rfl rfl rfl rfl rfl
/-! GraphReader.field(III)I -/
theorem m8 : gm_mt[8]? = some (⟨"GraphReader", "field", "(III)I"⟩, prog_1_method_3_code, 5, (some .int), [], 0, 1) := rfl
theorem f8_0 : gm_ft 8 0 = some (.aload_n 0, 1) := by decide +kernel
theorem r8_0 {E : Nat → Value} {d : Nat} {st : List Value} {h : gm_H} {r : gm_R × gm_H} {a1 a2 a3 a4 : Value} {x : Nat} : gm_Go E d 8 0 [.ref x, a1, a2, a3, a4] st h r ↔ gm_Go E d 8 1 [.ref x, a1, a2, a3, a4] (.ref x :: st) h r := gr_loc m8 f8_0 rfl rfl
theorem r8_0n {E : Nat → Value} {d : Nat} {st : List Value} {h : gm_H} {r : gm_R × gm_H} {a1 a2 a3 a4 : Value}  : gm_Go E d 8 0 [.null, a1, a2, a3, a4] st h r ↔ gm_Go E d 8 1 [.null, a1, a2, a3, a4] (.null :: st) h r := gr_loc m8 f8_0 rfl rfl
theorem f8_1 : gm_ft 8 1 = some (.iload_n 1, 1) := by decide +kernel
theorem r8_1 {E : Nat → Value} {d : Nat} {st : List Value} {h : gm_H} {r : gm_R × gm_H} {a0 a2 a3 a4 : Value} {x : Int32} : gm_Go E d 8 1 [a0, .int x, a2, a3, a4] st h r ↔ gm_Go E d 8 2 [a0, .int x, a2, a3, a4] (.int x :: st) h r := gr_loc m8 f8_1 rfl rfl
theorem f8_2 : gm_ft 8 2 = some (.invokevirtual 64, 3) := by decide +kernel
theorem n8_2 {st : List Value} {h : gm_H} {E : Nat → Value} {lv : List Value} {b0 : Value} {a : Nat} (hs : (st.map fun v => v.category).sum ≤ 8) (he : (gm_en1 [.ref a, b0]).length ≤ 2) {vs : List Value} (hr : gm_rd h a = some (0, vs)) : gm_next E 8 2 lv (b0 :: .ref a :: st) h = some (.inr (.inl (0, 9, [.ref a, b0], st))) := gn_call m8 f8_2 rfl rfl rfl rfl rfl rfl rfl (gc_virt (bs := [b0]) (w := 153) rfl rfl rfl rfl hs he hr) (by decide)
theorem f8_5 : gm_ft 8 5 = some (.astore 4, 2) := by decide +kernel
theorem r8_5 {E : Nat → Value} {d : Nat} {st : List Value} {h : gm_H} {r : gm_R × gm_H} {a0 a1 a2 a3 a4 : Value} {x : Nat} : gm_Go E d 8 5 [a0, a1, a2, a3, a4] (.ref x :: st) h r ↔ gm_Go E d 8 7 [a0, a1, a2, gm_k a3, .ref x] st h r := gr_loc m8 f8_5 rfl rfl
theorem r8_5n {E : Nat → Value} {d : Nat} {st : List Value} {h : gm_H} {r : gm_R × gm_H} {a0 a1 a2 a3 a4 : Value}  : gm_Go E d 8 5 [a0, a1, a2, a3, a4] (.null :: st) h r ↔ gm_Go E d 8 7 [a0, a1, a2, gm_k a3, .null] st h r := gr_loc m8 f8_5 rfl rfl
theorem f8_7 : gm_ft 8 7 = some (.aload 4, 2) := by decide +kernel
theorem r8_7 {E : Nat → Value} {d : Nat} {st : List Value} {h : gm_H} {r : gm_R × gm_H} {a0 a1 a2 a3 : Value} {x : Nat} : gm_Go E d 8 7 [a0, a1, a2, a3, .ref x] st h r ↔ gm_Go E d 8 9 [a0, a1, a2, a3, .ref x] (.ref x :: st) h r := gr_loc m8 f8_7 rfl rfl
theorem r8_7n {E : Nat → Value} {d : Nat} {st : List Value} {h : gm_H} {r : gm_R × gm_H} {a0 a1 a2 a3 : Value}  : gm_Go E d 8 7 [a0, a1, a2, a3, .null] st h r ↔ gm_Go E d 8 9 [a0, a1, a2, a3, .null] (.null :: st) h r := gr_loc m8 f8_7 rfl rfl
theorem f8_9 : gm_ft 8 9 = some (.ifnull 29, 3) := by decide +kernel
theorem r8_9n {E : Nat → Value} {d : Nat} {st : List Value} {h : gm_H} {r : gm_R × gm_H} {lv : List Value} : gm_Go E d 8 9 lv (.null :: st) h r ↔ gm_Go E d 8 38 lv st h r := gr_brT m8 f8_9 rfl rfl rfl rfl
theorem r8_9 {E : Nat → Value} {d : Nat} {st : List Value} {h : gm_H} {r : gm_R × gm_H} {lv : List Value} {a : Nat} : gm_Go E d 8 9 lv (.ref a :: st) h r ↔ gm_Go E d 8 12 lv st h r := gr_brF m8 f8_9 rfl rfl rfl rfl
theorem f8_12 : gm_ft 8 12 = some (.aload 4, 2) := by decide +kernel
theorem r8_12 {E : Nat → Value} {d : Nat} {st : List Value} {h : gm_H} {r : gm_R × gm_H} {a0 a1 a2 a3 : Value} {x : Nat} : gm_Go E d 8 12 [a0, a1, a2, a3, .ref x] st h r ↔ gm_Go E d 8 14 [a0, a1, a2, a3, .ref x] (.ref x :: st) h r := gr_loc m8 f8_12 rfl rfl
theorem r8_12n {E : Nat → Value} {d : Nat} {st : List Value} {h : gm_H} {r : gm_R × gm_H} {a0 a1 a2 a3 : Value}  : gm_Go E d 8 12 [a0, a1, a2, a3, .null] st h r ↔ gm_Go E d 8 14 [a0, a1, a2, a3, .null] (.null :: st) h r := gr_loc m8 f8_12 rfl rfl
theorem f8_14 : gm_ft 8 14 = some (.getfield 54, 3) := by decide +kernel
theorem r8_14 {E : Nat → Value} {d : Nat} {st : List Value} {h : gm_H} {r : gm_R × gm_H} {lv : List Value} {a : Nat} {vs : List Value} {v : Value} (hr : gm_rd h a = some (3, vs)) (hv : vs[1]? = some v) : gm_Go E d 8 14 lv (.ref a :: st) h r ↔ gm_Go E d 8 17 lv (v :: st) h r := gr_rd m8 f8_14 rfl rfl rfl rfl (gf_get k0_54 hr hv)
theorem f8_17 : gm_ft 8 17 = some (.iconst 3, 1) := by decide +kernel
theorem r8_17 {E : Nat → Value} {d : Nat} {st : List Value} {h : gm_H} {r : gm_R × gm_H} {lv : List Value} : gm_Go E d 8 17 lv st h r ↔ gm_Go E d 8 18 lv (.int (3 : Int32) :: st) h r := gr_pure m8 f8_17 rfl
theorem f8_18 : gm_ft 8 18 = some (.if_icmp .eq 20, 3) := by decide +kernel
theorem r8_18 {E : Nat → Value} {d : Nat} {st : List Value} {h : gm_H} {r : gm_R × gm_H} {lv : List Value} {x y : Int32} : gm_Go E d 8 18 lv (.int y :: .int x :: st) h r ↔ (if x = y then gm_Go E d 8 38 lv st h r else gm_Go E d 8 21 lv st h r) := (gr_br m8 f8_18 rfl rfl rfl rfl).trans gr_if
theorem f8_21 : gm_ft 8 21 = some (.iload_n 2, 1) := by decide +kernel
theorem r8_21 {E : Nat → Value} {d : Nat} {st : List Value} {h : gm_H} {r : gm_R × gm_H} {a0 a1 a3 a4 : Value} {x : Int32} : gm_Go E d 8 21 [a0, a1, .int x, a3, a4] st h r ↔ gm_Go E d 8 22 [a0, a1, .int x, a3, a4] (.int x :: st) h r := gr_loc m8 f8_21 rfl rfl
theorem f8_22 : gm_ft 8 22 = some (.invokestatic 68, 3) := by decide +kernel
theorem n8_22 {st : List Value} {h : gm_H} {E : Nat → Value} {lv : List Value} {b0 : Value} (hs : (st.map fun v => v.category).sum ≤ 8) (he : (gm_en1 [b0]).length ≤ 1) : gm_next E 8 22 lv (b0 :: st) h = some (.inr (.inl (1, 10, [b0], st))) := gn_call m8 f8_22 rfl rfl rfl rfl rfl rfl rfl (gc_stat (bs := [b0]) (w := 157) rfl rfl rfl hs he) (by decide)
theorem f8_25 : gm_ft 8 25 = some (.ifCond .eq 13, 3) := by decide +kernel
theorem r8_25 {E : Nat → Value} {d : Nat} {st : List Value} {h : gm_H} {r : gm_R × gm_H} {lv : List Value} {x : Int32} : gm_Go E d 8 25 lv (.int x :: st) h r ↔ (if x = 0 then gm_Go E d 8 38 lv st h r else gm_Go E d 8 28 lv st h r) := (gr_br m8 f8_25 rfl rfl rfl rfl).trans gr_if
theorem f8_28 : gm_ft 8 28 = some (.iload_n 3, 1) := by decide +kernel
theorem r8_28 {E : Nat → Value} {d : Nat} {st : List Value} {h : gm_H} {r : gm_R × gm_H} {a0 a1 a2 a4 : Value} {x : Int32} : gm_Go E d 8 28 [a0, a1, a2, .int x, a4] st h r ↔ gm_Go E d 8 29 [a0, a1, a2, .int x, a4] (.int x :: st) h r := gr_loc m8 f8_28 rfl rfl
theorem f8_29 : gm_ft 8 29 = some (.ifCond .lt 9, 3) := by decide +kernel
theorem r8_29 {E : Nat → Value} {d : Nat} {st : List Value} {h : gm_H} {r : gm_R × gm_H} {lv : List Value} {x : Int32} : gm_Go E d 8 29 lv (.int x :: st) h r ↔ (if x < 0 then gm_Go E d 8 38 lv st h r else gm_Go E d 8 32 lv st h r) := (gr_br m8 f8_29 rfl rfl rfl rfl).trans gr_if
theorem f8_32 : gm_ft 8 32 = some (.iload_n 3, 1) := by decide +kernel
theorem r8_32 {E : Nat → Value} {d : Nat} {st : List Value} {h : gm_H} {r : gm_R × gm_H} {a0 a1 a2 a4 : Value} {x : Int32} : gm_Go E d 8 32 [a0, a1, a2, .int x, a4] st h r ↔ gm_Go E d 8 33 [a0, a1, a2, .int x, a4] (.int x :: st) h r := gr_loc m8 f8_32 rfl rfl
theorem f8_33 : gm_ft 8 33 = some (.bipush 7, 2) := by decide +kernel
theorem r8_33 {E : Nat → Value} {d : Nat} {st : List Value} {h : gm_H} {r : gm_R × gm_H} {lv : List Value} : gm_Go E d 8 33 lv st h r ↔ gm_Go E d 8 35 lv (.int (7 : Int32) :: st) h r := gr_pure m8 f8_33 rfl
theorem f8_35 : gm_ft 8 35 = some (.if_icmp .le 5, 3) := by decide +kernel
theorem r8_35 {E : Nat → Value} {d : Nat} {st : List Value} {h : gm_H} {r : gm_R × gm_H} {lv : List Value} {x y : Int32} : gm_Go E d 8 35 lv (.int y :: .int x :: st) h r ↔ (if x ≤ y then gm_Go E d 8 40 lv st h r else gm_Go E d 8 38 lv st h r) := (gr_br m8 f8_35 rfl rfl rfl rfl).trans gr_if
theorem f8_38 : gm_ft 8 38 = some (.iconst (-1), 1) := by decide +kernel
theorem r8_38 {E : Nat → Value} {d : Nat} {st : List Value} {h : gm_H} {r : gm_R × gm_H} {lv : List Value} : gm_Go E d 8 38 lv st h r ↔ gm_Go E d 8 39 lv (.int (-1 : Int32) :: st) h r := gr_pure m8 f8_38 rfl
theorem f8_39 : gm_ft 8 39 = some (.ireturn, 1) := by decide +kernel
theorem r8_39 {E : Nat → Value} {d : Nat} {h : gm_H} {r : gm_R × gm_H} {lv : List Value} {x : Int32} : gm_Go E d 8 39 lv [.int x] h r ↔ r = (.inl (some (.int x)), h) := gr_ret m8 f8_39 rfl rfl rfl rfl rfl rfl rfl rfl (by unfold gm_rt; dsimp only; rw [if_pos ⟨rfl, rfl⟩])
theorem f8_40 : gm_ft 8 40 = some (.aload_n 0, 1) := by decide +kernel
theorem r8_40 {E : Nat → Value} {d : Nat} {st : List Value} {h : gm_H} {r : gm_R × gm_H} {a1 a2 a3 a4 : Value} {x : Nat} : gm_Go E d 8 40 [.ref x, a1, a2, a3, a4] st h r ↔ gm_Go E d 8 41 [.ref x, a1, a2, a3, a4] (.ref x :: st) h r := gr_loc m8 f8_40 rfl rfl
theorem r8_40n {E : Nat → Value} {d : Nat} {st : List Value} {h : gm_H} {r : gm_R × gm_H} {a1 a2 a3 a4 : Value}  : gm_Go E d 8 40 [.null, a1, a2, a3, a4] st h r ↔ gm_Go E d 8 41 [.null, a1, a2, a3, a4] (.null :: st) h r := gr_loc m8 f8_40 rfl rfl
theorem f8_41 : gm_ft 8 41 = some (.getfield 72, 3) := by decide +kernel
theorem r8_41 {E : Nat → Value} {d : Nat} {st : List Value} {h : gm_H} {r : gm_R × gm_H} {lv : List Value} {a : Nat} {vs : List Value} {v : Value} (hr : gm_rd h a = some (0, vs)) (hv : vs[9]? = some v) : gm_Go E d 8 41 lv (.ref a :: st) h r ↔ gm_Go E d 8 44 lv (v :: st) h r := gr_rd m8 f8_41 rfl rfl rfl rfl (gf_get k0_72 hr hv)
theorem f8_44 : gm_ft 8 44 = some (.ifCond .ne 21, 3) := by decide +kernel
theorem r8_44 {E : Nat → Value} {d : Nat} {st : List Value} {h : gm_H} {r : gm_R × gm_H} {lv : List Value} {x : Int32} : gm_Go E d 8 44 lv (.int x :: st) h r ↔ (if x = 0 then gm_Go E d 8 47 lv st h r else gm_Go E d 8 65 lv st h r) := (gr_br m8 f8_44 rfl rfl rfl rfl).trans gr_ifn
theorem f8_47 : gm_ft 8 47 = some (.aload 4, 2) := by decide +kernel
theorem r8_47 {E : Nat → Value} {d : Nat} {st : List Value} {h : gm_H} {r : gm_R × gm_H} {a0 a1 a2 a3 : Value} {x : Nat} : gm_Go E d 8 47 [a0, a1, a2, a3, .ref x] st h r ↔ gm_Go E d 8 49 [a0, a1, a2, a3, .ref x] (.ref x :: st) h r := gr_loc m8 f8_47 rfl rfl
theorem r8_47n {E : Nat → Value} {d : Nat} {st : List Value} {h : gm_H} {r : gm_R × gm_H} {a0 a1 a2 a3 : Value}  : gm_Go E d 8 47 [a0, a1, a2, a3, .null] st h r ↔ gm_Go E d 8 49 [a0, a1, a2, a3, .null] (.null :: st) h r := gr_loc m8 f8_47 rfl rfl
theorem f8_49 : gm_ft 8 49 = some (.getfield 75, 3) := by decide +kernel
theorem r8_49 {E : Nat → Value} {d : Nat} {st : List Value} {h : gm_H} {r : gm_R × gm_H} {lv : List Value} {a : Nat} {vs : List Value} {v : Value} (hr : gm_rd h a = some (3, vs)) (hv : vs[6]? = some v) : gm_Go E d 8 49 lv (.ref a :: st) h r ↔ gm_Go E d 8 52 lv (v :: st) h r := gr_rd m8 f8_49 rfl rfl rfl rfl (gf_get k0_75 hr hv)
theorem f8_52 : gm_ft 8 52 = some (.iconst 4, 1) := by decide +kernel
theorem r8_52 {E : Nat → Value} {d : Nat} {st : List Value} {h : gm_H} {r : gm_R × gm_H} {lv : List Value} : gm_Go E d 8 52 lv st h r ↔ gm_Go E d 8 53 lv (.int (4 : Int32) :: st) h r := gr_pure m8 f8_52 rfl
theorem f8_53 : gm_ft 8 53 = some (.if_icmp .eq 12, 3) := by decide +kernel
theorem r8_53 {E : Nat → Value} {d : Nat} {st : List Value} {h : gm_H} {r : gm_R × gm_H} {lv : List Value} {x y : Int32} : gm_Go E d 8 53 lv (.int y :: .int x :: st) h r ↔ (if x = y then gm_Go E d 8 65 lv st h r else gm_Go E d 8 56 lv st h r) := (gr_br m8 f8_53 rfl rfl rfl rfl).trans gr_if
theorem f8_56 : gm_ft 8 56 = some (.aload 4, 2) := by decide +kernel
theorem r8_56 {E : Nat → Value} {d : Nat} {st : List Value} {h : gm_H} {r : gm_R × gm_H} {a0 a1 a2 a3 : Value} {x : Nat} : gm_Go E d 8 56 [a0, a1, a2, a3, .ref x] st h r ↔ gm_Go E d 8 58 [a0, a1, a2, a3, .ref x] (.ref x :: st) h r := gr_loc m8 f8_56 rfl rfl
theorem r8_56n {E : Nat → Value} {d : Nat} {st : List Value} {h : gm_H} {r : gm_R × gm_H} {a0 a1 a2 a3 : Value}  : gm_Go E d 8 56 [a0, a1, a2, a3, .null] st h r ↔ gm_Go E d 8 58 [a0, a1, a2, a3, .null] (.null :: st) h r := gr_loc m8 f8_56 rfl rfl
theorem f8_58 : gm_ft 8 58 = some (.iload_n 2, 1) := by decide +kernel
theorem r8_58 {E : Nat → Value} {d : Nat} {st : List Value} {h : gm_H} {r : gm_R × gm_H} {a0 a1 a3 a4 : Value} {x : Int32} : gm_Go E d 8 58 [a0, a1, .int x, a3, a4] st h r ↔ gm_Go E d 8 59 [a0, a1, .int x, a3, a4] (.int x :: st) h r := gr_loc m8 f8_58 rfl rfl
theorem f8_59 : gm_ft 8 59 = some (.invokevirtual 78, 3) := by decide +kernel
theorem n8_59 {st : List Value} {h : gm_H} {E : Nat → Value} {lv : List Value} {b0 : Value} {a : Nat} (hs : (st.map fun v => v.category).sum ≤ 8) (he : (gm_en1 [.ref a, b0]).length ≤ 3) {vs : List Value} (hr : gm_rd h a = some (3, vs)) : gm_next E 8 59 lv (b0 :: .ref a :: st) h = some (.inr (.inl (0, 11, [.ref a, b0], st))) := gn_call m8 f8_59 rfl rfl rfl rfl rfl rfl rfl (gc_virt (bs := [b0]) (w := 160) rfl rfl rfl rfl hs he hr) (by decide)
theorem f8_62 : gm_ft 8 62 = some (.ifCond .lt 5, 3) := by decide +kernel
theorem r8_62 {E : Nat → Value} {d : Nat} {st : List Value} {h : gm_H} {r : gm_R × gm_H} {lv : List Value} {x : Int32} : gm_Go E d 8 62 lv (.int x :: st) h r ↔ (if x < 0 then gm_Go E d 8 67 lv st h r else gm_Go E d 8 65 lv st h r) := (gr_br m8 f8_62 rfl rfl rfl rfl).trans gr_if
theorem f8_65 : gm_ft 8 65 = some (.iconst (-1), 1) := by decide +kernel
theorem r8_65 {E : Nat → Value} {d : Nat} {st : List Value} {h : gm_H} {r : gm_R × gm_H} {lv : List Value} : gm_Go E d 8 65 lv st h r ↔ gm_Go E d 8 66 lv (.int (-1 : Int32) :: st) h r := gr_pure m8 f8_65 rfl
theorem f8_66 : gm_ft 8 66 = some (.ireturn, 1) := by decide +kernel
theorem r8_66 {E : Nat → Value} {d : Nat} {h : gm_H} {r : gm_R × gm_H} {lv : List Value} {x : Int32} : gm_Go E d 8 66 lv [.int x] h r ↔ r = (.inl (some (.int x)), h) := gr_ret m8 f8_66 rfl rfl rfl rfl rfl rfl rfl rfl (by unfold gm_rt; dsimp only; rw [if_pos ⟨rfl, rfl⟩])
theorem f8_67 : gm_ft 8 67 = some (.aload 4, 2) := by decide +kernel
theorem r8_67 {E : Nat → Value} {d : Nat} {st : List Value} {h : gm_H} {r : gm_R × gm_H} {a0 a1 a2 a3 : Value} {x : Nat} : gm_Go E d 8 67 [a0, a1, a2, a3, .ref x] st h r ↔ gm_Go E d 8 69 [a0, a1, a2, a3, .ref x] (.ref x :: st) h r := gr_loc m8 f8_67 rfl rfl
theorem r8_67n {E : Nat → Value} {d : Nat} {st : List Value} {h : gm_H} {r : gm_R × gm_H} {a0 a1 a2 a3 : Value}  : gm_Go E d 8 67 [a0, a1, a2, a3, .null] st h r ↔ gm_Go E d 8 69 [a0, a1, a2, a3, .null] (.null :: st) h r := gr_loc m8 f8_67 rfl rfl
theorem f8_69 : gm_ft 8 69 = some (.iload_n 2, 1) := by decide +kernel
theorem r8_69 {E : Nat → Value} {d : Nat} {st : List Value} {h : gm_H} {r : gm_R × gm_H} {a0 a1 a3 a4 : Value} {x : Int32} : gm_Go E d 8 69 [a0, a1, .int x, a3, a4] st h r ↔ gm_Go E d 8 70 [a0, a1, .int x, a3, a4] (.int x :: st) h r := gr_loc m8 f8_69 rfl rfl
theorem f8_70 : gm_ft 8 70 = some (.iload_n 3, 1) := by decide +kernel
theorem r8_70 {E : Nat → Value} {d : Nat} {st : List Value} {h : gm_H} {r : gm_R × gm_H} {a0 a1 a2 a4 : Value} {x : Int32} : gm_Go E d 8 70 [a0, a1, a2, .int x, a4] st h r ↔ gm_Go E d 8 71 [a0, a1, a2, .int x, a4] (.int x :: st) h r := gr_loc m8 f8_70 rfl rfl
theorem f8_71 : gm_ft 8 71 = some (.invokevirtual 82, 3) := by decide +kernel
theorem n8_71 {st : List Value} {h : gm_H} {E : Nat → Value} {lv : List Value} {b0 b1 : Value} {a : Nat} (hs : (st.map fun v => v.category).sum ≤ 8) (he : (gm_en1 [.ref a, b0, b1]).length ≤ 3) {vs : List Value} (hr : gm_rd h a = some (3, vs)) : gm_next E 8 71 lv (b1 :: b0 :: .ref a :: st) h = some (.inr (.inl (0, 12, [.ref a, b0, b1], st))) := gn_call m8 f8_71 rfl rfl rfl rfl rfl rfl rfl (gc_virt (bs := [b1, b0]) (w := 164) rfl rfl rfl rfl hs he hr) (by decide)
theorem f8_74 : gm_ft 8 74 = some (.aload 4, 2) := by decide +kernel
theorem r8_74 {E : Nat → Value} {d : Nat} {st : List Value} {h : gm_H} {r : gm_R × gm_H} {a0 a1 a2 a3 : Value} {x : Nat} : gm_Go E d 8 74 [a0, a1, a2, a3, .ref x] st h r ↔ gm_Go E d 8 76 [a0, a1, a2, a3, .ref x] (.ref x :: st) h r := gr_loc m8 f8_74 rfl rfl
theorem r8_74n {E : Nat → Value} {d : Nat} {st : List Value} {h : gm_H} {r : gm_R × gm_H} {a0 a1 a2 a3 : Value}  : gm_Go E d 8 74 [a0, a1, a2, a3, .null] st h r ↔ gm_Go E d 8 76 [a0, a1, a2, a3, .null] (.null :: st) h r := gr_loc m8 f8_74 rfl rfl
theorem f8_76 : gm_ft 8 76 = some (.getfield 75, 3) := by decide +kernel
theorem r8_76 {E : Nat → Value} {d : Nat} {st : List Value} {h : gm_H} {r : gm_R × gm_H} {lv : List Value} {a : Nat} {vs : List Value} {v : Value} (hr : gm_rd h a = some (3, vs)) (hv : vs[6]? = some v) : gm_Go E d 8 76 lv (.ref a :: st) h r ↔ gm_Go E d 8 79 lv (v :: st) h r := gr_rd m8 f8_76 rfl rfl rfl rfl (gf_get k0_75 hr hv)
theorem f8_79 : gm_ft 8 79 = some (.ireturn, 1) := by decide +kernel
theorem r8_79 {E : Nat → Value} {d : Nat} {h : gm_H} {r : gm_R × gm_H} {lv : List Value} {x : Int32} : gm_Go E d 8 79 lv [.int x] h r ↔ r = (.inl (some (.int x)), h) := gr_ret m8 f8_79 rfl rfl rfl rfl rfl rfl rfl rfl (by unfold gm_rt; dsimp only; rw [if_pos ⟨rfl, rfl⟩])
/-! GraphReader.classNumbered(I)LGraphReader$LocalClass; -/
theorem m9 : gm_mt[9]? = some (⟨"GraphReader", "classNumbered", "(I)LGraphReader$LocalClass;"⟩, prog_1_method_14_code, 2, (some (.object "GraphReader$LocalClass")), [], 0, 1) := rfl
theorem f9_0 : gm_ft 9 0 = some (.iload_n 1, 1) := by decide +kernel
theorem r9_0 {E : Nat → Value} {d : Nat} {st : List Value} {h : gm_H} {r : gm_R × gm_H} {a0 : Value} {x : Int32} : gm_Go E d 9 0 [a0, .int x] st h r ↔ gm_Go E d 9 1 [a0, .int x] (.int x :: st) h r := gr_loc m9 f9_0 rfl rfl
theorem f9_1 : gm_ft 9 1 = some (.ifCond .lt 9, 3) := by decide +kernel
theorem r9_1 {E : Nat → Value} {d : Nat} {st : List Value} {h : gm_H} {r : gm_R × gm_H} {lv : List Value} {x : Int32} : gm_Go E d 9 1 lv (.int x :: st) h r ↔ (if x < 0 then gm_Go E d 9 10 lv st h r else gm_Go E d 9 4 lv st h r) := (gr_br m9 f9_1 rfl rfl rfl rfl).trans gr_if
theorem f9_4 : gm_ft 9 4 = some (.iload_n 1, 1) := by decide +kernel
theorem r9_4 {E : Nat → Value} {d : Nat} {st : List Value} {h : gm_H} {r : gm_R × gm_H} {a0 : Value} {x : Int32} : gm_Go E d 9 4 [a0, .int x] st h r ↔ gm_Go E d 9 5 [a0, .int x] (.int x :: st) h r := gr_loc m9 f9_4 rfl rfl
theorem f9_5 : gm_ft 9 5 = some (.bipush 6, 2) := by decide +kernel
theorem r9_5 {E : Nat → Value} {d : Nat} {st : List Value} {h : gm_H} {r : gm_R × gm_H} {lv : List Value} : gm_Go E d 9 5 lv st h r ↔ gm_Go E d 9 7 lv (.int (6 : Int32) :: st) h r := gr_pure m9 f9_5 rfl
theorem f9_7 : gm_ft 9 7 = some (.if_icmp .lt 7, 3) := by decide +kernel
theorem r9_7 {E : Nat → Value} {d : Nat} {st : List Value} {h : gm_H} {r : gm_R × gm_H} {lv : List Value} {x y : Int32} : gm_Go E d 9 7 lv (.int y :: .int x :: st) h r ↔ (if x < y then gm_Go E d 9 14 lv st h r else gm_Go E d 9 10 lv st h r) := (gr_br m9 f9_7 rfl rfl rfl rfl).trans gr_if
theorem f9_10 : gm_ft 9 10 = some (.aconst_null, 1) := by decide +kernel
theorem r9_10 {E : Nat → Value} {d : Nat} {st : List Value} {h : gm_H} {r : gm_R × gm_H} {lv : List Value} : gm_Go E d 9 10 lv st h r ↔ gm_Go E d 9 11 lv (.null :: st) h r := gr_pure m9 f9_10 rfl
theorem f9_11 : gm_ft 9 11 = some (.goto 9, 3) := by decide +kernel
theorem r9_11 {E : Nat → Value} {d : Nat} {st : List Value} {h : gm_H} {r : gm_R × gm_H} {lv : List Value} : gm_Go E d 9 11 lv st h r ↔ gm_Go E d 9 20 lv st h r := gr_brT m9 f9_11 rfl rfl rfl rfl
theorem f9_14 : gm_ft 9 14 = some (.aload_n 0, 1) := by decide +kernel
theorem r9_14 {E : Nat → Value} {d : Nat} {st : List Value} {h : gm_H} {r : gm_R × gm_H} {a1 : Value} {x : Nat} : gm_Go E d 9 14 [.ref x, a1] st h r ↔ gm_Go E d 9 15 [.ref x, a1] (.ref x :: st) h r := gr_loc m9 f9_14 rfl rfl
theorem r9_14n {E : Nat → Value} {d : Nat} {st : List Value} {h : gm_H} {r : gm_R × gm_H} {a1 : Value}  : gm_Go E d 9 14 [.null, a1] st h r ↔ gm_Go E d 9 15 [.null, a1] (.null :: st) h r := gr_loc m9 f9_14 rfl rfl
theorem f9_15 : gm_ft 9 15 = some (.getfield 11, 3) := by decide +kernel
theorem r9_15 {E : Nat → Value} {d : Nat} {st : List Value} {h : gm_H} {r : gm_R × gm_H} {lv : List Value} {a : Nat} {vs : List Value} {v : Value} (hr : gm_rd h a = some (0, vs)) (hv : vs[4]? = some v) : gm_Go E d 9 15 lv (.ref a :: st) h r ↔ gm_Go E d 9 18 lv (v :: st) h r := gr_rd m9 f9_15 rfl rfl rfl rfl (gf_get k0_11 hr hv)
theorem f9_18 : gm_ft 9 18 = some (.iload_n 1, 1) := by decide +kernel
theorem r9_18 {E : Nat → Value} {d : Nat} {st : List Value} {h : gm_H} {r : gm_R × gm_H} {a0 : Value} {x : Int32} : gm_Go E d 9 18 [a0, .int x] st h r ↔ gm_Go E d 9 19 [a0, .int x] (.int x :: st) h r := gr_loc m9 f9_18 rfl rfl
theorem f9_19 : gm_ft 9 19 = some (.aaload, 1) := by decide +kernel
theorem r9_19 {E : Nat → Value} {d : Nat} {st : List Value} {h : gm_H} {r : gm_R × gm_H} {lv : List Value} {a k j : Nat} {vs : List Value} {v : Value} (hr : gm_rd h a = some (k, vs)) (hk : 100 ≤ k ∧ (fun t => t == 10 || t == 11 || t == 12) (k % 100) = true) (hj : j < 2 ^ 31) (hv : vs[j]? = some v) : gm_Go E d 9 19 lv (.int (nI j) :: .ref a :: st) h r ↔ gm_Go E d 9 20 lv (v :: st) h r := gr_rd m9 f9_19 rfl rfl rfl rfl (ga_ld (P := fun t => t == 10 || t == 11 || t == 12) hr hk hj hv)
theorem f9_20 : gm_ft 9 20 = some (.areturn, 1) := by decide +kernel
theorem r9_20 {E : Nat → Value} {d : Nat} {h : gm_H} {r : gm_R × gm_H} {lv : List Value} {a : Nat} : gm_Go E d 9 20 lv [.ref a] h r ↔ r = (.inl (some (.ref a)), h) := gr_ret m9 f9_20 rfl rfl rfl rfl rfl rfl rfl rfl rfl
theorem r9_20n {E : Nat → Value} {d : Nat} {h : gm_H} {r : gm_R × gm_H} {lv : List Value} : gm_Go E d 9 20 lv [.null] h r ↔ r = (.inl (some .null), h) := gr_ret m9 f9_20 rfl rfl rfl rfl rfl rfl rfl rfl rfl
/-! GraphReader.isName(I)Z -/
theorem m10 : gm_mt[10]? = some (⟨"GraphReader", "isName", "(I)Z"⟩, prog_1_method_12_code, 1, (some .boolean), [], 0, 1) := rfl
theorem f10_0 : gm_ft 10 0 = some (.iload_n 0, 1) := by decide +kernel
theorem r10_0 {E : Nat → Value} {d : Nat} {st : List Value} {h : gm_H} {r : gm_R × gm_H}  {x : Int32} : gm_Go E d 10 0 [.int x] st h r ↔ gm_Go E d 10 1 [.int x] (.int x :: st) h r := gr_loc m10 f10_0 rfl rfl
theorem f10_1 : gm_ft 10 1 = some (.ifCond .lt 13, 3) := by decide +kernel
theorem r10_1 {E : Nat → Value} {d : Nat} {st : List Value} {h : gm_H} {r : gm_R × gm_H} {lv : List Value} {x : Int32} : gm_Go E d 10 1 lv (.int x :: st) h r ↔ (if x < 0 then gm_Go E d 10 14 lv st h r else gm_Go E d 10 4 lv st h r) := (gr_br m10 f10_1 rfl rfl rfl rfl).trans gr_if
theorem f10_4 : gm_ft 10 4 = some (.iload_n 0, 1) := by decide +kernel
theorem r10_4 {E : Nat → Value} {d : Nat} {st : List Value} {h : gm_H} {r : gm_R × gm_H}  {x : Int32} : gm_Go E d 10 4 [.int x] st h r ↔ gm_Go E d 10 5 [.int x] (.int x :: st) h r := gr_loc m10 f10_4 rfl rfl
theorem f10_5 : gm_ft 10 5 = some (.bipush 26, 2) := by decide +kernel
theorem r10_5 {E : Nat → Value} {d : Nat} {st : List Value} {h : gm_H} {r : gm_R × gm_H} {lv : List Value} : gm_Go E d 10 5 lv st h r ↔ gm_Go E d 10 7 lv (.int (26 : Int32) :: st) h r := gr_pure m10 f10_5 rfl
theorem f10_7 : gm_ft 10 7 = some (.if_icmp .ge 7, 3) := by decide +kernel
theorem r10_7 {E : Nat → Value} {d : Nat} {st : List Value} {h : gm_H} {r : gm_R × gm_H} {lv : List Value} {x y : Int32} : gm_Go E d 10 7 lv (.int y :: .int x :: st) h r ↔ (if y ≤ x then gm_Go E d 10 14 lv st h r else gm_Go E d 10 10 lv st h r) := (gr_br m10 f10_7 rfl rfl rfl rfl).trans gr_if
theorem f10_10 : gm_ft 10 10 = some (.iconst 1, 1) := by decide +kernel
theorem r10_10 {E : Nat → Value} {d : Nat} {st : List Value} {h : gm_H} {r : gm_R × gm_H} {lv : List Value} : gm_Go E d 10 10 lv st h r ↔ gm_Go E d 10 11 lv (.int (1 : Int32) :: st) h r := gr_pure m10 f10_10 rfl
theorem f10_11 : gm_ft 10 11 = some (.goto 4, 3) := by decide +kernel
theorem r10_11 {E : Nat → Value} {d : Nat} {st : List Value} {h : gm_H} {r : gm_R × gm_H} {lv : List Value} : gm_Go E d 10 11 lv st h r ↔ gm_Go E d 10 15 lv st h r := gr_brT m10 f10_11 rfl rfl rfl rfl
theorem f10_14 : gm_ft 10 14 = some (.iconst 0, 1) := by decide +kernel
theorem r10_14 {E : Nat → Value} {d : Nat} {st : List Value} {h : gm_H} {r : gm_R × gm_H} {lv : List Value} : gm_Go E d 10 14 lv st h r ↔ gm_Go E d 10 15 lv (.int (0 : Int32) :: st) h r := gr_pure m10 f10_14 rfl
theorem f10_15 : gm_ft 10 15 = some (.ireturn, 1) := by decide +kernel
theorem r10_15_0 {E : Nat → Value} {d : Nat} {h : gm_H} {r : gm_R × gm_H} {lv : List Value} : gm_Go E d 10 15 lv [.int (0 : Int32)] h r ↔ r = (.inl (some (.int (0 : Int32))), h) := gr_ret m10 f10_15 rfl rfl rfl rfl rfl rfl rfl rfl (by unfold gm_rt; dsimp only; rw [if_pos ⟨rfl, rfl⟩])
theorem r10_15_1 {E : Nat → Value} {d : Nat} {h : gm_H} {r : gm_R × gm_H} {lv : List Value} : gm_Go E d 10 15 lv [.int (1 : Int32)] h r ↔ r = (.inl (some (.int (1 : Int32))), h) := gr_ret m10 f10_15 rfl rfl rfl rfl rfl rfl rfl rfl (by unfold gm_rt; dsimp only; rw [if_pos ⟨rfl, rfl⟩])
/-! GraphReader$LocalClass.indexOf(I)I -/
theorem m11 : gm_mt[11]? = some (⟨"GraphReader$LocalClass", "indexOf", "(I)I"⟩, prog_4_method_2_code, 3, (some .int), [], 3, 1) := rfl
theorem f11_0 : gm_ft 11 0 = some (.iconst 0, 1) := by decide +kernel
theorem r11_0 {E : Nat → Value} {d : Nat} {st : List Value} {h : gm_H} {r : gm_R × gm_H} {lv : List Value} : gm_Go E d 11 0 lv st h r ↔ gm_Go E d 11 1 lv (.int (0 : Int32) :: st) h r := gr_pure m11 f11_0 rfl
theorem f11_1 : gm_ft 11 1 = some (.istore_n 2, 1) := by decide +kernel
theorem r11_1 {E : Nat → Value} {d : Nat} {st : List Value} {h : gm_H} {r : gm_R × gm_H} {a0 a1 a2 : Value} {x : Int32} : gm_Go E d 11 1 [a0, a1, a2] (.int x :: st) h r ↔ gm_Go E d 11 2 [a0, gm_k a1, .int x] st h r := gr_loc m11 f11_1 rfl rfl
theorem f11_2 : gm_ft 11 2 = some (.iload_n 2, 1) := by decide +kernel
theorem r11_2 {E : Nat → Value} {d : Nat} {st : List Value} {h : gm_H} {r : gm_R × gm_H} {a0 a1 : Value} {x : Int32} : gm_Go E d 11 2 [a0, a1, .int x] st h r ↔ gm_Go E d 11 3 [a0, a1, .int x] (.int x :: st) h r := gr_loc m11 f11_2 rfl rfl
theorem f11_3 : gm_ft 11 3 = some (.aload_n 0, 1) := by decide +kernel
theorem r11_3 {E : Nat → Value} {d : Nat} {st : List Value} {h : gm_H} {r : gm_R × gm_H} {a1 a2 : Value} {x : Nat} : gm_Go E d 11 3 [.ref x, a1, a2] st h r ↔ gm_Go E d 11 4 [.ref x, a1, a2] (.ref x :: st) h r := gr_loc m11 f11_3 rfl rfl
theorem r11_3n {E : Nat → Value} {d : Nat} {st : List Value} {h : gm_H} {r : gm_R × gm_H} {a1 a2 : Value}  : gm_Go E d 11 3 [.null, a1, a2] st h r ↔ gm_Go E d 11 4 [.null, a1, a2] (.null :: st) h r := gr_loc m11 f11_3 rfl rfl
theorem f11_4 : gm_ft 11 4 = some (.getfield 33, 3) := by decide +kernel
theorem r11_4 {E : Nat → Value} {d : Nat} {st : List Value} {h : gm_H} {r : gm_R × gm_H} {lv : List Value} {a : Nat} {vs : List Value} {v : Value} (hr : gm_rd h a = some (3, vs)) (hv : vs[6]? = some v) : gm_Go E d 11 4 lv (.ref a :: st) h r ↔ gm_Go E d 11 7 lv (v :: st) h r := gr_rd m11 f11_4 rfl rfl rfl rfl (gf_get k3_33 hr hv)
theorem f11_7 : gm_ft 11 7 = some (.if_icmp .ge 21, 3) := by decide +kernel
theorem r11_7 {E : Nat → Value} {d : Nat} {st : List Value} {h : gm_H} {r : gm_R × gm_H} {lv : List Value} {x y : Int32} : gm_Go E d 11 7 lv (.int y :: .int x :: st) h r ↔ (if y ≤ x then gm_Go E d 11 28 lv st h r else gm_Go E d 11 10 lv st h r) := (gr_br m11 f11_7 rfl rfl rfl rfl).trans gr_if
theorem f11_10 : gm_ft 11 10 = some (.aload_n 0, 1) := by decide +kernel
theorem r11_10 {E : Nat → Value} {d : Nat} {st : List Value} {h : gm_H} {r : gm_R × gm_H} {a1 a2 : Value} {x : Nat} : gm_Go E d 11 10 [.ref x, a1, a2] st h r ↔ gm_Go E d 11 11 [.ref x, a1, a2] (.ref x :: st) h r := gr_loc m11 f11_10 rfl rfl
theorem r11_10n {E : Nat → Value} {d : Nat} {st : List Value} {h : gm_H} {r : gm_R × gm_H} {a1 a2 : Value}  : gm_Go E d 11 10 [.null, a1, a2] st h r ↔ gm_Go E d 11 11 [.null, a1, a2] (.null :: st) h r := gr_loc m11 f11_10 rfl rfl
theorem f11_11 : gm_ft 11 11 = some (.getfield 9, 3) := by decide +kernel
theorem r11_11 {E : Nat → Value} {d : Nat} {st : List Value} {h : gm_H} {r : gm_R × gm_H} {lv : List Value} {a : Nat} {vs : List Value} {v : Value} (hr : gm_rd h a = some (3, vs)) (hv : vs[4]? = some v) : gm_Go E d 11 11 lv (.ref a :: st) h r ↔ gm_Go E d 11 14 lv (v :: st) h r := gr_rd m11 f11_11 rfl rfl rfl rfl (gf_get k3_9 hr hv)
theorem f11_14 : gm_ft 11 14 = some (.iload_n 2, 1) := by decide +kernel
theorem r11_14 {E : Nat → Value} {d : Nat} {st : List Value} {h : gm_H} {r : gm_R × gm_H} {a0 a1 : Value} {x : Int32} : gm_Go E d 11 14 [a0, a1, .int x] st h r ↔ gm_Go E d 11 15 [a0, a1, .int x] (.int x :: st) h r := gr_loc m11 f11_14 rfl rfl
theorem f11_15 : gm_ft 11 15 = some (.iaload, 1) := by decide +kernel
theorem r11_15 {E : Nat → Value} {d : Nat} {st : List Value} {h : gm_H} {r : gm_R × gm_H} {lv : List Value} {a k j : Nat} {vs : List Value} {v : Value} (hr : gm_rd h a = some (k, vs)) (hk : 100 ≤ k ∧ (fun t => t == 0) (k % 100) = true) (hj : j < 2 ^ 31) (hv : vs[j]? = some v) : gm_Go E d 11 15 lv (.int (nI j) :: .ref a :: st) h r ↔ gm_Go E d 11 16 lv (v :: st) h r := gr_rd m11 f11_15 rfl rfl rfl rfl (ga_ld (P := fun t => t == 0) hr hk hj hv)
theorem f11_16 : gm_ft 11 16 = some (.iload_n 1, 1) := by decide +kernel
theorem r11_16 {E : Nat → Value} {d : Nat} {st : List Value} {h : gm_H} {r : gm_R × gm_H} {a0 a2 : Value} {x : Int32} : gm_Go E d 11 16 [a0, .int x, a2] st h r ↔ gm_Go E d 11 17 [a0, .int x, a2] (.int x :: st) h r := gr_loc m11 f11_16 rfl rfl
theorem f11_17 : gm_ft 11 17 = some (.if_icmp .ne 5, 3) := by decide +kernel
theorem r11_17 {E : Nat → Value} {d : Nat} {st : List Value} {h : gm_H} {r : gm_R × gm_H} {lv : List Value} {x y : Int32} : gm_Go E d 11 17 lv (.int y :: .int x :: st) h r ↔ (if x = y then gm_Go E d 11 20 lv st h r else gm_Go E d 11 22 lv st h r) := (gr_br m11 f11_17 rfl rfl rfl rfl).trans gr_ifn
theorem f11_20 : gm_ft 11 20 = some (.iload_n 2, 1) := by decide +kernel
theorem r11_20 {E : Nat → Value} {d : Nat} {st : List Value} {h : gm_H} {r : gm_R × gm_H} {a0 a1 : Value} {x : Int32} : gm_Go E d 11 20 [a0, a1, .int x] st h r ↔ gm_Go E d 11 21 [a0, a1, .int x] (.int x :: st) h r := gr_loc m11 f11_20 rfl rfl
theorem f11_21 : gm_ft 11 21 = some (.ireturn, 1) := by decide +kernel
theorem r11_21 {E : Nat → Value} {d : Nat} {h : gm_H} {r : gm_R × gm_H} {lv : List Value} {x : Int32} : gm_Go E d 11 21 lv [.int x] h r ↔ r = (.inl (some (.int x)), h) := gr_ret m11 f11_21 rfl rfl rfl rfl rfl rfl rfl rfl (by unfold gm_rt; dsimp only; rw [if_pos ⟨rfl, rfl⟩])
theorem f11_22 : gm_ft 11 22 = some (.iinc 2 1, 3) := by decide +kernel
theorem r11_22 {E : Nat → Value} {d : Nat} {st : List Value} {h : gm_H} {r : gm_R × gm_H} {a0 a1 : Value} {x : Int32} : gm_Go E d 11 22 [a0, a1, .int x] st h r ↔ gm_Go E d 11 25 [a0, gm_k a1, .int (x + (1 : Int32))] st h r := gr_loc m11 f11_22 rfl rfl
theorem f11_25 : gm_ft 11 25 = some (.goto (-23), 3) := by decide +kernel
theorem r11_25 {E : Nat → Value} {d : Nat} {st : List Value} {h : gm_H} {r : gm_R × gm_H} {lv : List Value} : gm_Go E d 11 25 lv st h r ↔ gm_Go E d 11 2 lv st h r := gr_brT m11 f11_25 rfl rfl rfl rfl
theorem f11_28 : gm_ft 11 28 = some (.iconst (-1), 1) := by decide +kernel
theorem r11_28 {E : Nat → Value} {d : Nat} {st : List Value} {h : gm_H} {r : gm_R × gm_H} {lv : List Value} : gm_Go E d 11 28 lv st h r ↔ gm_Go E d 11 29 lv (.int (-1 : Int32) :: st) h r := gr_pure m11 f11_28 rfl
theorem f11_29 : gm_ft 11 29 = some (.ireturn, 1) := by decide +kernel
theorem r11_29 {E : Nat → Value} {d : Nat} {h : gm_H} {r : gm_R × gm_H} {lv : List Value} {x : Int32} : gm_Go E d 11 29 lv [.int x] h r ↔ r = (.inl (some (.int x)), h) := gr_ret m11 f11_29 rfl rfl rfl rfl rfl rfl rfl rfl (by unfold gm_rt; dsimp only; rw [if_pos ⟨rfl, rfl⟩])
/-! GraphReader$LocalClass.addField(II)V -/
theorem m12 : gm_mt[12]? = some (⟨"GraphReader$LocalClass", "addField", "(II)V"⟩, prog_4_method_3_code, 3, none, [], 3, 1) := rfl
theorem f12_0 : gm_ft 12 0 = some (.aload_n 0, 1) := by decide +kernel
theorem r12_0 {E : Nat → Value} {d : Nat} {st : List Value} {h : gm_H} {r : gm_R × gm_H} {a1 a2 : Value} {x : Nat} : gm_Go E d 12 0 [.ref x, a1, a2] st h r ↔ gm_Go E d 12 1 [.ref x, a1, a2] (.ref x :: st) h r := gr_loc m12 f12_0 rfl rfl
theorem r12_0n {E : Nat → Value} {d : Nat} {st : List Value} {h : gm_H} {r : gm_R × gm_H} {a1 a2 : Value}  : gm_Go E d 12 0 [.null, a1, a2] st h r ↔ gm_Go E d 12 1 [.null, a1, a2] (.null :: st) h r := gr_loc m12 f12_0 rfl rfl
theorem f12_1 : gm_ft 12 1 = some (.getfield 33, 3) := by decide +kernel
theorem r12_1 {E : Nat → Value} {d : Nat} {st : List Value} {h : gm_H} {r : gm_R × gm_H} {lv : List Value} {a : Nat} {vs : List Value} {v : Value} (hr : gm_rd h a = some (3, vs)) (hv : vs[6]? = some v) : gm_Go E d 12 1 lv (.ref a :: st) h r ↔ gm_Go E d 12 4 lv (v :: st) h r := gr_rd m12 f12_1 rfl rfl rfl rfl (gf_get k3_33 hr hv)
theorem f12_4 : gm_ft 12 4 = some (.iconst 4, 1) := by decide +kernel
theorem r12_4 {E : Nat → Value} {d : Nat} {st : List Value} {h : gm_H} {r : gm_R × gm_H} {lv : List Value} : gm_Go E d 12 4 lv st h r ↔ gm_Go E d 12 5 lv (.int (4 : Int32) :: st) h r := gr_pure m12 f12_4 rfl
theorem f12_5 : gm_ft 12 5 = some (.if_icmp .ge 33, 3) := by decide +kernel
theorem r12_5 {E : Nat → Value} {d : Nat} {st : List Value} {h : gm_H} {r : gm_R × gm_H} {lv : List Value} {x y : Int32} : gm_Go E d 12 5 lv (.int y :: .int x :: st) h r ↔ (if y ≤ x then gm_Go E d 12 38 lv st h r else gm_Go E d 12 8 lv st h r) := (gr_br m12 f12_5 rfl rfl rfl rfl).trans gr_if
theorem f12_8 : gm_ft 12 8 = some (.aload_n 0, 1) := by decide +kernel
theorem r12_8 {E : Nat → Value} {d : Nat} {st : List Value} {h : gm_H} {r : gm_R × gm_H} {a1 a2 : Value} {x : Nat} : gm_Go E d 12 8 [.ref x, a1, a2] st h r ↔ gm_Go E d 12 9 [.ref x, a1, a2] (.ref x :: st) h r := gr_loc m12 f12_8 rfl rfl
theorem r12_8n {E : Nat → Value} {d : Nat} {st : List Value} {h : gm_H} {r : gm_R × gm_H} {a1 a2 : Value}  : gm_Go E d 12 8 [.null, a1, a2] st h r ↔ gm_Go E d 12 9 [.null, a1, a2] (.null :: st) h r := gr_loc m12 f12_8 rfl rfl
theorem f12_9 : gm_ft 12 9 = some (.getfield 9, 3) := by decide +kernel
theorem r12_9 {E : Nat → Value} {d : Nat} {st : List Value} {h : gm_H} {r : gm_R × gm_H} {lv : List Value} {a : Nat} {vs : List Value} {v : Value} (hr : gm_rd h a = some (3, vs)) (hv : vs[4]? = some v) : gm_Go E d 12 9 lv (.ref a :: st) h r ↔ gm_Go E d 12 12 lv (v :: st) h r := gr_rd m12 f12_9 rfl rfl rfl rfl (gf_get k3_9 hr hv)
theorem f12_12 : gm_ft 12 12 = some (.aload_n 0, 1) := by decide +kernel
theorem r12_12 {E : Nat → Value} {d : Nat} {st : List Value} {h : gm_H} {r : gm_R × gm_H} {a1 a2 : Value} {x : Nat} : gm_Go E d 12 12 [.ref x, a1, a2] st h r ↔ gm_Go E d 12 13 [.ref x, a1, a2] (.ref x :: st) h r := gr_loc m12 f12_12 rfl rfl
theorem r12_12n {E : Nat → Value} {d : Nat} {st : List Value} {h : gm_H} {r : gm_R × gm_H} {a1 a2 : Value}  : gm_Go E d 12 12 [.null, a1, a2] st h r ↔ gm_Go E d 12 13 [.null, a1, a2] (.null :: st) h r := gr_loc m12 f12_12 rfl rfl
theorem f12_13 : gm_ft 12 13 = some (.getfield 33, 3) := by decide +kernel
theorem r12_13 {E : Nat → Value} {d : Nat} {st : List Value} {h : gm_H} {r : gm_R × gm_H} {lv : List Value} {a : Nat} {vs : List Value} {v : Value} (hr : gm_rd h a = some (3, vs)) (hv : vs[6]? = some v) : gm_Go E d 12 13 lv (.ref a :: st) h r ↔ gm_Go E d 12 16 lv (v :: st) h r := gr_rd m12 f12_13 rfl rfl rfl rfl (gf_get k3_33 hr hv)
theorem f12_16 : gm_ft 12 16 = some (.iload_n 1, 1) := by decide +kernel
theorem r12_16 {E : Nat → Value} {d : Nat} {st : List Value} {h : gm_H} {r : gm_R × gm_H} {a0 a2 : Value} {x : Int32} : gm_Go E d 12 16 [a0, .int x, a2] st h r ↔ gm_Go E d 12 17 [a0, .int x, a2] (.int x :: st) h r := gr_loc m12 f12_16 rfl rfl
theorem f12_17 : gm_ft 12 17 = some (.iastore, 1) := by decide +kernel
theorem r12_17 {E : Nat → Value} {d : Nat} {st : List Value} {h : gm_H} {r : gm_R × gm_H} {lv : List Value} {a k j : Nat} {vs : List Value} {x : Int32} (hr : gm_rd h a = some (k, vs)) (hk : 100 ≤ k ∧ k % 100 = 0 ∧ gm_ko k = 1 ∧ 1 < 3) (hj : j < 2 ^ 31) (hl : j < vs.length) : gm_Go E d 12 17 lv (.int x :: .int (nI j) :: .ref a :: st) h r ↔ gm_Go E d 12 18 lv st (gm_wr h a (k, vs.set j (.int x))) r := gr_wr m12 f12_17 rfl rfl rfl rfl rfl (ga_st hr hk hj hl)
theorem f12_18 : gm_ft 12 18 = some (.aload_n 0, 1) := by decide +kernel
theorem r12_18 {E : Nat → Value} {d : Nat} {st : List Value} {h : gm_H} {r : gm_R × gm_H} {a1 a2 : Value} {x : Nat} : gm_Go E d 12 18 [.ref x, a1, a2] st h r ↔ gm_Go E d 12 19 [.ref x, a1, a2] (.ref x :: st) h r := gr_loc m12 f12_18 rfl rfl
theorem r12_18n {E : Nat → Value} {d : Nat} {st : List Value} {h : gm_H} {r : gm_R × gm_H} {a1 a2 : Value}  : gm_Go E d 12 18 [.null, a1, a2] st h r ↔ gm_Go E d 12 19 [.null, a1, a2] (.null :: st) h r := gr_loc m12 f12_18 rfl rfl
theorem f12_19 : gm_ft 12 19 = some (.getfield 15, 3) := by decide +kernel
theorem r12_19 {E : Nat → Value} {d : Nat} {st : List Value} {h : gm_H} {r : gm_R × gm_H} {lv : List Value} {a : Nat} {vs : List Value} {v : Value} (hr : gm_rd h a = some (3, vs)) (hv : vs[5]? = some v) : gm_Go E d 12 19 lv (.ref a :: st) h r ↔ gm_Go E d 12 22 lv (v :: st) h r := gr_rd m12 f12_19 rfl rfl rfl rfl (gf_get k3_15 hr hv)
theorem f12_22 : gm_ft 12 22 = some (.aload_n 0, 1) := by decide +kernel
theorem r12_22 {E : Nat → Value} {d : Nat} {st : List Value} {h : gm_H} {r : gm_R × gm_H} {a1 a2 : Value} {x : Nat} : gm_Go E d 12 22 [.ref x, a1, a2] st h r ↔ gm_Go E d 12 23 [.ref x, a1, a2] (.ref x :: st) h r := gr_loc m12 f12_22 rfl rfl
theorem r12_22n {E : Nat → Value} {d : Nat} {st : List Value} {h : gm_H} {r : gm_R × gm_H} {a1 a2 : Value}  : gm_Go E d 12 22 [.null, a1, a2] st h r ↔ gm_Go E d 12 23 [.null, a1, a2] (.null :: st) h r := gr_loc m12 f12_22 rfl rfl
theorem f12_23 : gm_ft 12 23 = some (.getfield 33, 3) := by decide +kernel
theorem r12_23 {E : Nat → Value} {d : Nat} {st : List Value} {h : gm_H} {r : gm_R × gm_H} {lv : List Value} {a : Nat} {vs : List Value} {v : Value} (hr : gm_rd h a = some (3, vs)) (hv : vs[6]? = some v) : gm_Go E d 12 23 lv (.ref a :: st) h r ↔ gm_Go E d 12 26 lv (v :: st) h r := gr_rd m12 f12_23 rfl rfl rfl rfl (gf_get k3_33 hr hv)
theorem f12_26 : gm_ft 12 26 = some (.iload_n 2, 1) := by decide +kernel
theorem r12_26 {E : Nat → Value} {d : Nat} {st : List Value} {h : gm_H} {r : gm_R × gm_H} {a0 a1 : Value} {x : Int32} : gm_Go E d 12 26 [a0, a1, .int x] st h r ↔ gm_Go E d 12 27 [a0, a1, .int x] (.int x :: st) h r := gr_loc m12 f12_26 rfl rfl
theorem f12_27 : gm_ft 12 27 = some (.iastore, 1) := by decide +kernel
theorem r12_27 {E : Nat → Value} {d : Nat} {st : List Value} {h : gm_H} {r : gm_R × gm_H} {lv : List Value} {a k j : Nat} {vs : List Value} {x : Int32} (hr : gm_rd h a = some (k, vs)) (hk : 100 ≤ k ∧ k % 100 = 0 ∧ gm_ko k = 1 ∧ 1 < 3) (hj : j < 2 ^ 31) (hl : j < vs.length) : gm_Go E d 12 27 lv (.int x :: .int (nI j) :: .ref a :: st) h r ↔ gm_Go E d 12 28 lv st (gm_wr h a (k, vs.set j (.int x))) r := gr_wr m12 f12_27 rfl rfl rfl rfl rfl (ga_st hr hk hj hl)
theorem f12_28 : gm_ft 12 28 = some (.aload_n 0, 1) := by decide +kernel
theorem r12_28 {E : Nat → Value} {d : Nat} {st : List Value} {h : gm_H} {r : gm_R × gm_H} {a1 a2 : Value} {x : Nat} : gm_Go E d 12 28 [.ref x, a1, a2] st h r ↔ gm_Go E d 12 29 [.ref x, a1, a2] (.ref x :: st) h r := gr_loc m12 f12_28 rfl rfl
theorem r12_28n {E : Nat → Value} {d : Nat} {st : List Value} {h : gm_H} {r : gm_R × gm_H} {a1 a2 : Value}  : gm_Go E d 12 28 [.null, a1, a2] st h r ↔ gm_Go E d 12 29 [.null, a1, a2] (.null :: st) h r := gr_loc m12 f12_28 rfl rfl
theorem f12_29 : gm_ft 12 29 = some (.dup, 1) := by decide +kernel
theorem r12_29 {E : Nat → Value} {d : Nat} {st : List Value} {h : gm_H} {r : gm_R × gm_H} {lv : List Value} {a : Nat} : gm_Go E d 12 29 lv (.ref a :: st) h r ↔ gm_Go E d 12 30 lv (.ref a :: .ref a :: st) h r := gr_pure m12 f12_29 rfl
theorem r12_29i {E : Nat → Value} {d : Nat} {st : List Value} {h : gm_H} {r : gm_R × gm_H} {lv : List Value} {x : Int32} : gm_Go E d 12 29 lv (.int x :: st) h r ↔ gm_Go E d 12 30 lv (.int x :: .int x :: st) h r := gr_pure m12 f12_29 rfl
theorem f12_30 : gm_ft 12 30 = some (.getfield 33, 3) := by decide +kernel
theorem r12_30 {E : Nat → Value} {d : Nat} {st : List Value} {h : gm_H} {r : gm_R × gm_H} {lv : List Value} {a : Nat} {vs : List Value} {v : Value} (hr : gm_rd h a = some (3, vs)) (hv : vs[6]? = some v) : gm_Go E d 12 30 lv (.ref a :: st) h r ↔ gm_Go E d 12 33 lv (v :: st) h r := gr_rd m12 f12_30 rfl rfl rfl rfl (gf_get k3_33 hr hv)
theorem f12_33 : gm_ft 12 33 = some (.iconst 1, 1) := by decide +kernel
theorem r12_33 {E : Nat → Value} {d : Nat} {st : List Value} {h : gm_H} {r : gm_R × gm_H} {lv : List Value} : gm_Go E d 12 33 lv st h r ↔ gm_Go E d 12 34 lv (.int (1 : Int32) :: st) h r := gr_pure m12 f12_33 rfl
theorem f12_34 : gm_ft 12 34 = some (.iadd, 1) := by decide +kernel
theorem r12_34 {E : Nat → Value} {d : Nat} {st : List Value} {h : gm_H} {r : gm_R × gm_H} {lv : List Value} {x y : Int32} : gm_Go E d 12 34 lv (.int y :: .int x :: st) h r ↔ gm_Go E d 12 35 lv (.int (x + y) :: st) h r := gr_pure m12 f12_34 rfl
theorem f12_35 : gm_ft 12 35 = some (.putfield 33, 3) := by decide +kernel
theorem r12_35 {E : Nat → Value} {d : Nat} {st : List Value} {h : gm_H} {r : gm_R × gm_H} {lv : List Value} {a : Nat} {vs : List Value} {v : Value} (hr : gm_rd h a = some (3, vs)) (hk : 6 < vs.length) (hn : narrow (gm_ty 3 6) v = v ∧ fits (gm_ty 3 6) v = true) : gm_Go E d 12 35 lv (v :: .ref a :: st) h r ↔ gm_Go E d 12 38 lv st (gm_wr h a (3, vs.set 6 v)) r := gr_wr m12 f12_35 rfl rfl rfl rfl rfl (gf_put k3_33 hr (by decide) hk hn (by decide))
theorem f12_38 : gm_ft 12 38 = some (.return_, 1) := by decide +kernel
theorem r12_38 {E : Nat → Value} {d : Nat} {h : gm_H} {r : gm_R × gm_H} {lv : List Value} : gm_Go E d 12 38 lv [] h r ↔ r = (.inl none, h) := gr_ret m12 f12_38 rfl rfl rfl rfl rfl rfl rfl rfl rfl
/-! GraphReader.constant(IIZ)I -/
theorem m13 : gm_mt[13]? = some (⟨"GraphReader", "constant", "(IIZ)I"⟩, prog_1_method_4_code, 5, (some .int), [], 0, 1) := rfl
theorem f13_0 : gm_ft 13 0 = some (.aload_n 0, 1) := by decide +kernel
theorem r13_0 {E : Nat → Value} {d : Nat} {st : List Value} {h : gm_H} {r : gm_R × gm_H} {a1 a2 a3 a4 : Value} {x : Nat} : gm_Go E d 13 0 [.ref x, a1, a2, a3, a4] st h r ↔ gm_Go E d 13 1 [.ref x, a1, a2, a3, a4] (.ref x :: st) h r := gr_loc m13 f13_0 rfl rfl
theorem r13_0n {E : Nat → Value} {d : Nat} {st : List Value} {h : gm_H} {r : gm_R × gm_H} {a1 a2 a3 a4 : Value}  : gm_Go E d 13 0 [.null, a1, a2, a3, a4] st h r ↔ gm_Go E d 13 1 [.null, a1, a2, a3, a4] (.null :: st) h r := gr_loc m13 f13_0 rfl rfl
theorem f13_1 : gm_ft 13 1 = some (.iload_n 1, 1) := by decide +kernel
theorem r13_1 {E : Nat → Value} {d : Nat} {st : List Value} {h : gm_H} {r : gm_R × gm_H} {a0 a2 a3 a4 : Value} {x : Int32} : gm_Go E d 13 1 [a0, .int x, a2, a3, a4] st h r ↔ gm_Go E d 13 2 [a0, .int x, a2, a3, a4] (.int x :: st) h r := gr_loc m13 f13_1 rfl rfl
theorem f13_2 : gm_ft 13 2 = some (.invokevirtual 64, 3) := by decide +kernel
theorem n13_2 {st : List Value} {h : gm_H} {E : Nat → Value} {lv : List Value} {b0 : Value} {a : Nat} (hs : (st.map fun v => v.category).sum ≤ 8) (he : (gm_en1 [.ref a, b0]).length ≤ 2) {vs : List Value} (hr : gm_rd h a = some (0, vs)) : gm_next E 13 2 lv (b0 :: .ref a :: st) h = some (.inr (.inl (0, 9, [.ref a, b0], st))) := gn_call m13 f13_2 rfl rfl rfl rfl rfl rfl rfl (gc_virt (bs := [b0]) (w := 153) rfl rfl rfl rfl hs he hr) (by decide)
theorem f13_5 : gm_ft 13 5 = some (.astore 4, 2) := by decide +kernel
theorem r13_5 {E : Nat → Value} {d : Nat} {st : List Value} {h : gm_H} {r : gm_R × gm_H} {a0 a1 a2 a3 a4 : Value} {x : Nat} : gm_Go E d 13 5 [a0, a1, a2, a3, a4] (.ref x :: st) h r ↔ gm_Go E d 13 7 [a0, a1, a2, gm_k a3, .ref x] st h r := gr_loc m13 f13_5 rfl rfl
theorem r13_5n {E : Nat → Value} {d : Nat} {st : List Value} {h : gm_H} {r : gm_R × gm_H} {a0 a1 a2 a3 a4 : Value}  : gm_Go E d 13 5 [a0, a1, a2, a3, a4] (.null :: st) h r ↔ gm_Go E d 13 7 [a0, a1, a2, gm_k a3, .null] st h r := gr_loc m13 f13_5 rfl rfl
theorem f13_7 : gm_ft 13 7 = some (.aload 4, 2) := by decide +kernel
theorem r13_7 {E : Nat → Value} {d : Nat} {st : List Value} {h : gm_H} {r : gm_R × gm_H} {a0 a1 a2 a3 : Value} {x : Nat} : gm_Go E d 13 7 [a0, a1, a2, a3, .ref x] st h r ↔ gm_Go E d 13 9 [a0, a1, a2, a3, .ref x] (.ref x :: st) h r := gr_loc m13 f13_7 rfl rfl
theorem r13_7n {E : Nat → Value} {d : Nat} {st : List Value} {h : gm_H} {r : gm_R × gm_H} {a0 a1 a2 a3 : Value}  : gm_Go E d 13 7 [a0, a1, a2, a3, .null] st h r ↔ gm_Go E d 13 9 [a0, a1, a2, a3, .null] (.null :: st) h r := gr_loc m13 f13_7 rfl rfl
theorem f13_9 : gm_ft 13 9 = some (.ifnonnull 5, 3) := by decide +kernel
theorem r13_9n {E : Nat → Value} {d : Nat} {st : List Value} {h : gm_H} {r : gm_R × gm_H} {lv : List Value} : gm_Go E d 13 9 lv (.null :: st) h r ↔ gm_Go E d 13 12 lv st h r := gr_brF m13 f13_9 rfl rfl rfl rfl
theorem r13_9 {E : Nat → Value} {d : Nat} {st : List Value} {h : gm_H} {r : gm_R × gm_H} {lv : List Value} {a : Nat} : gm_Go E d 13 9 lv (.ref a :: st) h r ↔ gm_Go E d 13 14 lv st h r := gr_brT m13 f13_9 rfl rfl rfl rfl
theorem f13_12 : gm_ft 13 12 = some (.iconst (-1), 1) := by decide +kernel
theorem r13_12 {E : Nat → Value} {d : Nat} {st : List Value} {h : gm_H} {r : gm_R × gm_H} {lv : List Value} : gm_Go E d 13 12 lv st h r ↔ gm_Go E d 13 13 lv (.int (-1 : Int32) :: st) h r := gr_pure m13 f13_12 rfl
theorem f13_13 : gm_ft 13 13 = some (.ireturn, 1) := by decide +kernel
theorem r13_13 {E : Nat → Value} {d : Nat} {h : gm_H} {r : gm_R × gm_H} {lv : List Value} {x : Int32} : gm_Go E d 13 13 lv [.int x] h r ↔ r = (.inl (some (.int x)), h) := gr_ret m13 f13_13 rfl rfl rfl rfl rfl rfl rfl rfl (by unfold gm_rt; dsimp only; rw [if_pos ⟨rfl, rfl⟩])
theorem f13_14 : gm_ft 13 14 = some (.aload 4, 2) := by decide +kernel
theorem r13_14 {E : Nat → Value} {d : Nat} {st : List Value} {h : gm_H} {r : gm_R × gm_H} {a0 a1 a2 a3 : Value} {x : Nat} : gm_Go E d 13 14 [a0, a1, a2, a3, .ref x] st h r ↔ gm_Go E d 13 16 [a0, a1, a2, a3, .ref x] (.ref x :: st) h r := gr_loc m13 f13_14 rfl rfl
theorem r13_14n {E : Nat → Value} {d : Nat} {st : List Value} {h : gm_H} {r : gm_R × gm_H} {a0 a1 a2 a3 : Value}  : gm_Go E d 13 14 [a0, a1, a2, a3, .null] st h r ↔ gm_Go E d 13 16 [a0, a1, a2, a3, .null] (.null :: st) h r := gr_loc m13 f13_14 rfl rfl
theorem f13_16 : gm_ft 13 16 = some (.getfield 54, 3) := by decide +kernel
theorem r13_16 {E : Nat → Value} {d : Nat} {st : List Value} {h : gm_H} {r : gm_R × gm_H} {lv : List Value} {a : Nat} {vs : List Value} {v : Value} (hr : gm_rd h a = some (3, vs)) (hv : vs[1]? = some v) : gm_Go E d 13 16 lv (.ref a :: st) h r ↔ gm_Go E d 13 19 lv (v :: st) h r := gr_rd m13 f13_16 rfl rfl rfl rfl (gf_get k0_54 hr hv)
theorem f13_19 : gm_ft 13 19 = some (.iconst 3, 1) := by decide +kernel
theorem r13_19 {E : Nat → Value} {d : Nat} {st : List Value} {h : gm_H} {r : gm_R × gm_H} {lv : List Value} : gm_Go E d 13 19 lv st h r ↔ gm_Go E d 13 20 lv (.int (3 : Int32) :: st) h r := gr_pure m13 f13_19 rfl
theorem f13_20 : gm_ft 13 20 = some (.if_icmp .eq 11, 3) := by decide +kernel
theorem r13_20 {E : Nat → Value} {d : Nat} {st : List Value} {h : gm_H} {r : gm_R × gm_H} {lv : List Value} {x y : Int32} : gm_Go E d 13 20 lv (.int y :: .int x :: st) h r ↔ (if x = y then gm_Go E d 13 31 lv st h r else gm_Go E d 13 23 lv st h r) := (gr_br m13 f13_20 rfl rfl rfl rfl).trans gr_if
theorem f13_23 : gm_ft 13 23 = some (.aload 4, 2) := by decide +kernel
theorem r13_23 {E : Nat → Value} {d : Nat} {st : List Value} {h : gm_H} {r : gm_R × gm_H} {a0 a1 a2 a3 : Value} {x : Nat} : gm_Go E d 13 23 [a0, a1, a2, a3, .ref x] st h r ↔ gm_Go E d 13 25 [a0, a1, a2, a3, .ref x] (.ref x :: st) h r := gr_loc m13 f13_23 rfl rfl
theorem r13_23n {E : Nat → Value} {d : Nat} {st : List Value} {h : gm_H} {r : gm_R × gm_H} {a0 a1 a2 a3 : Value}  : gm_Go E d 13 23 [a0, a1, a2, a3, .null] st h r ↔ gm_Go E d 13 25 [a0, a1, a2, a3, .null] (.null :: st) h r := gr_loc m13 f13_23 rfl rfl
theorem f13_25 : gm_ft 13 25 = some (.iload_n 3, 1) := by decide +kernel
theorem r13_25 {E : Nat → Value} {d : Nat} {st : List Value} {h : gm_H} {r : gm_R × gm_H} {a0 a1 a2 a4 : Value} {x : Int32} : gm_Go E d 13 25 [a0, a1, a2, .int x, a4] st h r ↔ gm_Go E d 13 26 [a0, a1, a2, .int x, a4] (.int x :: st) h r := gr_loc m13 f13_25 rfl rfl
theorem f13_26 : gm_ft 13 26 = some (.putfield 86, 3) := by decide +kernel
theorem r13_26 {E : Nat → Value} {d : Nat} {st : List Value} {h : gm_H} {r : gm_R × gm_H} {lv : List Value} {a : Nat} {vs : List Value} {v : Value} (hr : gm_rd h a = some (3, vs)) (hk : 7 < vs.length) (hn : narrow (gm_ty 3 7) v = v ∧ fits (gm_ty 3 7) v = true) : gm_Go E d 13 26 lv (v :: .ref a :: st) h r ↔ gm_Go E d 13 29 lv st (gm_wr h a (3, vs.set 7 v)) r := gr_wr m13 f13_26 rfl rfl rfl rfl rfl (gf_put k0_86 hr (by decide) hk hn (by decide))
theorem f13_29 : gm_ft 13 29 = some (.iconst 0, 1) := by decide +kernel
theorem r13_29 {E : Nat → Value} {d : Nat} {st : List Value} {h : gm_H} {r : gm_R × gm_H} {lv : List Value} : gm_Go E d 13 29 lv st h r ↔ gm_Go E d 13 30 lv (.int (0 : Int32) :: st) h r := gr_pure m13 f13_29 rfl
theorem f13_30 : gm_ft 13 30 = some (.ireturn, 1) := by decide +kernel
theorem r13_30 {E : Nat → Value} {d : Nat} {h : gm_H} {r : gm_R × gm_H} {lv : List Value} {x : Int32} : gm_Go E d 13 30 lv [.int x] h r ↔ r = (.inl (some (.int x)), h) := gr_ret m13 f13_30 rfl rfl rfl rfl rfl rfl rfl rfl (by unfold gm_rt; dsimp only; rw [if_pos ⟨rfl, rfl⟩])
theorem f13_31 : gm_ft 13 31 = some (.iload_n 2, 1) := by decide +kernel
theorem r13_31 {E : Nat → Value} {d : Nat} {st : List Value} {h : gm_H} {r : gm_R × gm_H} {a0 a1 a3 a4 : Value} {x : Int32} : gm_Go E d 13 31 [a0, a1, .int x, a3, a4] st h r ↔ gm_Go E d 13 32 [a0, a1, .int x, a3, a4] (.int x :: st) h r := gr_loc m13 f13_31 rfl rfl
theorem f13_32 : gm_ft 13 32 = some (.invokestatic 68, 3) := by decide +kernel
theorem n13_32 {st : List Value} {h : gm_H} {E : Nat → Value} {lv : List Value} {b0 : Value} (hs : (st.map fun v => v.category).sum ≤ 8) (he : (gm_en1 [b0]).length ≤ 1) : gm_next E 13 32 lv (b0 :: st) h = some (.inr (.inl (1, 10, [b0], st))) := gn_call m13 f13_32 rfl rfl rfl rfl rfl rfl rfl (gc_stat (bs := [b0]) (w := 157) rfl rfl rfl hs he) (by decide)
theorem f13_35 : gm_ft 13 35 = some (.ifCond .ne 5, 3) := by decide +kernel
theorem r13_35 {E : Nat → Value} {d : Nat} {st : List Value} {h : gm_H} {r : gm_R × gm_H} {lv : List Value} {x : Int32} : gm_Go E d 13 35 lv (.int x :: st) h r ↔ (if x = 0 then gm_Go E d 13 38 lv st h r else gm_Go E d 13 40 lv st h r) := (gr_br m13 f13_35 rfl rfl rfl rfl).trans gr_ifn
theorem f13_38 : gm_ft 13 38 = some (.iconst (-1), 1) := by decide +kernel
theorem r13_38 {E : Nat → Value} {d : Nat} {st : List Value} {h : gm_H} {r : gm_R × gm_H} {lv : List Value} : gm_Go E d 13 38 lv st h r ↔ gm_Go E d 13 39 lv (.int (-1 : Int32) :: st) h r := gr_pure m13 f13_38 rfl
theorem f13_39 : gm_ft 13 39 = some (.ireturn, 1) := by decide +kernel
theorem r13_39 {E : Nat → Value} {d : Nat} {h : gm_H} {r : gm_R × gm_H} {lv : List Value} {x : Int32} : gm_Go E d 13 39 lv [.int x] h r ↔ r = (.inl (some (.int x)), h) := gr_ret m13 f13_39 rfl rfl rfl rfl rfl rfl rfl rfl (by unfold gm_rt; dsimp only; rw [if_pos ⟨rfl, rfl⟩])
theorem f13_40 : gm_ft 13 40 = some (.aload 4, 2) := by decide +kernel
theorem r13_40 {E : Nat → Value} {d : Nat} {st : List Value} {h : gm_H} {r : gm_R × gm_H} {a0 a1 a2 a3 : Value} {x : Nat} : gm_Go E d 13 40 [a0, a1, a2, a3, .ref x] st h r ↔ gm_Go E d 13 42 [a0, a1, a2, a3, .ref x] (.ref x :: st) h r := gr_loc m13 f13_40 rfl rfl
theorem r13_40n {E : Nat → Value} {d : Nat} {st : List Value} {h : gm_H} {r : gm_R × gm_H} {a0 a1 a2 a3 : Value}  : gm_Go E d 13 40 [a0, a1, a2, a3, .null] st h r ↔ gm_Go E d 13 42 [a0, a1, a2, a3, .null] (.null :: st) h r := gr_loc m13 f13_40 rfl rfl
theorem f13_42 : gm_ft 13 42 = some (.dup, 1) := by decide +kernel
theorem r13_42 {E : Nat → Value} {d : Nat} {st : List Value} {h : gm_H} {r : gm_R × gm_H} {lv : List Value} {a : Nat} : gm_Go E d 13 42 lv (.ref a :: st) h r ↔ gm_Go E d 13 43 lv (.ref a :: .ref a :: st) h r := gr_pure m13 f13_42 rfl
theorem r13_42i {E : Nat → Value} {d : Nat} {st : List Value} {h : gm_H} {r : gm_R × gm_H} {lv : List Value} {x : Int32} : gm_Go E d 13 42 lv (.int x :: st) h r ↔ gm_Go E d 13 43 lv (.int x :: .int x :: st) h r := gr_pure m13 f13_42 rfl
theorem f13_43 : gm_ft 13 43 = some (.getfield 90, 3) := by decide +kernel
theorem r13_43 {E : Nat → Value} {d : Nat} {st : List Value} {h : gm_H} {r : gm_R × gm_H} {lv : List Value} {a : Nat} {vs : List Value} {v : Value} (hr : gm_rd h a = some (3, vs)) (hv : vs[8]? = some v) : gm_Go E d 13 43 lv (.ref a :: st) h r ↔ gm_Go E d 13 46 lv (v :: st) h r := gr_rd m13 f13_43 rfl rfl rfl rfl (gf_get k0_90 hr hv)
theorem f13_46 : gm_ft 13 46 = some (.iconst 1, 1) := by decide +kernel
theorem r13_46 {E : Nat → Value} {d : Nat} {st : List Value} {h : gm_H} {r : gm_R × gm_H} {lv : List Value} : gm_Go E d 13 46 lv st h r ↔ gm_Go E d 13 47 lv (.int (1 : Int32) :: st) h r := gr_pure m13 f13_46 rfl
theorem f13_47 : gm_ft 13 47 = some (.iload_n 2, 1) := by decide +kernel
theorem r13_47 {E : Nat → Value} {d : Nat} {st : List Value} {h : gm_H} {r : gm_R × gm_H} {a0 a1 a3 a4 : Value} {x : Int32} : gm_Go E d 13 47 [a0, a1, .int x, a3, a4] st h r ↔ gm_Go E d 13 48 [a0, a1, .int x, a3, a4] (.int x :: st) h r := gr_loc m13 f13_47 rfl rfl
theorem f13_48 : gm_ft 13 48 = some (.ishl, 1) := by decide +kernel
theorem r13_48 {E : Nat → Value} {d : Nat} {st : List Value} {h : gm_H} {r : gm_R × gm_H} {lv : List Value} {x y : Int32} : gm_Go E d 13 48 lv (.int y :: .int x :: st) h r ↔ gm_Go E d 13 49 lv (.int (x <<< (y &&& 31)) :: st) h r := gr_pure m13 f13_48 rfl
theorem f13_49 : gm_ft 13 49 = some (.ior, 1) := by decide +kernel
theorem r13_49 {E : Nat → Value} {d : Nat} {st : List Value} {h : gm_H} {r : gm_R × gm_H} {lv : List Value} {x y : Int32} : gm_Go E d 13 49 lv (.int y :: .int x :: st) h r ↔ gm_Go E d 13 50 lv (.int (x ||| y) :: st) h r := gr_pure m13 f13_49 rfl
theorem f13_50 : gm_ft 13 50 = some (.putfield 90, 3) := by decide +kernel
theorem r13_50 {E : Nat → Value} {d : Nat} {st : List Value} {h : gm_H} {r : gm_R × gm_H} {lv : List Value} {a : Nat} {vs : List Value} {v : Value} (hr : gm_rd h a = some (3, vs)) (hk : 8 < vs.length) (hn : narrow (gm_ty 3 8) v = v ∧ fits (gm_ty 3 8) v = true) : gm_Go E d 13 50 lv (v :: .ref a :: st) h r ↔ gm_Go E d 13 53 lv st (gm_wr h a (3, vs.set 8 v)) r := gr_wr m13 f13_50 rfl rfl rfl rfl rfl (gf_put k0_90 hr (by decide) hk hn (by decide))
theorem f13_53 : gm_ft 13 53 = some (.iconst 0, 1) := by decide +kernel
theorem r13_53 {E : Nat → Value} {d : Nat} {st : List Value} {h : gm_H} {r : gm_R × gm_H} {lv : List Value} : gm_Go E d 13 53 lv st h r ↔ gm_Go E d 13 54 lv (.int (0 : Int32) :: st) h r := gr_pure m13 f13_53 rfl
theorem f13_54 : gm_ft 13 54 = some (.ireturn, 1) := by decide +kernel
theorem r13_54 {E : Nat → Value} {d : Nat} {h : gm_H} {r : gm_R × gm_H} {lv : List Value} {x : Int32} : gm_Go E d 13 54 lv [.int x] h r ↔ r = (.inl (some (.int x)), h) := gr_ret m13 f13_54 rfl rfl rfl rfl rfl rfl rfl rfl (by unfold gm_rt; dsimp only; rw [if_pos ⟨rfl, rfl⟩])
/-! GraphReader.put(JI)I -/
theorem m14 : gm_mt[14]? = some (⟨"GraphReader", "put", "(JI)I"⟩, prog_1_method_5_code, 5, (some .int), [], 0, 1) := rfl
theorem f14_0 : gm_ft 14 0 = some (.iload_n 3, 1) := by decide +kernel
theorem r14_0 {E : Nat → Value} {d : Nat} {st : List Value} {h : gm_H} {r : gm_R × gm_H} {a0 a1 a2 a4 : Value} {x : Int32} : gm_Go E d 14 0 [a0, a1, a2, .int x, a4] st h r ↔ gm_Go E d 14 1 [a0, a1, a2, .int x, a4] (.int x :: st) h r := gr_loc m14 f14_0 rfl rfl
theorem f14_1 : gm_ft 14 1 = some (.iconst 1, 1) := by decide +kernel
theorem r14_1 {E : Nat → Value} {d : Nat} {st : List Value} {h : gm_H} {r : gm_R × gm_H} {lv : List Value} : gm_Go E d 14 1 lv st h r ↔ gm_Go E d 14 2 lv (.int (1 : Int32) :: st) h r := gr_pure m14 f14_1 rfl
theorem f14_2 : gm_ft 14 2 = some (.if_icmp .lt 21, 3) := by decide +kernel
theorem r14_2 {E : Nat → Value} {d : Nat} {st : List Value} {h : gm_H} {r : gm_R × gm_H} {lv : List Value} {x y : Int32} : gm_Go E d 14 2 lv (.int y :: .int x :: st) h r ↔ (if x < y then gm_Go E d 14 23 lv st h r else gm_Go E d 14 5 lv st h r) := (gr_br m14 f14_2 rfl rfl rfl rfl).trans gr_if
theorem f14_5 : gm_ft 14 5 = some (.iload_n 3, 1) := by decide +kernel
theorem r14_5 {E : Nat → Value} {d : Nat} {st : List Value} {h : gm_H} {r : gm_R × gm_H} {a0 a1 a2 a4 : Value} {x : Int32} : gm_Go E d 14 5 [a0, a1, a2, .int x, a4] st h r ↔ gm_Go E d 14 6 [a0, a1, a2, .int x, a4] (.int x :: st) h r := gr_loc m14 f14_5 rfl rfl
theorem f14_6 : gm_ft 14 6 = some (.bipush 8, 2) := by decide +kernel
theorem r14_6 {E : Nat → Value} {d : Nat} {st : List Value} {h : gm_H} {r : gm_R × gm_H} {lv : List Value} : gm_Go E d 14 6 lv st h r ↔ gm_Go E d 14 8 lv (.int (8 : Int32) :: st) h r := gr_pure m14 f14_6 rfl
theorem f14_8 : gm_ft 14 8 = some (.if_icmp .gt 15, 3) := by decide +kernel
theorem r14_8 {E : Nat → Value} {d : Nat} {st : List Value} {h : gm_H} {r : gm_R × gm_H} {lv : List Value} {x y : Int32} : gm_Go E d 14 8 lv (.int y :: .int x :: st) h r ↔ (if y < x then gm_Go E d 14 23 lv st h r else gm_Go E d 14 11 lv st h r) := (gr_br m14 f14_8 rfl rfl rfl rfl).trans gr_if
theorem f14_11 : gm_ft 14 11 = some (.aload_n 0, 1) := by decide +kernel
theorem r14_11 {E : Nat → Value} {d : Nat} {st : List Value} {h : gm_H} {r : gm_R × gm_H} {a1 a2 a3 a4 : Value} {x : Nat} : gm_Go E d 14 11 [.ref x, a1, a2, a3, a4] st h r ↔ gm_Go E d 14 12 [.ref x, a1, a2, a3, a4] (.ref x :: st) h r := gr_loc m14 f14_11 rfl rfl
theorem r14_11n {E : Nat → Value} {d : Nat} {st : List Value} {h : gm_H} {r : gm_R × gm_H} {a1 a2 a3 a4 : Value}  : gm_Go E d 14 11 [.null, a1, a2, a3, a4] st h r ↔ gm_Go E d 14 12 [.null, a1, a2, a3, a4] (.null :: st) h r := gr_loc m14 f14_11 rfl rfl
theorem f14_12 : gm_ft 14 12 = some (.getfield 93, 3) := by decide +kernel
theorem r14_12 {E : Nat → Value} {d : Nat} {st : List Value} {h : gm_H} {r : gm_R × gm_H} {lv : List Value} {a : Nat} {vs : List Value} {v : Value} (hr : gm_rd h a = some (0, vs)) (hv : vs[6]? = some v) : gm_Go E d 14 12 lv (.ref a :: st) h r ↔ gm_Go E d 14 15 lv (v :: st) h r := gr_rd m14 f14_12 rfl rfl rfl rfl (gf_get k0_93 hr hv)
theorem f14_15 : gm_ft 14 15 = some (.iload_n 3, 1) := by decide +kernel
theorem r14_15 {E : Nat → Value} {d : Nat} {st : List Value} {h : gm_H} {r : gm_R × gm_H} {a0 a1 a2 a4 : Value} {x : Int32} : gm_Go E d 14 15 [a0, a1, a2, .int x, a4] st h r ↔ gm_Go E d 14 16 [a0, a1, a2, .int x, a4] (.int x :: st) h r := gr_loc m14 f14_15 rfl rfl
theorem f14_16 : gm_ft 14 16 = some (.iadd, 1) := by decide +kernel
theorem r14_16 {E : Nat → Value} {d : Nat} {st : List Value} {h : gm_H} {r : gm_R × gm_H} {lv : List Value} {x y : Int32} : gm_Go E d 14 16 lv (.int y :: .int x :: st) h r ↔ gm_Go E d 14 17 lv (.int (x + y) :: st) h r := gr_pure m14 f14_16 rfl
theorem f14_17 : gm_ft 14 17 = some (.sipush 700, 3) := by decide +kernel
theorem r14_17 {E : Nat → Value} {d : Nat} {st : List Value} {h : gm_H} {r : gm_R × gm_H} {lv : List Value} : gm_Go E d 14 17 lv st h r ↔ gm_Go E d 14 20 lv (.int (700 : Int32) :: st) h r := gr_pure m14 f14_17 rfl
theorem f14_20 : gm_ft 14 20 = some (.if_icmp .le 5, 3) := by decide +kernel
theorem r14_20 {E : Nat → Value} {d : Nat} {st : List Value} {h : gm_H} {r : gm_R × gm_H} {lv : List Value} {x y : Int32} : gm_Go E d 14 20 lv (.int y :: .int x :: st) h r ↔ (if x ≤ y then gm_Go E d 14 25 lv st h r else gm_Go E d 14 23 lv st h r) := (gr_br m14 f14_20 rfl rfl rfl rfl).trans gr_if
theorem f14_23 : gm_ft 14 23 = some (.iconst (-1), 1) := by decide +kernel
theorem r14_23 {E : Nat → Value} {d : Nat} {st : List Value} {h : gm_H} {r : gm_R × gm_H} {lv : List Value} : gm_Go E d 14 23 lv st h r ↔ gm_Go E d 14 24 lv (.int (-1 : Int32) :: st) h r := gr_pure m14 f14_23 rfl
theorem f14_24 : gm_ft 14 24 = some (.ireturn, 1) := by decide +kernel
theorem r14_24 {E : Nat → Value} {d : Nat} {h : gm_H} {r : gm_R × gm_H} {lv : List Value} {x : Int32} : gm_Go E d 14 24 lv [.int x] h r ↔ r = (.inl (some (.int x)), h) := gr_ret m14 f14_24 rfl rfl rfl rfl rfl rfl rfl rfl (by unfold gm_rt; dsimp only; rw [if_pos ⟨rfl, rfl⟩])
theorem f14_25 : gm_ft 14 25 = some (.iload_n 3, 1) := by decide +kernel
theorem r14_25 {E : Nat → Value} {d : Nat} {st : List Value} {h : gm_H} {r : gm_R × gm_H} {a0 a1 a2 a4 : Value} {x : Int32} : gm_Go E d 14 25 [a0, a1, a2, .int x, a4] st h r ↔ gm_Go E d 14 26 [a0, a1, a2, .int x, a4] (.int x :: st) h r := gr_loc m14 f14_25 rfl rfl
theorem f14_26 : gm_ft 14 26 = some (.iconst 1, 1) := by decide +kernel
theorem r14_26 {E : Nat → Value} {d : Nat} {st : List Value} {h : gm_H} {r : gm_R × gm_H} {lv : List Value} : gm_Go E d 14 26 lv st h r ↔ gm_Go E d 14 27 lv (.int (1 : Int32) :: st) h r := gr_pure m14 f14_26 rfl
theorem f14_27 : gm_ft 14 27 = some (.isub, 1) := by decide +kernel
theorem r14_27 {E : Nat → Value} {d : Nat} {st : List Value} {h : gm_H} {r : gm_R × gm_H} {lv : List Value} {x y : Int32} : gm_Go E d 14 27 lv (.int y :: .int x :: st) h r ↔ gm_Go E d 14 28 lv (.int (x - y) :: st) h r := gr_pure m14 f14_27 rfl
theorem f14_28 : gm_ft 14 28 = some (.istore 4, 2) := by decide +kernel
theorem r14_28 {E : Nat → Value} {d : Nat} {st : List Value} {h : gm_H} {r : gm_R × gm_H} {a0 a1 a2 a3 a4 : Value} {x : Int32} : gm_Go E d 14 28 [a0, a1, a2, a3, a4] (.int x :: st) h r ↔ gm_Go E d 14 30 [a0, a1, a2, gm_k a3, .int x] st h r := gr_loc m14 f14_28 rfl rfl
theorem f14_30 : gm_ft 14 30 = some (.iload 4, 2) := by decide +kernel
theorem r14_30 {E : Nat → Value} {d : Nat} {st : List Value} {h : gm_H} {r : gm_R × gm_H} {a0 a1 a2 a3 : Value} {x : Int32} : gm_Go E d 14 30 [a0, a1, a2, a3, .int x] st h r ↔ gm_Go E d 14 32 [a0, a1, a2, a3, .int x] (.int x :: st) h r := gr_loc m14 f14_30 rfl rfl
theorem f14_32 : gm_ft 14 32 = some (.ifCond .lt 37, 3) := by decide +kernel
theorem r14_32 {E : Nat → Value} {d : Nat} {st : List Value} {h : gm_H} {r : gm_R × gm_H} {lv : List Value} {x : Int32} : gm_Go E d 14 32 lv (.int x :: st) h r ↔ (if x < 0 then gm_Go E d 14 69 lv st h r else gm_Go E d 14 35 lv st h r) := (gr_br m14 f14_32 rfl rfl rfl rfl).trans gr_if
theorem f14_35 : gm_ft 14 35 = some (.aload_n 0, 1) := by decide +kernel
theorem r14_35 {E : Nat → Value} {d : Nat} {st : List Value} {h : gm_H} {r : gm_R × gm_H} {a1 a2 a3 a4 : Value} {x : Nat} : gm_Go E d 14 35 [.ref x, a1, a2, a3, a4] st h r ↔ gm_Go E d 14 36 [.ref x, a1, a2, a3, a4] (.ref x :: st) h r := gr_loc m14 f14_35 rfl rfl
theorem r14_35n {E : Nat → Value} {d : Nat} {st : List Value} {h : gm_H} {r : gm_R × gm_H} {a1 a2 a3 a4 : Value}  : gm_Go E d 14 35 [.null, a1, a2, a3, a4] st h r ↔ gm_Go E d 14 36 [.null, a1, a2, a3, a4] (.null :: st) h r := gr_loc m14 f14_35 rfl rfl
theorem f14_36 : gm_ft 14 36 = some (.getfield 15, 3) := by decide +kernel
theorem r14_36 {E : Nat → Value} {d : Nat} {st : List Value} {h : gm_H} {r : gm_R × gm_H} {lv : List Value} {a : Nat} {vs : List Value} {v : Value} (hr : gm_rd h a = some (0, vs)) (hv : vs[5]? = some v) : gm_Go E d 14 36 lv (.ref a :: st) h r ↔ gm_Go E d 14 39 lv (v :: st) h r := gr_rd m14 f14_36 rfl rfl rfl rfl (gf_get k0_15 hr hv)
theorem f14_39 : gm_ft 14 39 = some (.aload_n 0, 1) := by decide +kernel
theorem r14_39 {E : Nat → Value} {d : Nat} {st : List Value} {h : gm_H} {r : gm_R × gm_H} {a1 a2 a3 a4 : Value} {x : Nat} : gm_Go E d 14 39 [.ref x, a1, a2, a3, a4] st h r ↔ gm_Go E d 14 40 [.ref x, a1, a2, a3, a4] (.ref x :: st) h r := gr_loc m14 f14_39 rfl rfl
theorem r14_39n {E : Nat → Value} {d : Nat} {st : List Value} {h : gm_H} {r : gm_R × gm_H} {a1 a2 a3 a4 : Value}  : gm_Go E d 14 39 [.null, a1, a2, a3, a4] st h r ↔ gm_Go E d 14 40 [.null, a1, a2, a3, a4] (.null :: st) h r := gr_loc m14 f14_39 rfl rfl
theorem f14_40 : gm_ft 14 40 = some (.getfield 93, 3) := by decide +kernel
theorem r14_40 {E : Nat → Value} {d : Nat} {st : List Value} {h : gm_H} {r : gm_R × gm_H} {lv : List Value} {a : Nat} {vs : List Value} {v : Value} (hr : gm_rd h a = some (0, vs)) (hv : vs[6]? = some v) : gm_Go E d 14 40 lv (.ref a :: st) h r ↔ gm_Go E d 14 43 lv (v :: st) h r := gr_rd m14 f14_40 rfl rfl rfl rfl (gf_get k0_93 hr hv)
theorem f14_43 : gm_ft 14 43 = some (.lload_n 1, 1) := by decide +kernel
theorem r14_43 {E : Nat → Value} {d : Nat} {st : List Value} {h : gm_H} {r : gm_R × gm_H} {a0 a2 a3 a4 : Value} {x : Int64} : gm_Go E d 14 43 [a0, .long x, a2, a3, a4] st h r ↔ gm_Go E d 14 44 [a0, .long x, a2, a3, a4] (.long x :: st) h r := gr_loc m14 f14_43 rfl rfl
theorem f14_44 : gm_ft 14 44 = some (.bipush 8, 2) := by decide +kernel
theorem r14_44 {E : Nat → Value} {d : Nat} {st : List Value} {h : gm_H} {r : gm_R × gm_H} {lv : List Value} : gm_Go E d 14 44 lv st h r ↔ gm_Go E d 14 46 lv (.int (8 : Int32) :: st) h r := gr_pure m14 f14_44 rfl
theorem f14_46 : gm_ft 14 46 = some (.iload 4, 2) := by decide +kernel
theorem r14_46 {E : Nat → Value} {d : Nat} {st : List Value} {h : gm_H} {r : gm_R × gm_H} {a0 a1 a2 a3 : Value} {x : Int32} : gm_Go E d 14 46 [a0, a1, a2, a3, .int x] st h r ↔ gm_Go E d 14 48 [a0, a1, a2, a3, .int x] (.int x :: st) h r := gr_loc m14 f14_46 rfl rfl
theorem f14_48 : gm_ft 14 48 = some (.imul, 1) := by decide +kernel
theorem r14_48 {E : Nat → Value} {d : Nat} {st : List Value} {h : gm_H} {r : gm_R × gm_H} {lv : List Value} {x y : Int32} : gm_Go E d 14 48 lv (.int y :: .int x :: st) h r ↔ gm_Go E d 14 49 lv (.int (x * y) :: st) h r := gr_pure m14 f14_48 rfl
theorem f14_49 : gm_ft 14 49 = some (.lushr, 1) := by decide +kernel
theorem r14_49 {E : Nat → Value} {d : Nat} {st : List Value} {h : gm_H} {r : gm_R × gm_H} {lv : List Value} {x : Int64} {y : Int32} : gm_Go E d 14 49 lv (.int y :: .long x :: st) h r ↔ gm_Go E d 14 50 lv (.long ((x.toUInt64 >>> (y.toInt64.toUInt64 &&& Int64.toUInt64 63)).toInt64) :: st) h r := gr_pure m14 f14_49 rfl
theorem f14_50 : gm_ft 14 50 = some (.l2i, 1) := by decide +kernel
theorem r14_50 {E : Nat → Value} {d : Nat} {st : List Value} {h : gm_H} {r : gm_R × gm_H} {lv : List Value} {x : Int64} : gm_Go E d 14 50 lv (.long x :: st) h r ↔ gm_Go E d 14 51 lv (.int (x.toInt32) :: st) h r := gr_pure m14 f14_50 rfl
theorem f14_51 : gm_ft 14 51 = some (.i2b, 1) := by decide +kernel
theorem r14_51 {E : Nat → Value} {d : Nat} {st : List Value} {h : gm_H} {r : gm_R × gm_H} {lv : List Value} {x : Int32} : gm_Go E d 14 51 lv (.int x :: st) h r ↔ gm_Go E d 14 52 lv (.int (x.toInt8.toInt32) :: st) h r := gr_pure m14 f14_51 rfl
theorem f14_52 : gm_ft 14 52 = some (.bastore, 1) := by decide +kernel
theorem f14_53 : gm_ft 14 53 = some (.aload_n 0, 1) := by decide +kernel
theorem r14_53 {E : Nat → Value} {d : Nat} {st : List Value} {h : gm_H} {r : gm_R × gm_H} {a1 a2 a3 a4 : Value} {x : Nat} : gm_Go E d 14 53 [.ref x, a1, a2, a3, a4] st h r ↔ gm_Go E d 14 54 [.ref x, a1, a2, a3, a4] (.ref x :: st) h r := gr_loc m14 f14_53 rfl rfl
theorem r14_53n {E : Nat → Value} {d : Nat} {st : List Value} {h : gm_H} {r : gm_R × gm_H} {a1 a2 a3 a4 : Value}  : gm_Go E d 14 53 [.null, a1, a2, a3, a4] st h r ↔ gm_Go E d 14 54 [.null, a1, a2, a3, a4] (.null :: st) h r := gr_loc m14 f14_53 rfl rfl
theorem f14_54 : gm_ft 14 54 = some (.dup, 1) := by decide +kernel
theorem r14_54 {E : Nat → Value} {d : Nat} {st : List Value} {h : gm_H} {r : gm_R × gm_H} {lv : List Value} {a : Nat} : gm_Go E d 14 54 lv (.ref a :: st) h r ↔ gm_Go E d 14 55 lv (.ref a :: .ref a :: st) h r := gr_pure m14 f14_54 rfl
theorem r14_54i {E : Nat → Value} {d : Nat} {st : List Value} {h : gm_H} {r : gm_R × gm_H} {lv : List Value} {x : Int32} : gm_Go E d 14 54 lv (.int x :: st) h r ↔ gm_Go E d 14 55 lv (.int x :: .int x :: st) h r := gr_pure m14 f14_54 rfl
theorem f14_55 : gm_ft 14 55 = some (.getfield 93, 3) := by decide +kernel
theorem r14_55 {E : Nat → Value} {d : Nat} {st : List Value} {h : gm_H} {r : gm_R × gm_H} {lv : List Value} {a : Nat} {vs : List Value} {v : Value} (hr : gm_rd h a = some (0, vs)) (hv : vs[6]? = some v) : gm_Go E d 14 55 lv (.ref a :: st) h r ↔ gm_Go E d 14 58 lv (v :: st) h r := gr_rd m14 f14_55 rfl rfl rfl rfl (gf_get k0_93 hr hv)
theorem f14_58 : gm_ft 14 58 = some (.iconst 1, 1) := by decide +kernel
theorem r14_58 {E : Nat → Value} {d : Nat} {st : List Value} {h : gm_H} {r : gm_R × gm_H} {lv : List Value} : gm_Go E d 14 58 lv st h r ↔ gm_Go E d 14 59 lv (.int (1 : Int32) :: st) h r := gr_pure m14 f14_58 rfl
theorem f14_59 : gm_ft 14 59 = some (.iadd, 1) := by decide +kernel
theorem r14_59 {E : Nat → Value} {d : Nat} {st : List Value} {h : gm_H} {r : gm_R × gm_H} {lv : List Value} {x y : Int32} : gm_Go E d 14 59 lv (.int y :: .int x :: st) h r ↔ gm_Go E d 14 60 lv (.int (x + y) :: st) h r := gr_pure m14 f14_59 rfl
theorem f14_60 : gm_ft 14 60 = some (.putfield 93, 3) := by decide +kernel
theorem r14_60 {E : Nat → Value} {d : Nat} {st : List Value} {h : gm_H} {r : gm_R × gm_H} {lv : List Value} {a : Nat} {vs : List Value} {v : Value} (hr : gm_rd h a = some (0, vs)) (hk : 6 < vs.length) (hn : narrow (gm_ty 0 6) v = v ∧ fits (gm_ty 0 6) v = true) : gm_Go E d 14 60 lv (v :: .ref a :: st) h r ↔ gm_Go E d 14 63 lv st (gm_wr h a (0, vs.set 6 v)) r := gr_wr m14 f14_60 rfl rfl rfl rfl rfl (gf_put k0_93 hr (by decide) hk hn (by decide))
theorem f14_63 : gm_ft 14 63 = some (.iinc 4 (-1), 3) := by decide +kernel
theorem r14_63 {E : Nat → Value} {d : Nat} {st : List Value} {h : gm_H} {r : gm_R × gm_H} {a0 a1 a2 a3 : Value} {x : Int32} : gm_Go E d 14 63 [a0, a1, a2, a3, .int x] st h r ↔ gm_Go E d 14 66 [a0, a1, a2, gm_k a3, .int (x + (-1 : Int32))] st h r := gr_loc m14 f14_63 rfl rfl
theorem f14_66 : gm_ft 14 66 = some (.goto (-36), 3) := by decide +kernel
theorem r14_66 {E : Nat → Value} {d : Nat} {st : List Value} {h : gm_H} {r : gm_R × gm_H} {lv : List Value} : gm_Go E d 14 66 lv st h r ↔ gm_Go E d 14 30 lv st h r := gr_brT m14 f14_66 rfl rfl rfl rfl
theorem f14_69 : gm_ft 14 69 = some (.aload_n 0, 1) := by decide +kernel
theorem r14_69 {E : Nat → Value} {d : Nat} {st : List Value} {h : gm_H} {r : gm_R × gm_H} {a1 a2 a3 a4 : Value} {x : Nat} : gm_Go E d 14 69 [.ref x, a1, a2, a3, a4] st h r ↔ gm_Go E d 14 70 [.ref x, a1, a2, a3, a4] (.ref x :: st) h r := gr_loc m14 f14_69 rfl rfl
theorem r14_69n {E : Nat → Value} {d : Nat} {st : List Value} {h : gm_H} {r : gm_R × gm_H} {a1 a2 a3 a4 : Value}  : gm_Go E d 14 69 [.null, a1, a2, a3, a4] st h r ↔ gm_Go E d 14 70 [.null, a1, a2, a3, a4] (.null :: st) h r := gr_loc m14 f14_69 rfl rfl
theorem f14_70 : gm_ft 14 70 = some (.getfield 93, 3) := by decide +kernel
theorem r14_70 {E : Nat → Value} {d : Nat} {st : List Value} {h : gm_H} {r : gm_R × gm_H} {lv : List Value} {a : Nat} {vs : List Value} {v : Value} (hr : gm_rd h a = some (0, vs)) (hv : vs[6]? = some v) : gm_Go E d 14 70 lv (.ref a :: st) h r ↔ gm_Go E d 14 73 lv (v :: st) h r := gr_rd m14 f14_70 rfl rfl rfl rfl (gf_get k0_93 hr hv)
theorem f14_73 : gm_ft 14 73 = some (.ireturn, 1) := by decide +kernel
theorem r14_73 {E : Nat → Value} {d : Nat} {h : gm_H} {r : gm_R × gm_H} {lv : List Value} {x : Int32} : gm_Go E d 14 73 lv [.int x] h r ↔ r = (.inl (some (.int x)), h) := gr_ret m14 f14_73 rfl rfl rfl rfl rfl rfl rfl rfl (by unfold gm_rt; dsimp only; rw [if_pos ⟨rfl, rfl⟩])
/-! GraphReader.begin()I -/
theorem m15 : gm_mt[15]? = some (⟨"GraphReader", "begin", "()I"⟩, prog_1_method_6_code, 1, (some .int), [], 0, 1) := rfl
theorem f15_0 : gm_ft 15 0 = some (.aload_n 0, 1) := by decide +kernel
theorem r15_0 {E : Nat → Value} {d : Nat} {st : List Value} {h : gm_H} {r : gm_R × gm_H}  {x : Nat} : gm_Go E d 15 0 [.ref x] st h r ↔ gm_Go E d 15 1 [.ref x] (.ref x :: st) h r := gr_loc m15 f15_0 rfl rfl
theorem r15_0n {E : Nat → Value} {d : Nat} {st : List Value} {h : gm_H} {r : gm_R × gm_H}   : gm_Go E d 15 0 [.null] st h r ↔ gm_Go E d 15 1 [.null] (.null :: st) h r := gr_loc m15 f15_0 rfl rfl
theorem f15_1 : gm_ft 15 1 = some (.iconst 0, 1) := by decide +kernel
theorem r15_1 {E : Nat → Value} {d : Nat} {st : List Value} {h : gm_H} {r : gm_R × gm_H} {lv : List Value} : gm_Go E d 15 1 lv st h r ↔ gm_Go E d 15 2 lv (.int (0 : Int32) :: st) h r := gr_pure m15 f15_1 rfl
theorem f15_2 : gm_ft 15 2 = some (.putfield 96, 3) := by decide +kernel
theorem r15_2 {E : Nat → Value} {d : Nat} {st : List Value} {h : gm_H} {r : gm_R × gm_H} {lv : List Value} {a : Nat} {vs : List Value} {v : Value} (hr : gm_rd h a = some (0, vs)) (hk : 7 < vs.length) (hn : narrow (gm_ty 0 7) v = v ∧ fits (gm_ty 0 7) v = true) : gm_Go E d 15 2 lv (v :: .ref a :: st) h r ↔ gm_Go E d 15 5 lv st (gm_wr h a (0, vs.set 7 v)) r := gr_wr m15 f15_2 rfl rfl rfl rfl rfl (gf_put k0_96 hr (by decide) hk hn (by decide))
theorem f15_5 : gm_ft 15 5 = some (.aload_n 0, 1) := by decide +kernel
theorem r15_5 {E : Nat → Value} {d : Nat} {st : List Value} {h : gm_H} {r : gm_R × gm_H}  {x : Nat} : gm_Go E d 15 5 [.ref x] st h r ↔ gm_Go E d 15 6 [.ref x] (.ref x :: st) h r := gr_loc m15 f15_5 rfl rfl
theorem r15_5n {E : Nat → Value} {d : Nat} {st : List Value} {h : gm_H} {r : gm_R × gm_H}   : gm_Go E d 15 5 [.null] st h r ↔ gm_Go E d 15 6 [.null] (.null :: st) h r := gr_loc m15 f15_5 rfl rfl
theorem f15_6 : gm_ft 15 6 = some (.iconst 0, 1) := by decide +kernel
theorem r15_6 {E : Nat → Value} {d : Nat} {st : List Value} {h : gm_H} {r : gm_R × gm_H} {lv : List Value} : gm_Go E d 15 6 lv st h r ↔ gm_Go E d 15 7 lv (.int (0 : Int32) :: st) h r := gr_pure m15 f15_6 rfl
theorem f15_7 : gm_ft 15 7 = some (.putfield 72, 3) := by decide +kernel
theorem r15_7 {E : Nat → Value} {d : Nat} {st : List Value} {h : gm_H} {r : gm_R × gm_H} {lv : List Value} {a : Nat} {vs : List Value} {v : Value} (hr : gm_rd h a = some (0, vs)) (hk : 9 < vs.length) (hn : narrow (gm_ty 0 9) v = v ∧ fits (gm_ty 0 9) v = true) : gm_Go E d 15 7 lv (v :: .ref a :: st) h r ↔ gm_Go E d 15 10 lv st (gm_wr h a (0, vs.set 9 v)) r := gr_wr m15 f15_7 rfl rfl rfl rfl rfl (gf_put k0_72 hr (by decide) hk hn (by decide))
theorem f15_10 : gm_ft 15 10 = some (.aload_n 0, 1) := by decide +kernel
theorem r15_10 {E : Nat → Value} {d : Nat} {st : List Value} {h : gm_H} {r : gm_R × gm_H}  {x : Nat} : gm_Go E d 15 10 [.ref x] st h r ↔ gm_Go E d 15 11 [.ref x] (.ref x :: st) h r := gr_loc m15 f15_10 rfl rfl
theorem r15_10n {E : Nat → Value} {d : Nat} {st : List Value} {h : gm_H} {r : gm_R × gm_H}   : gm_Go E d 15 10 [.null] st h r ↔ gm_Go E d 15 11 [.null] (.null :: st) h r := gr_loc m15 f15_10 rfl rfl
theorem f15_11 : gm_ft 15 11 = some (.getfield 28, 3) := by decide +kernel
theorem r15_11 {E : Nat → Value} {d : Nat} {st : List Value} {h : gm_H} {r : gm_R × gm_H} {lv : List Value} {a : Nat} {vs : List Value} {v : Value} (hr : gm_rd h a = some (0, vs)) (hv : vs[10]? = some v) : gm_Go E d 15 11 lv (.ref a :: st) h r ↔ gm_Go E d 15 14 lv (v :: st) h r := gr_rd m15 f15_11 rfl rfl rfl rfl (gf_get k0_28 hr hv)
theorem f15_14 : gm_ft 15 14 = some (.iconst 0, 1) := by decide +kernel
theorem r15_14 {E : Nat → Value} {d : Nat} {st : List Value} {h : gm_H} {r : gm_R × gm_H} {lv : List Value} : gm_Go E d 15 14 lv st h r ↔ gm_Go E d 15 15 lv (.int (0 : Int32) :: st) h r := gr_pure m15 f15_14 rfl
theorem f15_15 : gm_ft 15 15 = some (.iconst 0, 1) := by decide +kernel
theorem r15_15 {E : Nat → Value} {d : Nat} {st : List Value} {h : gm_H} {r : gm_R × gm_H} {lv : List Value} : gm_Go E d 15 15 lv st h r ↔ gm_Go E d 15 16 lv (.int (0 : Int32) :: st) h r := gr_pure m15 f15_15 rfl
theorem f15_16 : gm_ft 15 16 = some (.invokevirtual 99, 3) := by decide +kernel
theorem n15_16 {st : List Value} {h : gm_H} {E : Nat → Value} {lv : List Value} {b0 b1 : Value} {a : Nat} (hs : (st.map fun v => v.category).sum ≤ 8) (he : (gm_en1 [.ref a, b0, b1]).length ≤ 3) {vs : List Value} (hr : gm_rd h a = some (2, vs)) : gm_next E 15 16 lv (b1 :: b0 :: .ref a :: st) h = some (.inr (.inl (0, 16, [.ref a, b0, b1], st))) := gn_call m15 f15_16 rfl rfl rfl rfl rfl rfl rfl (gc_virt (bs := [b1, b0]) (w := 180) rfl rfl rfl rfl hs he hr) (by decide)
theorem f15_19 : gm_ft 15 19 = some (.aload_n 0, 1) := by decide +kernel
theorem r15_19 {E : Nat → Value} {d : Nat} {st : List Value} {h : gm_H} {r : gm_R × gm_H}  {x : Nat} : gm_Go E d 15 19 [.ref x] st h r ↔ gm_Go E d 15 20 [.ref x] (.ref x :: st) h r := gr_loc m15 f15_19 rfl rfl
theorem r15_19n {E : Nat → Value} {d : Nat} {st : List Value} {h : gm_H} {r : gm_R × gm_H}   : gm_Go E d 15 19 [.null] st h r ↔ gm_Go E d 15 20 [.null] (.null :: st) h r := gr_loc m15 f15_19 rfl rfl
theorem f15_20 : gm_ft 15 20 = some (.iconst 0, 1) := by decide +kernel
theorem r15_20 {E : Nat → Value} {d : Nat} {st : List Value} {h : gm_H} {r : gm_R × gm_H} {lv : List Value} : gm_Go E d 15 20 lv st h r ↔ gm_Go E d 15 21 lv (.int (0 : Int32) :: st) h r := gr_pure m15 f15_20 rfl
theorem f15_21 : gm_ft 15 21 = some (.putfield 102, 3) := by decide +kernel
theorem r15_21 {E : Nat → Value} {d : Nat} {st : List Value} {h : gm_H} {r : gm_R × gm_H} {lv : List Value} {a : Nat} {vs : List Value} {v : Value} (hr : gm_rd h a = some (0, vs)) (hk : 11 < vs.length) (hn : narrow (gm_ty 0 11) v = v ∧ fits (gm_ty 0 11) v = true) : gm_Go E d 15 21 lv (v :: .ref a :: st) h r ↔ gm_Go E d 15 24 lv st (gm_wr h a (0, vs.set 11 v)) r := gr_wr m15 f15_21 rfl rfl rfl rfl rfl (gf_put k0_102 hr (by decide) hk hn (by decide))
theorem f15_24 : gm_ft 15 24 = some (.aload_n 0, 1) := by decide +kernel
theorem r15_24 {E : Nat → Value} {d : Nat} {st : List Value} {h : gm_H} {r : gm_R × gm_H}  {x : Nat} : gm_Go E d 15 24 [.ref x] st h r ↔ gm_Go E d 15 25 [.ref x] (.ref x :: st) h r := gr_loc m15 f15_24 rfl rfl
theorem r15_24n {E : Nat → Value} {d : Nat} {st : List Value} {h : gm_H} {r : gm_R × gm_H}   : gm_Go E d 15 24 [.null] st h r ↔ gm_Go E d 15 25 [.null] (.null :: st) h r := gr_loc m15 f15_24 rfl rfl
theorem f15_25 : gm_ft 15 25 = some (.getfield 93, 3) := by decide +kernel
theorem r15_25 {E : Nat → Value} {d : Nat} {st : List Value} {h : gm_H} {r : gm_R × gm_H} {lv : List Value} {a : Nat} {vs : List Value} {v : Value} (hr : gm_rd h a = some (0, vs)) (hv : vs[6]? = some v) : gm_Go E d 15 25 lv (.ref a :: st) h r ↔ gm_Go E d 15 28 lv (v :: st) h r := gr_rd m15 f15_25 rfl rfl rfl rfl (gf_get k0_93 hr hv)
theorem f15_28 : gm_ft 15 28 = some (.iconst 4, 1) := by decide +kernel
theorem r15_28 {E : Nat → Value} {d : Nat} {st : List Value} {h : gm_H} {r : gm_R × gm_H} {lv : List Value} : gm_Go E d 15 28 lv st h r ↔ gm_Go E d 15 29 lv (.int (4 : Int32) :: st) h r := gr_pure m15 f15_28 rfl
theorem f15_29 : gm_ft 15 29 = some (.if_icmp .ge 12, 3) := by decide +kernel
theorem r15_29 {E : Nat → Value} {d : Nat} {st : List Value} {h : gm_H} {r : gm_R × gm_H} {lv : List Value} {x y : Int32} : gm_Go E d 15 29 lv (.int y :: .int x :: st) h r ↔ (if y ≤ x then gm_Go E d 15 41 lv st h r else gm_Go E d 15 32 lv st h r) := (gr_br m15 f15_29 rfl rfl rfl rfl).trans gr_if
theorem f15_32 : gm_ft 15 32 = some (.aload_n 0, 1) := by decide +kernel
theorem r15_32 {E : Nat → Value} {d : Nat} {st : List Value} {h : gm_H} {r : gm_R × gm_H}  {x : Nat} : gm_Go E d 15 32 [.ref x] st h r ↔ gm_Go E d 15 33 [.ref x] (.ref x :: st) h r := gr_loc m15 f15_32 rfl rfl
theorem r15_32n {E : Nat → Value} {d : Nat} {st : List Value} {h : gm_H} {r : gm_R × gm_H}   : gm_Go E d 15 32 [.null] st h r ↔ gm_Go E d 15 33 [.null] (.null :: st) h r := gr_loc m15 f15_32 rfl rfl
theorem f15_33 : gm_ft 15 33 = some (.bipush (-3), 2) := by decide +kernel
theorem r15_33 {E : Nat → Value} {d : Nat} {st : List Value} {h : gm_H} {r : gm_R × gm_H} {lv : List Value} : gm_Go E d 15 33 lv st h r ↔ gm_Go E d 15 35 lv (.int (-3 : Int32) :: st) h r := gr_pure m15 f15_33 rfl
theorem f15_35 : gm_ft 15 35 = some (.putfield 102, 3) := by decide +kernel
theorem r15_35 {E : Nat → Value} {d : Nat} {st : List Value} {h : gm_H} {r : gm_R × gm_H} {lv : List Value} {a : Nat} {vs : List Value} {v : Value} (hr : gm_rd h a = some (0, vs)) (hk : 11 < vs.length) (hn : narrow (gm_ty 0 11) v = v ∧ fits (gm_ty 0 11) v = true) : gm_Go E d 15 35 lv (v :: .ref a :: st) h r ↔ gm_Go E d 15 38 lv st (gm_wr h a (0, vs.set 11 v)) r := gr_wr m15 f15_35 rfl rfl rfl rfl rfl (gf_put k0_102 hr (by decide) hk hn (by decide))
theorem f15_38 : gm_ft 15 38 = some (.bipush (-3), 2) := by decide +kernel
theorem r15_38 {E : Nat → Value} {d : Nat} {st : List Value} {h : gm_H} {r : gm_R × gm_H} {lv : List Value} : gm_Go E d 15 38 lv st h r ↔ gm_Go E d 15 40 lv (.int (-3 : Int32) :: st) h r := gr_pure m15 f15_38 rfl
theorem f15_40 : gm_ft 15 40 = some (.ireturn, 1) := by decide +kernel
theorem r15_40 {E : Nat → Value} {d : Nat} {h : gm_H} {r : gm_R × gm_H} {lv : List Value} {x : Int32} : gm_Go E d 15 40 lv [.int x] h r ↔ r = (.inl (some (.int x)), h) := gr_ret m15 f15_40 rfl rfl rfl rfl rfl rfl rfl rfl (by unfold gm_rt; dsimp only; rw [if_pos ⟨rfl, rfl⟩])
theorem f15_41 : gm_ft 15 41 = some (.aload_n 0, 1) := by decide +kernel
theorem r15_41 {E : Nat → Value} {d : Nat} {st : List Value} {h : gm_H} {r : gm_R × gm_H}  {x : Nat} : gm_Go E d 15 41 [.ref x] st h r ↔ gm_Go E d 15 42 [.ref x] (.ref x :: st) h r := gr_loc m15 f15_41 rfl rfl
theorem r15_41n {E : Nat → Value} {d : Nat} {st : List Value} {h : gm_H} {r : gm_R × gm_H}   : gm_Go E d 15 41 [.null] st h r ↔ gm_Go E d 15 42 [.null] (.null :: st) h r := gr_loc m15 f15_41 rfl rfl
theorem f15_42 : gm_ft 15 42 = some (.iconst 0, 1) := by decide +kernel
theorem r15_42 {E : Nat → Value} {d : Nat} {st : List Value} {h : gm_H} {r : gm_R × gm_H} {lv : List Value} : gm_Go E d 15 42 lv st h r ↔ gm_Go E d 15 43 lv (.int (0 : Int32) :: st) h r := gr_pure m15 f15_42 rfl
theorem f15_43 : gm_ft 15 43 = some (.iconst 4, 1) := by decide +kernel
theorem r15_43 {E : Nat → Value} {d : Nat} {st : List Value} {h : gm_H} {r : gm_R × gm_H} {lv : List Value} : gm_Go E d 15 43 lv st h r ↔ gm_Go E d 15 44 lv (.int (4 : Int32) :: st) h r := gr_pure m15 f15_43 rfl
theorem f15_44 : gm_ft 15 44 = some (.invokevirtual 105, 3) := by decide +kernel
theorem n15_44 {st : List Value} {h : gm_H} {E : Nat → Value} {lv : List Value} {b0 b1 : Value} {a : Nat} (hs : (st.map fun v => v.category).sum ≤ 8) (he : (gm_en1 [.ref a, b0, b1]).length ≤ 6) {vs : List Value} (hr : gm_rd h a = some (0, vs)) : gm_next E 15 44 lv (b1 :: b0 :: .ref a :: st) h = some (.inr (.inl (0, 17, [.ref a, b0, b1], st))) := gn_call m15 f15_44 rfl rfl rfl rfl rfl rfl rfl (gc_virt (bs := [b1, b0]) (w := 184) rfl rfl rfl rfl hs he hr) (by decide)
theorem f15_47 : gm_ft 15 47 = some (.l2i, 1) := by decide +kernel
theorem r15_47 {E : Nat → Value} {d : Nat} {st : List Value} {h : gm_H} {r : gm_R × gm_H} {lv : List Value} {x : Int64} : gm_Go E d 15 47 lv (.long x :: st) h r ↔ gm_Go E d 15 48 lv (.int (x.toInt32) :: st) h r := gr_pure m15 f15_47 rfl
theorem f15_48 : gm_ft 15 48 = some (.ldc 109, 2) := by decide +kernel
theorem r15_48 {E : Nat → Value} {d : Nat} {st : List Value} {h : gm_H} {r : gm_R × gm_H} {lv : List Value} : gm_Go E d 15 48 lv st h r ↔ gm_Go E d 15 50 lv (.int (-1393754107 : Int32) :: st) h r := gr_rd m15 f15_48 rfl rfl rfl rfl rfl
theorem f15_50 : gm_ft 15 50 = some (.if_icmp .eq 12, 3) := by decide +kernel
theorem r15_50 {E : Nat → Value} {d : Nat} {st : List Value} {h : gm_H} {r : gm_R × gm_H} {lv : List Value} {x y : Int32} : gm_Go E d 15 50 lv (.int y :: .int x :: st) h r ↔ (if x = y then gm_Go E d 15 62 lv st h r else gm_Go E d 15 53 lv st h r) := (gr_br m15 f15_50 rfl rfl rfl rfl).trans gr_if
theorem f15_53 : gm_ft 15 53 = some (.aload_n 0, 1) := by decide +kernel
theorem r15_53 {E : Nat → Value} {d : Nat} {st : List Value} {h : gm_H} {r : gm_R × gm_H}  {x : Nat} : gm_Go E d 15 53 [.ref x] st h r ↔ gm_Go E d 15 54 [.ref x] (.ref x :: st) h r := gr_loc m15 f15_53 rfl rfl
theorem r15_53n {E : Nat → Value} {d : Nat} {st : List Value} {h : gm_H} {r : gm_R × gm_H}   : gm_Go E d 15 53 [.null] st h r ↔ gm_Go E d 15 54 [.null] (.null :: st) h r := gr_loc m15 f15_53 rfl rfl
theorem f15_54 : gm_ft 15 54 = some (.bipush (-4), 2) := by decide +kernel
theorem r15_54 {E : Nat → Value} {d : Nat} {st : List Value} {h : gm_H} {r : gm_R × gm_H} {lv : List Value} : gm_Go E d 15 54 lv st h r ↔ gm_Go E d 15 56 lv (.int (-4 : Int32) :: st) h r := gr_pure m15 f15_54 rfl
theorem f15_56 : gm_ft 15 56 = some (.putfield 102, 3) := by decide +kernel
theorem r15_56 {E : Nat → Value} {d : Nat} {st : List Value} {h : gm_H} {r : gm_R × gm_H} {lv : List Value} {a : Nat} {vs : List Value} {v : Value} (hr : gm_rd h a = some (0, vs)) (hk : 11 < vs.length) (hn : narrow (gm_ty 0 11) v = v ∧ fits (gm_ty 0 11) v = true) : gm_Go E d 15 56 lv (v :: .ref a :: st) h r ↔ gm_Go E d 15 59 lv st (gm_wr h a (0, vs.set 11 v)) r := gr_wr m15 f15_56 rfl rfl rfl rfl rfl (gf_put k0_102 hr (by decide) hk hn (by decide))
theorem f15_59 : gm_ft 15 59 = some (.bipush (-4), 2) := by decide +kernel
theorem r15_59 {E : Nat → Value} {d : Nat} {st : List Value} {h : gm_H} {r : gm_R × gm_H} {lv : List Value} : gm_Go E d 15 59 lv st h r ↔ gm_Go E d 15 61 lv (.int (-4 : Int32) :: st) h r := gr_pure m15 f15_59 rfl
theorem f15_61 : gm_ft 15 61 = some (.ireturn, 1) := by decide +kernel
theorem r15_61 {E : Nat → Value} {d : Nat} {h : gm_H} {r : gm_R × gm_H} {lv : List Value} {x : Int32} : gm_Go E d 15 61 lv [.int x] h r ↔ r = (.inl (some (.int x)), h) := gr_ret m15 f15_61 rfl rfl rfl rfl rfl rfl rfl rfl (by unfold gm_rt; dsimp only; rw [if_pos ⟨rfl, rfl⟩])
theorem f15_62 : gm_ft 15 62 = some (.aload_n 0, 1) := by decide +kernel
theorem r15_62 {E : Nat → Value} {d : Nat} {st : List Value} {h : gm_H} {r : gm_R × gm_H}  {x : Nat} : gm_Go E d 15 62 [.ref x] st h r ↔ gm_Go E d 15 63 [.ref x] (.ref x :: st) h r := gr_loc m15 f15_62 rfl rfl
theorem r15_62n {E : Nat → Value} {d : Nat} {st : List Value} {h : gm_H} {r : gm_R × gm_H}   : gm_Go E d 15 62 [.null] st h r ↔ gm_Go E d 15 63 [.null] (.null :: st) h r := gr_loc m15 f15_62 rfl rfl
theorem f15_63 : gm_ft 15 63 = some (.iconst 4, 1) := by decide +kernel
theorem r15_63 {E : Nat → Value} {d : Nat} {st : List Value} {h : gm_H} {r : gm_R × gm_H} {lv : List Value} : gm_Go E d 15 63 lv st h r ↔ gm_Go E d 15 64 lv (.int (4 : Int32) :: st) h r := gr_pure m15 f15_63 rfl
theorem f15_64 : gm_ft 15 64 = some (.putfield 96, 3) := by decide +kernel
theorem r15_64 {E : Nat → Value} {d : Nat} {st : List Value} {h : gm_H} {r : gm_R × gm_H} {lv : List Value} {a : Nat} {vs : List Value} {v : Value} (hr : gm_rd h a = some (0, vs)) (hk : 7 < vs.length) (hn : narrow (gm_ty 0 7) v = v ∧ fits (gm_ty 0 7) v = true) : gm_Go E d 15 64 lv (v :: .ref a :: st) h r ↔ gm_Go E d 15 67 lv st (gm_wr h a (0, vs.set 7 v)) r := gr_wr m15 f15_64 rfl rfl rfl rfl rfl (gf_put k0_96 hr (by decide) hk hn (by decide))
theorem f15_67 : gm_ft 15 67 = some (.aload_n 0, 1) := by decide +kernel
theorem r15_67 {E : Nat → Value} {d : Nat} {st : List Value} {h : gm_H} {r : gm_R × gm_H}  {x : Nat} : gm_Go E d 15 67 [.ref x] st h r ↔ gm_Go E d 15 68 [.ref x] (.ref x :: st) h r := gr_loc m15 f15_67 rfl rfl
theorem r15_67n {E : Nat → Value} {d : Nat} {st : List Value} {h : gm_H} {r : gm_R × gm_H}   : gm_Go E d 15 67 [.null] st h r ↔ gm_Go E d 15 68 [.null] (.null :: st) h r := gr_loc m15 f15_67 rfl rfl
theorem f15_68 : gm_ft 15 68 = some (.getfield 96, 3) := by decide +kernel
theorem r15_68 {E : Nat → Value} {d : Nat} {st : List Value} {h : gm_H} {r : gm_R × gm_H} {lv : List Value} {a : Nat} {vs : List Value} {v : Value} (hr : gm_rd h a = some (0, vs)) (hv : vs[7]? = some v) : gm_Go E d 15 68 lv (.ref a :: st) h r ↔ gm_Go E d 15 71 lv (v :: st) h r := gr_rd m15 f15_68 rfl rfl rfl rfl (gf_get k0_96 hr hv)
theorem f15_71 : gm_ft 15 71 = some (.ireturn, 1) := by decide +kernel
theorem r15_71 {E : Nat → Value} {d : Nat} {h : gm_H} {r : gm_R × gm_H} {lv : List Value} {x : Int32} : gm_Go E d 15 71 lv [.int x] h r ↔ r = (.inl (some (.int x)), h) := gr_ret m15 f15_71 rfl rfl rfl rfl rfl rfl rfl rfl (by unfold gm_rt; dsimp only; rw [if_pos ⟨rfl, rfl⟩])
/-! GraphReader$Handles.rewind(II)V -/
theorem m16 : gm_mt[16]? = some (⟨"GraphReader$Handles", "rewind", "(II)V"⟩, prog_3_method_3_code, 3, none, [], 2, 1) := rfl
theorem f16_0 : gm_ft 16 0 = some (.aload_n 0, 1) := by decide +kernel
theorem r16_0 {E : Nat → Value} {d : Nat} {st : List Value} {h : gm_H} {r : gm_R × gm_H} {a1 a2 : Value} {x : Nat} : gm_Go E d 16 0 [.ref x, a1, a2] st h r ↔ gm_Go E d 16 1 [.ref x, a1, a2] (.ref x :: st) h r := gr_loc m16 f16_0 rfl rfl
theorem r16_0n {E : Nat → Value} {d : Nat} {st : List Value} {h : gm_H} {r : gm_R × gm_H} {a1 a2 : Value}  : gm_Go E d 16 0 [.null, a1, a2] st h r ↔ gm_Go E d 16 1 [.null, a1, a2] (.null :: st) h r := gr_loc m16 f16_0 rfl rfl
theorem f16_1 : gm_ft 16 1 = some (.iload_n 1, 1) := by decide +kernel
theorem r16_1 {E : Nat → Value} {d : Nat} {st : List Value} {h : gm_H} {r : gm_R × gm_H} {a0 a2 : Value} {x : Int32} : gm_Go E d 16 1 [a0, .int x, a2] st h r ↔ gm_Go E d 16 2 [a0, .int x, a2] (.int x :: st) h r := gr_loc m16 f16_1 rfl rfl
theorem f16_2 : gm_ft 16 2 = some (.putfield 25, 3) := by decide +kernel
theorem r16_2 {E : Nat → Value} {d : Nat} {st : List Value} {h : gm_H} {r : gm_R × gm_H} {lv : List Value} {a : Nat} {vs : List Value} {v : Value} (hr : gm_rd h a = some (2, vs)) (hk : 2 < vs.length) (hn : narrow (gm_ty 2 2) v = v ∧ fits (gm_ty 2 2) v = true) : gm_Go E d 16 2 lv (v :: .ref a :: st) h r ↔ gm_Go E d 16 5 lv st (gm_wr h a (2, vs.set 2 v)) r := gr_wr m16 f16_2 rfl rfl rfl rfl rfl (gf_put k2_25 hr (by decide) hk hn (by decide))
theorem f16_5 : gm_ft 16 5 = some (.aload_n 0, 1) := by decide +kernel
theorem r16_5 {E : Nat → Value} {d : Nat} {st : List Value} {h : gm_H} {r : gm_R × gm_H} {a1 a2 : Value} {x : Nat} : gm_Go E d 16 5 [.ref x, a1, a2] st h r ↔ gm_Go E d 16 6 [.ref x, a1, a2] (.ref x :: st) h r := gr_loc m16 f16_5 rfl rfl
theorem r16_5n {E : Nat → Value} {d : Nat} {st : List Value} {h : gm_H} {r : gm_R × gm_H} {a1 a2 : Value}  : gm_Go E d 16 5 [.null, a1, a2] st h r ↔ gm_Go E d 16 6 [.null, a1, a2] (.null :: st) h r := gr_loc m16 f16_5 rfl rfl
theorem f16_6 : gm_ft 16 6 = some (.iload_n 2, 1) := by decide +kernel
theorem r16_6 {E : Nat → Value} {d : Nat} {st : List Value} {h : gm_H} {r : gm_R × gm_H} {a0 a1 : Value} {x : Int32} : gm_Go E d 16 6 [a0, a1, .int x] st h r ↔ gm_Go E d 16 7 [a0, a1, .int x] (.int x :: st) h r := gr_loc m16 f16_6 rfl rfl
theorem f16_7 : gm_ft 16 7 = some (.putfield 21, 3) := by decide +kernel
theorem r16_7 {E : Nat → Value} {d : Nat} {st : List Value} {h : gm_H} {r : gm_R × gm_H} {lv : List Value} {a : Nat} {vs : List Value} {v : Value} (hr : gm_rd h a = some (2, vs)) (hk : 3 < vs.length) (hn : narrow (gm_ty 2 3) v = v ∧ fits (gm_ty 2 3) v = true) : gm_Go E d 16 7 lv (v :: .ref a :: st) h r ↔ gm_Go E d 16 10 lv st (gm_wr h a (2, vs.set 3 v)) r := gr_wr m16 f16_7 rfl rfl rfl rfl rfl (gf_put k2_21 hr (by decide) hk hn (by decide))
theorem f16_10 : gm_ft 16 10 = some (.return_, 1) := by decide +kernel
theorem r16_10 {E : Nat → Value} {d : Nat} {h : gm_H} {r : gm_R × gm_H} {lv : List Value} : gm_Go E d 16 10 lv [] h r ↔ r = (.inl none, h) := gr_ret m16 f16_10 rfl rfl rfl rfl rfl rfl rfl rfl rfl
/-! GraphReader.numberAt(II)J -/
theorem m17 : gm_mt[17]? = some (⟨"GraphReader", "numberAt", "(II)J"⟩, prog_1_method_17_code, 6, (some .long), [], 0, 1) := rfl
theorem f17_0 : gm_ft 17 0 = some (.lconst 0, 1) := by decide +kernel
theorem r17_0 {E : Nat → Value} {d : Nat} {st : List Value} {h : gm_H} {r : gm_R × gm_H} {lv : List Value} : gm_Go E d 17 0 lv st h r ↔ gm_Go E d 17 1 lv (.long 0 :: st) h r := gr_pure m17 f17_0 rfl
theorem f17_1 : gm_ft 17 1 = some (.lstore_n 3, 1) := by decide +kernel
theorem r17_1 {E : Nat → Value} {d : Nat} {st : List Value} {h : gm_H} {r : gm_R × gm_H} {a0 a1 a2 a3 a4 a5 : Value} {x : Int64} : gm_Go E d 17 1 [a0, a1, a2, a3, a4, a5] (.long x :: st) h r ↔ gm_Go E d 17 2 [a0, a1, gm_k a2, .long x, gm_u, a5] st h r := gr_loc m17 f17_1 rfl rfl
theorem f17_2 : gm_ft 17 2 = some (.iload_n 1, 1) := by decide +kernel
theorem r17_2 {E : Nat → Value} {d : Nat} {st : List Value} {h : gm_H} {r : gm_R × gm_H} {a0 a2 a3 a4 a5 : Value} {x : Int32} : gm_Go E d 17 2 [a0, .int x, a2, a3, a4, a5] st h r ↔ gm_Go E d 17 3 [a0, .int x, a2, a3, a4, a5] (.int x :: st) h r := gr_loc m17 f17_2 rfl rfl
theorem f17_3 : gm_ft 17 3 = some (.istore 5, 2) := by decide +kernel
theorem r17_3 {E : Nat → Value} {d : Nat} {st : List Value} {h : gm_H} {r : gm_R × gm_H} {a0 a1 a2 a3 a4 a5 : Value} {x : Int32} : gm_Go E d 17 3 [a0, a1, a2, a3, a4, a5] (.int x :: st) h r ↔ gm_Go E d 17 5 [a0, a1, a2, a3, gm_k a4, .int x] st h r := gr_loc m17 f17_3 rfl rfl
theorem f17_5 : gm_ft 17 5 = some (.iload 5, 2) := by decide +kernel
theorem r17_5 {E : Nat → Value} {d : Nat} {st : List Value} {h : gm_H} {r : gm_R × gm_H} {a0 a1 a2 a3 a4 : Value} {x : Int32} : gm_Go E d 17 5 [a0, a1, a2, a3, a4, .int x] st h r ↔ gm_Go E d 17 7 [a0, a1, a2, a3, a4, .int x] (.int x :: st) h r := gr_loc m17 f17_5 rfl rfl
theorem f17_7 : gm_ft 17 7 = some (.iload_n 1, 1) := by decide +kernel
theorem r17_7 {E : Nat → Value} {d : Nat} {st : List Value} {h : gm_H} {r : gm_R × gm_H} {a0 a2 a3 a4 a5 : Value} {x : Int32} : gm_Go E d 17 7 [a0, .int x, a2, a3, a4, a5] st h r ↔ gm_Go E d 17 8 [a0, .int x, a2, a3, a4, a5] (.int x :: st) h r := gr_loc m17 f17_7 rfl rfl
theorem f17_8 : gm_ft 17 8 = some (.iload_n 2, 1) := by decide +kernel
theorem r17_8 {E : Nat → Value} {d : Nat} {st : List Value} {h : gm_H} {r : gm_R × gm_H} {a0 a1 a3 a4 a5 : Value} {x : Int32} : gm_Go E d 17 8 [a0, a1, .int x, a3, a4, a5] st h r ↔ gm_Go E d 17 9 [a0, a1, .int x, a3, a4, a5] (.int x :: st) h r := gr_loc m17 f17_8 rfl rfl
theorem f17_9 : gm_ft 17 9 = some (.iadd, 1) := by decide +kernel
theorem r17_9 {E : Nat → Value} {d : Nat} {st : List Value} {h : gm_H} {r : gm_R × gm_H} {lv : List Value} {x y : Int32} : gm_Go E d 17 9 lv (.int y :: .int x :: st) h r ↔ gm_Go E d 17 10 lv (.int (x + y) :: st) h r := gr_pure m17 f17_9 rfl
theorem f17_10 : gm_ft 17 10 = some (.if_icmp .ge 36, 3) := by decide +kernel
theorem r17_10 {E : Nat → Value} {d : Nat} {st : List Value} {h : gm_H} {r : gm_R × gm_H} {lv : List Value} {x y : Int32} : gm_Go E d 17 10 lv (.int y :: .int x :: st) h r ↔ (if y ≤ x then gm_Go E d 17 46 lv st h r else gm_Go E d 17 13 lv st h r) := (gr_br m17 f17_10 rfl rfl rfl rfl).trans gr_if
theorem f17_13 : gm_ft 17 13 = some (.iload 5, 2) := by decide +kernel
theorem r17_13 {E : Nat → Value} {d : Nat} {st : List Value} {h : gm_H} {r : gm_R × gm_H} {a0 a1 a2 a3 a4 : Value} {x : Int32} : gm_Go E d 17 13 [a0, a1, a2, a3, a4, .int x] st h r ↔ gm_Go E d 17 15 [a0, a1, a2, a3, a4, .int x] (.int x :: st) h r := gr_loc m17 f17_13 rfl rfl
theorem f17_15 : gm_ft 17 15 = some (.aload_n 0, 1) := by decide +kernel
theorem r17_15 {E : Nat → Value} {d : Nat} {st : List Value} {h : gm_H} {r : gm_R × gm_H} {a1 a2 a3 a4 a5 : Value} {x : Nat} : gm_Go E d 17 15 [.ref x, a1, a2, a3, a4, a5] st h r ↔ gm_Go E d 17 16 [.ref x, a1, a2, a3, a4, a5] (.ref x :: st) h r := gr_loc m17 f17_15 rfl rfl
theorem r17_15n {E : Nat → Value} {d : Nat} {st : List Value} {h : gm_H} {r : gm_R × gm_H} {a1 a2 a3 a4 a5 : Value}  : gm_Go E d 17 15 [.null, a1, a2, a3, a4, a5] st h r ↔ gm_Go E d 17 16 [.null, a1, a2, a3, a4, a5] (.null :: st) h r := gr_loc m17 f17_15 rfl rfl
theorem f17_16 : gm_ft 17 16 = some (.getfield 93, 3) := by decide +kernel
theorem r17_16 {E : Nat → Value} {d : Nat} {st : List Value} {h : gm_H} {r : gm_R × gm_H} {lv : List Value} {a : Nat} {vs : List Value} {v : Value} (hr : gm_rd h a = some (0, vs)) (hv : vs[6]? = some v) : gm_Go E d 17 16 lv (.ref a :: st) h r ↔ gm_Go E d 17 19 lv (v :: st) h r := gr_rd m17 f17_16 rfl rfl rfl rfl (gf_get k0_93 hr hv)
theorem f17_19 : gm_ft 17 19 = some (.if_icmp .ge 27, 3) := by decide +kernel
theorem r17_19 {E : Nat → Value} {d : Nat} {st : List Value} {h : gm_H} {r : gm_R × gm_H} {lv : List Value} {x y : Int32} : gm_Go E d 17 19 lv (.int y :: .int x :: st) h r ↔ (if y ≤ x then gm_Go E d 17 46 lv st h r else gm_Go E d 17 22 lv st h r) := (gr_br m17 f17_19 rfl rfl rfl rfl).trans gr_if
theorem f17_22 : gm_ft 17 22 = some (.lload_n 3, 1) := by decide +kernel
theorem r17_22 {E : Nat → Value} {d : Nat} {st : List Value} {h : gm_H} {r : gm_R × gm_H} {a0 a1 a2 a4 a5 : Value} {x : Int64} : gm_Go E d 17 22 [a0, a1, a2, .long x, a4, a5] st h r ↔ gm_Go E d 17 23 [a0, a1, a2, .long x, a4, a5] (.long x :: st) h r := gr_loc m17 f17_22 rfl rfl
theorem f17_23 : gm_ft 17 23 = some (.bipush 8, 2) := by decide +kernel
theorem r17_23 {E : Nat → Value} {d : Nat} {st : List Value} {h : gm_H} {r : gm_R × gm_H} {lv : List Value} : gm_Go E d 17 23 lv st h r ↔ gm_Go E d 17 25 lv (.int (8 : Int32) :: st) h r := gr_pure m17 f17_23 rfl
theorem f17_25 : gm_ft 17 25 = some (.lshl, 1) := by decide +kernel
theorem r17_25 {E : Nat → Value} {d : Nat} {st : List Value} {h : gm_H} {r : gm_R × gm_H} {lv : List Value} {x : Int64} {y : Int32} : gm_Go E d 17 25 lv (.int y :: .long x :: st) h r ↔ gm_Go E d 17 26 lv (.long (x <<< (y.toInt64 &&& 63)) :: st) h r := gr_pure m17 f17_25 rfl
theorem f17_26 : gm_ft 17 26 = some (.aload_n 0, 1) := by decide +kernel
theorem r17_26 {E : Nat → Value} {d : Nat} {st : List Value} {h : gm_H} {r : gm_R × gm_H} {a1 a2 a3 a4 a5 : Value} {x : Nat} : gm_Go E d 17 26 [.ref x, a1, a2, a3, a4, a5] st h r ↔ gm_Go E d 17 27 [.ref x, a1, a2, a3, a4, a5] (.ref x :: st) h r := gr_loc m17 f17_26 rfl rfl
theorem r17_26n {E : Nat → Value} {d : Nat} {st : List Value} {h : gm_H} {r : gm_R × gm_H} {a1 a2 a3 a4 a5 : Value}  : gm_Go E d 17 26 [.null, a1, a2, a3, a4, a5] st h r ↔ gm_Go E d 17 27 [.null, a1, a2, a3, a4, a5] (.null :: st) h r := gr_loc m17 f17_26 rfl rfl
theorem f17_27 : gm_ft 17 27 = some (.getfield 15, 3) := by decide +kernel
theorem r17_27 {E : Nat → Value} {d : Nat} {st : List Value} {h : gm_H} {r : gm_R × gm_H} {lv : List Value} {a : Nat} {vs : List Value} {v : Value} (hr : gm_rd h a = some (0, vs)) (hv : vs[5]? = some v) : gm_Go E d 17 27 lv (.ref a :: st) h r ↔ gm_Go E d 17 30 lv (v :: st) h r := gr_rd m17 f17_27 rfl rfl rfl rfl (gf_get k0_15 hr hv)
theorem f17_30 : gm_ft 17 30 = some (.iload 5, 2) := by decide +kernel
theorem r17_30 {E : Nat → Value} {d : Nat} {st : List Value} {h : gm_H} {r : gm_R × gm_H} {a0 a1 a2 a3 a4 : Value} {x : Int32} : gm_Go E d 17 30 [a0, a1, a2, a3, a4, .int x] st h r ↔ gm_Go E d 17 32 [a0, a1, a2, a3, a4, .int x] (.int x :: st) h r := gr_loc m17 f17_30 rfl rfl
theorem f17_32 : gm_ft 17 32 = some (.baload, 1) := by decide +kernel
theorem r17_32 {E : Nat → Value} {d : Nat} {st : List Value} {h : gm_H} {r : gm_R × gm_H} {lv : List Value} {a k j : Nat} {vs : List Value} {v : Value} (hr : gm_rd h a = some (k, vs)) (hk : 100 ≤ k ∧ (fun t => t == 2 || t == 3) (k % 100) = true) (hj : j < 2 ^ 31) (hv : vs[j]? = some v) : gm_Go E d 17 32 lv (.int (nI j) :: .ref a :: st) h r ↔ gm_Go E d 17 33 lv (v :: st) h r := gr_rd m17 f17_32 rfl rfl rfl rfl (ga_ld (P := fun t => t == 2 || t == 3) hr hk hj hv)
theorem f17_33 : gm_ft 17 33 = some (.sipush 255, 3) := by decide +kernel
theorem r17_33 {E : Nat → Value} {d : Nat} {st : List Value} {h : gm_H} {r : gm_R × gm_H} {lv : List Value} : gm_Go E d 17 33 lv st h r ↔ gm_Go E d 17 36 lv (.int (255 : Int32) :: st) h r := gr_pure m17 f17_33 rfl
theorem f17_36 : gm_ft 17 36 = some (.iand, 1) := by decide +kernel
theorem r17_36 {E : Nat → Value} {d : Nat} {st : List Value} {h : gm_H} {r : gm_R × gm_H} {lv : List Value} {x y : Int32} : gm_Go E d 17 36 lv (.int y :: .int x :: st) h r ↔ gm_Go E d 17 37 lv (.int (x &&& y) :: st) h r := gr_pure m17 f17_36 rfl
theorem f17_37 : gm_ft 17 37 = some (.i2l, 1) := by decide +kernel
theorem r17_37 {E : Nat → Value} {d : Nat} {st : List Value} {h : gm_H} {r : gm_R × gm_H} {lv : List Value} {x : Int32} : gm_Go E d 17 37 lv (.int x :: st) h r ↔ gm_Go E d 17 38 lv (.long (x.toInt64) :: st) h r := gr_pure m17 f17_37 rfl
theorem f17_38 : gm_ft 17 38 = some (.lor, 1) := by decide +kernel
theorem r17_38 {E : Nat → Value} {d : Nat} {st : List Value} {h : gm_H} {r : gm_R × gm_H} {lv : List Value} {x y : Int64} : gm_Go E d 17 38 lv (.long y :: .long x :: st) h r ↔ gm_Go E d 17 39 lv (.long (x ||| y) :: st) h r := gr_pure m17 f17_38 rfl
theorem f17_39 : gm_ft 17 39 = some (.lstore_n 3, 1) := by decide +kernel
theorem r17_39 {E : Nat → Value} {d : Nat} {st : List Value} {h : gm_H} {r : gm_R × gm_H} {a0 a1 a2 a3 a4 a5 : Value} {x : Int64} : gm_Go E d 17 39 [a0, a1, a2, a3, a4, a5] (.long x :: st) h r ↔ gm_Go E d 17 40 [a0, a1, gm_k a2, .long x, gm_u, a5] st h r := gr_loc m17 f17_39 rfl rfl
theorem f17_40 : gm_ft 17 40 = some (.iinc 5 1, 3) := by decide +kernel
theorem r17_40 {E : Nat → Value} {d : Nat} {st : List Value} {h : gm_H} {r : gm_R × gm_H} {a0 a1 a2 a3 a4 : Value} {x : Int32} : gm_Go E d 17 40 [a0, a1, a2, a3, a4, .int x] st h r ↔ gm_Go E d 17 43 [a0, a1, a2, a3, gm_k a4, .int (x + (1 : Int32))] st h r := gr_loc m17 f17_40 rfl rfl
theorem f17_43 : gm_ft 17 43 = some (.goto (-38), 3) := by decide +kernel
theorem r17_43 {E : Nat → Value} {d : Nat} {st : List Value} {h : gm_H} {r : gm_R × gm_H} {lv : List Value} : gm_Go E d 17 43 lv st h r ↔ gm_Go E d 17 5 lv st h r := gr_brT m17 f17_43 rfl rfl rfl rfl
theorem f17_46 : gm_ft 17 46 = some (.lload_n 3, 1) := by decide +kernel
theorem r17_46 {E : Nat → Value} {d : Nat} {st : List Value} {h : gm_H} {r : gm_R × gm_H} {a0 a1 a2 a4 a5 : Value} {x : Int64} : gm_Go E d 17 46 [a0, a1, a2, .long x, a4, a5] st h r ↔ gm_Go E d 17 47 [a0, a1, a2, .long x, a4, a5] (.long x :: st) h r := gr_loc m17 f17_46 rfl rfl
theorem f17_47 : gm_ft 17 47 = some (.lreturn, 1) := by decide +kernel
theorem r17_47 {E : Nat → Value} {d : Nat} {h : gm_H} {r : gm_R × gm_H} {lv : List Value} {x : Int64} : gm_Go E d 17 47 lv [.long x] h r ↔ r = (.inl (some (.long x)), h) := gr_ret m17 f17_47 rfl rfl rfl rfl rfl rfl rfl rfl rfl
/-! GraphReader.read()I -/
theorem m18 : gm_mt[18]? = some (⟨"GraphReader", "read", "()I"⟩, prog_1_method_7_code, 6, (some .int), [(39, 43, 44, 120)], 0, 1) := rfl
theorem f18_0 : gm_ft 18 0 = some (.aload_n 0, 1) := by decide +kernel
theorem r18_0 {E : Nat → Value} {d : Nat} {st : List Value} {h : gm_H} {r : gm_R × gm_H} {a1 a2 a3 a4 a5 : Value} {x : Nat} : gm_Go E d 18 0 [.ref x, a1, a2, a3, a4, a5] st h r ↔ gm_Go E d 18 1 [.ref x, a1, a2, a3, a4, a5] (.ref x :: st) h r := gr_loc m18 f18_0 rfl rfl
theorem r18_0n {E : Nat → Value} {d : Nat} {st : List Value} {h : gm_H} {r : gm_R × gm_H} {a1 a2 a3 a4 a5 : Value}  : gm_Go E d 18 0 [.null, a1, a2, a3, a4, a5] st h r ↔ gm_Go E d 18 1 [.null, a1, a2, a3, a4, a5] (.null :: st) h r := gr_loc m18 f18_0 rfl rfl
theorem f18_1 : gm_ft 18 1 = some (.getfield 102, 3) := by decide +kernel
theorem r18_1 {E : Nat → Value} {d : Nat} {st : List Value} {h : gm_H} {r : gm_R × gm_H} {lv : List Value} {a : Nat} {vs : List Value} {v : Value} (hr : gm_rd h a = some (0, vs)) (hv : vs[11]? = some v) : gm_Go E d 18 1 lv (.ref a :: st) h r ↔ gm_Go E d 18 4 lv (v :: st) h r := gr_rd m18 f18_1 rfl rfl rfl rfl (gf_get k0_102 hr hv)
theorem f18_4 : gm_ft 18 4 = some (.ifCond .eq 8, 3) := by decide +kernel
theorem r18_4 {E : Nat → Value} {d : Nat} {st : List Value} {h : gm_H} {r : gm_R × gm_H} {lv : List Value} {x : Int32} : gm_Go E d 18 4 lv (.int x :: st) h r ↔ (if x = 0 then gm_Go E d 18 12 lv st h r else gm_Go E d 18 7 lv st h r) := (gr_br m18 f18_4 rfl rfl rfl rfl).trans gr_if
theorem f18_7 : gm_ft 18 7 = some (.aload_n 0, 1) := by decide +kernel
theorem r18_7 {E : Nat → Value} {d : Nat} {st : List Value} {h : gm_H} {r : gm_R × gm_H} {a1 a2 a3 a4 a5 : Value} {x : Nat} : gm_Go E d 18 7 [.ref x, a1, a2, a3, a4, a5] st h r ↔ gm_Go E d 18 8 [.ref x, a1, a2, a3, a4, a5] (.ref x :: st) h r := gr_loc m18 f18_7 rfl rfl
theorem r18_7n {E : Nat → Value} {d : Nat} {st : List Value} {h : gm_H} {r : gm_R × gm_H} {a1 a2 a3 a4 a5 : Value}  : gm_Go E d 18 7 [.null, a1, a2, a3, a4, a5] st h r ↔ gm_Go E d 18 8 [.null, a1, a2, a3, a4, a5] (.null :: st) h r := gr_loc m18 f18_7 rfl rfl
theorem f18_8 : gm_ft 18 8 = some (.getfield 102, 3) := by decide +kernel
theorem r18_8 {E : Nat → Value} {d : Nat} {st : List Value} {h : gm_H} {r : gm_R × gm_H} {lv : List Value} {a : Nat} {vs : List Value} {v : Value} (hr : gm_rd h a = some (0, vs)) (hv : vs[11]? = some v) : gm_Go E d 18 8 lv (.ref a :: st) h r ↔ gm_Go E d 18 11 lv (v :: st) h r := gr_rd m18 f18_8 rfl rfl rfl rfl (gf_get k0_102 hr hv)
theorem f18_11 : gm_ft 18 11 = some (.ireturn, 1) := by decide +kernel
theorem r18_11 {E : Nat → Value} {d : Nat} {h : gm_H} {r : gm_R × gm_H} {lv : List Value} {x : Int32} : gm_Go E d 18 11 lv [.int x] h r ↔ r = (.inl (some (.int x)), h) := gr_ret m18 f18_11 rfl rfl rfl rfl rfl rfl rfl rfl (by unfold gm_rt; dsimp only; rw [if_pos ⟨rfl, rfl⟩])
theorem f18_12 : gm_ft 18 12 = some (.aload_n 0, 1) := by decide +kernel
theorem r18_12 {E : Nat → Value} {d : Nat} {st : List Value} {h : gm_H} {r : gm_R × gm_H} {a1 a2 a3 a4 a5 : Value} {x : Nat} : gm_Go E d 18 12 [.ref x, a1, a2, a3, a4, a5] st h r ↔ gm_Go E d 18 13 [.ref x, a1, a2, a3, a4, a5] (.ref x :: st) h r := gr_loc m18 f18_12 rfl rfl
theorem r18_12n {E : Nat → Value} {d : Nat} {st : List Value} {h : gm_H} {r : gm_R × gm_H} {a1 a2 a3 a4 a5 : Value}  : gm_Go E d 18 12 [.null, a1, a2, a3, a4, a5] st h r ↔ gm_Go E d 18 13 [.null, a1, a2, a3, a4, a5] (.null :: st) h r := gr_loc m18 f18_12 rfl rfl
theorem f18_13 : gm_ft 18 13 = some (.getfield 96, 3) := by decide +kernel
theorem r18_13 {E : Nat → Value} {d : Nat} {st : List Value} {h : gm_H} {r : gm_R × gm_H} {lv : List Value} {a : Nat} {vs : List Value} {v : Value} (hr : gm_rd h a = some (0, vs)) (hv : vs[7]? = some v) : gm_Go E d 18 13 lv (.ref a :: st) h r ↔ gm_Go E d 18 16 lv (v :: st) h r := gr_rd m18 f18_13 rfl rfl rfl rfl (gf_get k0_96 hr hv)
theorem f18_16 : gm_ft 18 16 = some (.istore_n 1, 1) := by decide +kernel
theorem r18_16 {E : Nat → Value} {d : Nat} {st : List Value} {h : gm_H} {r : gm_R × gm_H} {a0 a1 a2 a3 a4 a5 : Value} {x : Int32} : gm_Go E d 18 16 [a0, a1, a2, a3, a4, a5] (.int x :: st) h r ↔ gm_Go E d 18 17 [gm_k a0, .int x, a2, a3, a4, a5] st h r := gr_loc m18 f18_16 rfl rfl
theorem f18_17 : gm_ft 18 17 = some (.aload_n 0, 1) := by decide +kernel
theorem r18_17 {E : Nat → Value} {d : Nat} {st : List Value} {h : gm_H} {r : gm_R × gm_H} {a1 a2 a3 a4 a5 : Value} {x : Nat} : gm_Go E d 18 17 [.ref x, a1, a2, a3, a4, a5] st h r ↔ gm_Go E d 18 18 [.ref x, a1, a2, a3, a4, a5] (.ref x :: st) h r := gr_loc m18 f18_17 rfl rfl
theorem r18_17n {E : Nat → Value} {d : Nat} {st : List Value} {h : gm_H} {r : gm_R × gm_H} {a1 a2 a3 a4 a5 : Value}  : gm_Go E d 18 17 [.null, a1, a2, a3, a4, a5] st h r ↔ gm_Go E d 18 18 [.null, a1, a2, a3, a4, a5] (.null :: st) h r := gr_loc m18 f18_17 rfl rfl
theorem f18_18 : gm_ft 18 18 = some (.getfield 72, 3) := by decide +kernel
theorem r18_18 {E : Nat → Value} {d : Nat} {st : List Value} {h : gm_H} {r : gm_R × gm_H} {lv : List Value} {a : Nat} {vs : List Value} {v : Value} (hr : gm_rd h a = some (0, vs)) (hv : vs[9]? = some v) : gm_Go E d 18 18 lv (.ref a :: st) h r ↔ gm_Go E d 18 21 lv (v :: st) h r := gr_rd m18 f18_18 rfl rfl rfl rfl (gf_get k0_72 hr hv)
theorem f18_21 : gm_ft 18 21 = some (.istore_n 2, 1) := by decide +kernel
theorem r18_21 {E : Nat → Value} {d : Nat} {st : List Value} {h : gm_H} {r : gm_R × gm_H} {a0 a1 a2 a3 a4 a5 : Value} {x : Int32} : gm_Go E d 18 21 [a0, a1, a2, a3, a4, a5] (.int x :: st) h r ↔ gm_Go E d 18 22 [a0, gm_k a1, .int x, a3, a4, a5] st h r := gr_loc m18 f18_21 rfl rfl
theorem f18_22 : gm_ft 18 22 = some (.aload_n 0, 1) := by decide +kernel
theorem r18_22 {E : Nat → Value} {d : Nat} {st : List Value} {h : gm_H} {r : gm_R × gm_H} {a1 a2 a3 a4 a5 : Value} {x : Nat} : gm_Go E d 18 22 [.ref x, a1, a2, a3, a4, a5] st h r ↔ gm_Go E d 18 23 [.ref x, a1, a2, a3, a4, a5] (.ref x :: st) h r := gr_loc m18 f18_22 rfl rfl
theorem r18_22n {E : Nat → Value} {d : Nat} {st : List Value} {h : gm_H} {r : gm_R × gm_H} {a1 a2 a3 a4 a5 : Value}  : gm_Go E d 18 22 [.null, a1, a2, a3, a4, a5] st h r ↔ gm_Go E d 18 23 [.null, a1, a2, a3, a4, a5] (.null :: st) h r := gr_loc m18 f18_22 rfl rfl
theorem f18_23 : gm_ft 18 23 = some (.getfield 28, 3) := by decide +kernel
theorem r18_23 {E : Nat → Value} {d : Nat} {st : List Value} {h : gm_H} {r : gm_R × gm_H} {lv : List Value} {a : Nat} {vs : List Value} {v : Value} (hr : gm_rd h a = some (0, vs)) (hv : vs[10]? = some v) : gm_Go E d 18 23 lv (.ref a :: st) h r ↔ gm_Go E d 18 26 lv (v :: st) h r := gr_rd m18 f18_23 rfl rfl rfl rfl (gf_get k0_28 hr hv)
theorem f18_26 : gm_ft 18 26 = some (.getfield 110, 3) := by decide +kernel
theorem r18_26 {E : Nat → Value} {d : Nat} {st : List Value} {h : gm_H} {r : gm_R × gm_H} {lv : List Value} {a : Nat} {vs : List Value} {v : Value} (hr : gm_rd h a = some (2, vs)) (hv : vs[2]? = some v) : gm_Go E d 18 26 lv (.ref a :: st) h r ↔ gm_Go E d 18 29 lv (v :: st) h r := gr_rd m18 f18_26 rfl rfl rfl rfl (gf_get k0_110 hr hv)
theorem f18_29 : gm_ft 18 29 = some (.istore_n 3, 1) := by decide +kernel
theorem r18_29 {E : Nat → Value} {d : Nat} {st : List Value} {h : gm_H} {r : gm_R × gm_H} {a0 a1 a2 a3 a4 a5 : Value} {x : Int32} : gm_Go E d 18 29 [a0, a1, a2, a3, a4, a5] (.int x :: st) h r ↔ gm_Go E d 18 30 [a0, a1, gm_k a2, .int x, a4, a5] st h r := gr_loc m18 f18_29 rfl rfl
theorem f18_30 : gm_ft 18 30 = some (.aload_n 0, 1) := by decide +kernel
theorem r18_30 {E : Nat → Value} {d : Nat} {st : List Value} {h : gm_H} {r : gm_R × gm_H} {a1 a2 a3 a4 a5 : Value} {x : Nat} : gm_Go E d 18 30 [.ref x, a1, a2, a3, a4, a5] st h r ↔ gm_Go E d 18 31 [.ref x, a1, a2, a3, a4, a5] (.ref x :: st) h r := gr_loc m18 f18_30 rfl rfl
theorem r18_30n {E : Nat → Value} {d : Nat} {st : List Value} {h : gm_H} {r : gm_R × gm_H} {a1 a2 a3 a4 a5 : Value}  : gm_Go E d 18 30 [.null, a1, a2, a3, a4, a5] st h r ↔ gm_Go E d 18 31 [.null, a1, a2, a3, a4, a5] (.null :: st) h r := gr_loc m18 f18_30 rfl rfl
theorem f18_31 : gm_ft 18 31 = some (.getfield 28, 3) := by decide +kernel
theorem r18_31 {E : Nat → Value} {d : Nat} {st : List Value} {h : gm_H} {r : gm_R × gm_H} {lv : List Value} {a : Nat} {vs : List Value} {v : Value} (hr : gm_rd h a = some (0, vs)) (hv : vs[10]? = some v) : gm_Go E d 18 31 lv (.ref a :: st) h r ↔ gm_Go E d 18 34 lv (v :: st) h r := gr_rd m18 f18_31 rfl rfl rfl rfl (gf_get k0_28 hr hv)
theorem f18_34 : gm_ft 18 34 = some (.getfield 113, 3) := by decide +kernel
theorem r18_34 {E : Nat → Value} {d : Nat} {st : List Value} {h : gm_H} {r : gm_R × gm_H} {lv : List Value} {a : Nat} {vs : List Value} {v : Value} (hr : gm_rd h a = some (2, vs)) (hv : vs[3]? = some v) : gm_Go E d 18 34 lv (.ref a :: st) h r ↔ gm_Go E d 18 37 lv (v :: st) h r := gr_rd m18 f18_34 rfl rfl rfl rfl (gf_get k0_113 hr hv)
theorem f18_37 : gm_ft 18 37 = some (.istore 4, 2) := by decide +kernel
theorem r18_37 {E : Nat → Value} {d : Nat} {st : List Value} {h : gm_H} {r : gm_R × gm_H} {a0 a1 a2 a3 a4 a5 : Value} {x : Int32} : gm_Go E d 18 37 [a0, a1, a2, a3, a4, a5] (.int x :: st) h r ↔ gm_Go E d 18 39 [a0, a1, a2, gm_k a3, .int x, a5] st h r := gr_loc m18 f18_37 rfl rfl
theorem f18_39 : gm_ft 18 39 = some (.aload_n 0, 1) := by decide +kernel
theorem r18_39 {E : Nat → Value} {d : Nat} {st : List Value} {h : gm_H} {r : gm_R × gm_H} {a1 a2 a3 a4 a5 : Value} {x : Nat} : gm_Go E d 18 39 [.ref x, a1, a2, a3, a4, a5] st h r ↔ gm_Go E d 18 40 [.ref x, a1, a2, a3, a4, a5] (.ref x :: st) h r := gr_loc m18 f18_39 rfl rfl
theorem r18_39n {E : Nat → Value} {d : Nat} {st : List Value} {h : gm_H} {r : gm_R × gm_H} {a1 a2 a3 a4 a5 : Value}  : gm_Go E d 18 39 [.null, a1, a2, a3, a4, a5] st h r ↔ gm_Go E d 18 40 [.null, a1, a2, a3, a4, a5] (.null :: st) h r := gr_loc m18 f18_39 rfl rfl
theorem f18_40 : gm_ft 18 40 = some (.invokevirtual 116, 3) := by decide +kernel
theorem n18_40 {st : List Value} {h : gm_H} {E : Nat → Value} {lv : List Value} {a : Nat} (hs : (st.map fun v => v.category).sum ≤ 8) (he : (gm_en1 [.ref a]).length ≤ 1) {vs : List Value} (hr : gm_rd h a = some (0, vs)) : gm_next E 18 40 lv (.ref a :: st) h = some (.inr (.inl (0, 19, [.ref a], st))) := gn_call m18 f18_40 rfl rfl rfl rfl rfl rfl rfl (gc_virt (bs := []) (w := 194) rfl rfl rfl rfl hs he hr) (by decide)
theorem f18_43 : gm_ft 18 43 = some (.ireturn, 1) := by decide +kernel
theorem r18_43 {E : Nat → Value} {d : Nat} {h : gm_H} {r : gm_R × gm_H} {lv : List Value} {x : Int32} : gm_Go E d 18 43 lv [.int x] h r ↔ r = (.inl (some (.int x)), h) := gr_ret m18 f18_43 rfl rfl rfl rfl rfl rfl rfl rfl (by unfold gm_rt; dsimp only; rw [if_pos ⟨rfl, rfl⟩])
theorem f18_44 : gm_ft 18 44 = some (.astore 5, 2) := by decide +kernel
theorem r18_44 {E : Nat → Value} {d : Nat} {st : List Value} {h : gm_H} {r : gm_R × gm_H} {a0 a1 a2 a3 a4 a5 : Value} {x : Nat} : gm_Go E d 18 44 [a0, a1, a2, a3, a4, a5] (.ref x :: st) h r ↔ gm_Go E d 18 46 [a0, a1, a2, a3, gm_k a4, .ref x] st h r := gr_loc m18 f18_44 rfl rfl
theorem r18_44n {E : Nat → Value} {d : Nat} {st : List Value} {h : gm_H} {r : gm_R × gm_H} {a0 a1 a2 a3 a4 a5 : Value}  : gm_Go E d 18 44 [a0, a1, a2, a3, a4, a5] (.null :: st) h r ↔ gm_Go E d 18 46 [a0, a1, a2, a3, gm_k a4, .null] st h r := gr_loc m18 f18_44 rfl rfl
theorem f18_46 : gm_ft 18 46 = some (.aload_n 0, 1) := by decide +kernel
theorem r18_46 {E : Nat → Value} {d : Nat} {st : List Value} {h : gm_H} {r : gm_R × gm_H} {a1 a2 a3 a4 a5 : Value} {x : Nat} : gm_Go E d 18 46 [.ref x, a1, a2, a3, a4, a5] st h r ↔ gm_Go E d 18 47 [.ref x, a1, a2, a3, a4, a5] (.ref x :: st) h r := gr_loc m18 f18_46 rfl rfl
theorem r18_46n {E : Nat → Value} {d : Nat} {st : List Value} {h : gm_H} {r : gm_R × gm_H} {a1 a2 a3 a4 a5 : Value}  : gm_Go E d 18 46 [.null, a1, a2, a3, a4, a5] st h r ↔ gm_Go E d 18 47 [.null, a1, a2, a3, a4, a5] (.null :: st) h r := gr_loc m18 f18_46 rfl rfl
theorem f18_47 : gm_ft 18 47 = some (.iload_n 1, 1) := by decide +kernel
theorem r18_47 {E : Nat → Value} {d : Nat} {st : List Value} {h : gm_H} {r : gm_R × gm_H} {a0 a2 a3 a4 a5 : Value} {x : Int32} : gm_Go E d 18 47 [a0, .int x, a2, a3, a4, a5] st h r ↔ gm_Go E d 18 48 [a0, .int x, a2, a3, a4, a5] (.int x :: st) h r := gr_loc m18 f18_47 rfl rfl
theorem f18_48 : gm_ft 18 48 = some (.putfield 96, 3) := by decide +kernel
theorem r18_48 {E : Nat → Value} {d : Nat} {st : List Value} {h : gm_H} {r : gm_R × gm_H} {lv : List Value} {a : Nat} {vs : List Value} {v : Value} (hr : gm_rd h a = some (0, vs)) (hk : 7 < vs.length) (hn : narrow (gm_ty 0 7) v = v ∧ fits (gm_ty 0 7) v = true) : gm_Go E d 18 48 lv (v :: .ref a :: st) h r ↔ gm_Go E d 18 51 lv st (gm_wr h a (0, vs.set 7 v)) r := gr_wr m18 f18_48 rfl rfl rfl rfl rfl (gf_put k0_96 hr (by decide) hk hn (by decide))
theorem f18_51 : gm_ft 18 51 = some (.aload_n 0, 1) := by decide +kernel
theorem r18_51 {E : Nat → Value} {d : Nat} {st : List Value} {h : gm_H} {r : gm_R × gm_H} {a1 a2 a3 a4 a5 : Value} {x : Nat} : gm_Go E d 18 51 [.ref x, a1, a2, a3, a4, a5] st h r ↔ gm_Go E d 18 52 [.ref x, a1, a2, a3, a4, a5] (.ref x :: st) h r := gr_loc m18 f18_51 rfl rfl
theorem r18_51n {E : Nat → Value} {d : Nat} {st : List Value} {h : gm_H} {r : gm_R × gm_H} {a1 a2 a3 a4 a5 : Value}  : gm_Go E d 18 51 [.null, a1, a2, a3, a4, a5] st h r ↔ gm_Go E d 18 52 [.null, a1, a2, a3, a4, a5] (.null :: st) h r := gr_loc m18 f18_51 rfl rfl
theorem f18_52 : gm_ft 18 52 = some (.iload_n 2, 1) := by decide +kernel
theorem r18_52 {E : Nat → Value} {d : Nat} {st : List Value} {h : gm_H} {r : gm_R × gm_H} {a0 a1 a3 a4 a5 : Value} {x : Int32} : gm_Go E d 18 52 [a0, a1, .int x, a3, a4, a5] st h r ↔ gm_Go E d 18 53 [a0, a1, .int x, a3, a4, a5] (.int x :: st) h r := gr_loc m18 f18_52 rfl rfl
theorem f18_53 : gm_ft 18 53 = some (.putfield 72, 3) := by decide +kernel
theorem r18_53 {E : Nat → Value} {d : Nat} {st : List Value} {h : gm_H} {r : gm_R × gm_H} {lv : List Value} {a : Nat} {vs : List Value} {v : Value} (hr : gm_rd h a = some (0, vs)) (hk : 9 < vs.length) (hn : narrow (gm_ty 0 9) v = v ∧ fits (gm_ty 0 9) v = true) : gm_Go E d 18 53 lv (v :: .ref a :: st) h r ↔ gm_Go E d 18 56 lv st (gm_wr h a (0, vs.set 9 v)) r := gr_wr m18 f18_53 rfl rfl rfl rfl rfl (gf_put k0_72 hr (by decide) hk hn (by decide))
theorem f18_56 : gm_ft 18 56 = some (.aload_n 0, 1) := by decide +kernel
theorem r18_56 {E : Nat → Value} {d : Nat} {st : List Value} {h : gm_H} {r : gm_R × gm_H} {a1 a2 a3 a4 a5 : Value} {x : Nat} : gm_Go E d 18 56 [.ref x, a1, a2, a3, a4, a5] st h r ↔ gm_Go E d 18 57 [.ref x, a1, a2, a3, a4, a5] (.ref x :: st) h r := gr_loc m18 f18_56 rfl rfl
theorem r18_56n {E : Nat → Value} {d : Nat} {st : List Value} {h : gm_H} {r : gm_R × gm_H} {a1 a2 a3 a4 a5 : Value}  : gm_Go E d 18 56 [.null, a1, a2, a3, a4, a5] st h r ↔ gm_Go E d 18 57 [.null, a1, a2, a3, a4, a5] (.null :: st) h r := gr_loc m18 f18_56 rfl rfl
theorem f18_57 : gm_ft 18 57 = some (.getfield 28, 3) := by decide +kernel
theorem r18_57 {E : Nat → Value} {d : Nat} {st : List Value} {h : gm_H} {r : gm_R × gm_H} {lv : List Value} {a : Nat} {vs : List Value} {v : Value} (hr : gm_rd h a = some (0, vs)) (hv : vs[10]? = some v) : gm_Go E d 18 57 lv (.ref a :: st) h r ↔ gm_Go E d 18 60 lv (v :: st) h r := gr_rd m18 f18_57 rfl rfl rfl rfl (gf_get k0_28 hr hv)
theorem f18_60 : gm_ft 18 60 = some (.iload_n 3, 1) := by decide +kernel
theorem r18_60 {E : Nat → Value} {d : Nat} {st : List Value} {h : gm_H} {r : gm_R × gm_H} {a0 a1 a2 a4 a5 : Value} {x : Int32} : gm_Go E d 18 60 [a0, a1, a2, .int x, a4, a5] st h r ↔ gm_Go E d 18 61 [a0, a1, a2, .int x, a4, a5] (.int x :: st) h r := gr_loc m18 f18_60 rfl rfl
theorem f18_61 : gm_ft 18 61 = some (.iload 4, 2) := by decide +kernel
theorem r18_61 {E : Nat → Value} {d : Nat} {st : List Value} {h : gm_H} {r : gm_R × gm_H} {a0 a1 a2 a3 a5 : Value} {x : Int32} : gm_Go E d 18 61 [a0, a1, a2, a3, .int x, a5] st h r ↔ gm_Go E d 18 63 [a0, a1, a2, a3, .int x, a5] (.int x :: st) h r := gr_loc m18 f18_61 rfl rfl
theorem f18_63 : gm_ft 18 63 = some (.invokevirtual 99, 3) := by decide +kernel
theorem n18_63 {st : List Value} {h : gm_H} {E : Nat → Value} {lv : List Value} {b0 b1 : Value} {a : Nat} (hs : (st.map fun v => v.category).sum ≤ 8) (he : (gm_en1 [.ref a, b0, b1]).length ≤ 3) {vs : List Value} (hr : gm_rd h a = some (2, vs)) : gm_next E 18 63 lv (b1 :: b0 :: .ref a :: st) h = some (.inr (.inl (0, 16, [.ref a, b0, b1], st))) := gn_call m18 f18_63 rfl rfl rfl rfl rfl rfl rfl (gc_virt (bs := [b1, b0]) (w := 180) rfl rfl rfl rfl hs he hr) (by decide)
theorem f18_66 : gm_ft 18 66 = some (.aload_n 0, 1) := by decide +kernel
theorem r18_66 {E : Nat → Value} {d : Nat} {st : List Value} {h : gm_H} {r : gm_R × gm_H} {a1 a2 a3 a4 a5 : Value} {x : Nat} : gm_Go E d 18 66 [.ref x, a1, a2, a3, a4, a5] st h r ↔ gm_Go E d 18 67 [.ref x, a1, a2, a3, a4, a5] (.ref x :: st) h r := gr_loc m18 f18_66 rfl rfl
theorem r18_66n {E : Nat → Value} {d : Nat} {st : List Value} {h : gm_H} {r : gm_R × gm_H} {a1 a2 a3 a4 a5 : Value}  : gm_Go E d 18 66 [.null, a1, a2, a3, a4, a5] st h r ↔ gm_Go E d 18 67 [.null, a1, a2, a3, a4, a5] (.null :: st) h r := gr_loc m18 f18_66 rfl rfl
theorem f18_67 : gm_ft 18 67 = some (.getfield 122, 3) := by decide +kernel
theorem r18_67 {E : Nat → Value} {d : Nat} {st : List Value} {h : gm_H} {r : gm_R × gm_H} {lv : List Value} {a : Nat} {vs : List Value} {v : Value} (hr : gm_rd h a = some (0, vs)) (hv : vs[12]? = some v) : gm_Go E d 18 67 lv (.ref a :: st) h r ↔ gm_Go E d 18 70 lv (v :: st) h r := gr_rd m18 f18_67 rfl rfl rfl rfl (gf_get k0_122 hr hv)
theorem f18_70 : gm_ft 18 70 = some (.bipush (-7), 2) := by decide +kernel
theorem r18_70 {E : Nat → Value} {d : Nat} {st : List Value} {h : gm_H} {r : gm_R × gm_H} {lv : List Value} : gm_Go E d 18 70 lv st h r ↔ gm_Go E d 18 72 lv (.int (-7 : Int32) :: st) h r := gr_pure m18 f18_70 rfl
theorem f18_72 : gm_ft 18 72 = some (.if_icmp .eq 11, 3) := by decide +kernel
theorem r18_72 {E : Nat → Value} {d : Nat} {st : List Value} {h : gm_H} {r : gm_R × gm_H} {lv : List Value} {x y : Int32} : gm_Go E d 18 72 lv (.int y :: .int x :: st) h r ↔ (if x = y then gm_Go E d 18 83 lv st h r else gm_Go E d 18 75 lv st h r) := (gr_br m18 f18_72 rfl rfl rfl rfl).trans gr_if
theorem f18_75 : gm_ft 18 75 = some (.aload_n 0, 1) := by decide +kernel
theorem r18_75 {E : Nat → Value} {d : Nat} {st : List Value} {h : gm_H} {r : gm_R × gm_H} {a1 a2 a3 a4 a5 : Value} {x : Nat} : gm_Go E d 18 75 [.ref x, a1, a2, a3, a4, a5] st h r ↔ gm_Go E d 18 76 [.ref x, a1, a2, a3, a4, a5] (.ref x :: st) h r := gr_loc m18 f18_75 rfl rfl
theorem r18_75n {E : Nat → Value} {d : Nat} {st : List Value} {h : gm_H} {r : gm_R × gm_H} {a1 a2 a3 a4 a5 : Value}  : gm_Go E d 18 75 [.null, a1, a2, a3, a4, a5] st h r ↔ gm_Go E d 18 76 [.null, a1, a2, a3, a4, a5] (.null :: st) h r := gr_loc m18 f18_75 rfl rfl
theorem f18_76 : gm_ft 18 76 = some (.aload_n 0, 1) := by decide +kernel
theorem r18_76 {E : Nat → Value} {d : Nat} {st : List Value} {h : gm_H} {r : gm_R × gm_H} {a1 a2 a3 a4 a5 : Value} {x : Nat} : gm_Go E d 18 76 [.ref x, a1, a2, a3, a4, a5] st h r ↔ gm_Go E d 18 77 [.ref x, a1, a2, a3, a4, a5] (.ref x :: st) h r := gr_loc m18 f18_76 rfl rfl
theorem r18_76n {E : Nat → Value} {d : Nat} {st : List Value} {h : gm_H} {r : gm_R × gm_H} {a1 a2 a3 a4 a5 : Value}  : gm_Go E d 18 76 [.null, a1, a2, a3, a4, a5] st h r ↔ gm_Go E d 18 77 [.null, a1, a2, a3, a4, a5] (.null :: st) h r := gr_loc m18 f18_76 rfl rfl
theorem f18_77 : gm_ft 18 77 = some (.getfield 122, 3) := by decide +kernel
theorem r18_77 {E : Nat → Value} {d : Nat} {st : List Value} {h : gm_H} {r : gm_R × gm_H} {lv : List Value} {a : Nat} {vs : List Value} {v : Value} (hr : gm_rd h a = some (0, vs)) (hv : vs[12]? = some v) : gm_Go E d 18 77 lv (.ref a :: st) h r ↔ gm_Go E d 18 80 lv (v :: st) h r := gr_rd m18 f18_77 rfl rfl rfl rfl (gf_get k0_122 hr hv)
theorem f18_80 : gm_ft 18 80 = some (.putfield 102, 3) := by decide +kernel
theorem r18_80 {E : Nat → Value} {d : Nat} {st : List Value} {h : gm_H} {r : gm_R × gm_H} {lv : List Value} {a : Nat} {vs : List Value} {v : Value} (hr : gm_rd h a = some (0, vs)) (hk : 11 < vs.length) (hn : narrow (gm_ty 0 11) v = v ∧ fits (gm_ty 0 11) v = true) : gm_Go E d 18 80 lv (v :: .ref a :: st) h r ↔ gm_Go E d 18 83 lv st (gm_wr h a (0, vs.set 11 v)) r := gr_wr m18 f18_80 rfl rfl rfl rfl rfl (gf_put k0_102 hr (by decide) hk hn (by decide))
theorem f18_83 : gm_ft 18 83 = some (.aload_n 0, 1) := by decide +kernel
theorem r18_83 {E : Nat → Value} {d : Nat} {st : List Value} {h : gm_H} {r : gm_R × gm_H} {a1 a2 a3 a4 a5 : Value} {x : Nat} : gm_Go E d 18 83 [.ref x, a1, a2, a3, a4, a5] st h r ↔ gm_Go E d 18 84 [.ref x, a1, a2, a3, a4, a5] (.ref x :: st) h r := gr_loc m18 f18_83 rfl rfl
theorem r18_83n {E : Nat → Value} {d : Nat} {st : List Value} {h : gm_H} {r : gm_R × gm_H} {a1 a2 a3 a4 a5 : Value}  : gm_Go E d 18 83 [.null, a1, a2, a3, a4, a5] st h r ↔ gm_Go E d 18 84 [.null, a1, a2, a3, a4, a5] (.null :: st) h r := gr_loc m18 f18_83 rfl rfl
theorem f18_84 : gm_ft 18 84 = some (.getfield 122, 3) := by decide +kernel
theorem r18_84 {E : Nat → Value} {d : Nat} {st : List Value} {h : gm_H} {r : gm_R × gm_H} {lv : List Value} {a : Nat} {vs : List Value} {v : Value} (hr : gm_rd h a = some (0, vs)) (hv : vs[12]? = some v) : gm_Go E d 18 84 lv (.ref a :: st) h r ↔ gm_Go E d 18 87 lv (v :: st) h r := gr_rd m18 f18_84 rfl rfl rfl rfl (gf_get k0_122 hr hv)
theorem f18_87 : gm_ft 18 87 = some (.ireturn, 1) := by decide +kernel
theorem r18_87 {E : Nat → Value} {d : Nat} {h : gm_H} {r : gm_R × gm_H} {lv : List Value} {x : Int32} : gm_Go E d 18 87 lv [.int x] h r ↔ r = (.inl (some (.int x)), h) := gr_ret m18 f18_87 rfl rfl rfl rfl rfl rfl rfl rfl (by unfold gm_rt; dsimp only; rw [if_pos ⟨rfl, rfl⟩])
/-! GraphReader.readOutermost()I -/
theorem m19 : gm_mt[19]? = some (⟨"GraphReader", "readOutermost", "()I"⟩, prog_1_method_31_code, 1, (some .int), [], 0, 1) := rfl
theorem f19_0 : gm_ft 19 0 = some (.aload_n 0, 1) := by decide +kernel
theorem r19_0 {E : Nat → Value} {d : Nat} {st : List Value} {h : gm_H} {r : gm_R × gm_H}  {x : Nat} : gm_Go E d 19 0 [.ref x] st h r ↔ gm_Go E d 19 1 [.ref x] (.ref x :: st) h r := gr_loc m19 f19_0 rfl rfl
theorem r19_0n {E : Nat → Value} {d : Nat} {st : List Value} {h : gm_H} {r : gm_R × gm_H}   : gm_Go E d 19 0 [.null] st h r ↔ gm_Go E d 19 1 [.null] (.null :: st) h r := gr_loc m19 f19_0 rfl rfl
theorem f19_1 : gm_ft 19 1 = some (.iconst 1, 1) := by decide +kernel
theorem r19_1 {E : Nat → Value} {d : Nat} {st : List Value} {h : gm_H} {r : gm_R × gm_H} {lv : List Value} : gm_Go E d 19 1 lv st h r ↔ gm_Go E d 19 2 lv (.int (1 : Int32) :: st) h r := gr_pure m19 f19_1 rfl
theorem f19_2 : gm_ft 19 2 = some (.invokevirtual 191, 3) := by decide +kernel
theorem n19_2 {st : List Value} {h : gm_H} {E : Nat → Value} {lv : List Value} {b0 : Value} {a : Nat} (hs : (st.map fun v => v.category).sum ≤ 8) (he : (gm_en1 [.ref a, b0]).length ≤ 2) {vs : List Value} (hr : gm_rd h a = some (0, vs)) : gm_next E 19 2 lv (b0 :: .ref a :: st) h = some (.inr (.inl (0, 20, [.ref a, b0], st))) := gn_call m19 f19_2 rfl rfl rfl rfl rfl rfl rfl (gc_virt (bs := [b0]) (w := 198) rfl rfl rfl rfl hs he hr) (by decide)
theorem f19_5 : gm_ft 19 5 = some (.aload_n 0, 1) := by decide +kernel
theorem r19_5 {E : Nat → Value} {d : Nat} {st : List Value} {h : gm_H} {r : gm_R × gm_H}  {x : Nat} : gm_Go E d 19 5 [.ref x] st h r ↔ gm_Go E d 19 6 [.ref x] (.ref x :: st) h r := gr_loc m19 f19_5 rfl rfl
theorem r19_5n {E : Nat → Value} {d : Nat} {st : List Value} {h : gm_H} {r : gm_R × gm_H}   : gm_Go E d 19 5 [.null] st h r ↔ gm_Go E d 19 6 [.null] (.null :: st) h r := gr_loc m19 f19_5 rfl rfl
theorem f19_6 : gm_ft 19 6 = some (.getfield 96, 3) := by decide +kernel
theorem r19_6 {E : Nat → Value} {d : Nat} {st : List Value} {h : gm_H} {r : gm_R × gm_H} {lv : List Value} {a : Nat} {vs : List Value} {v : Value} (hr : gm_rd h a = some (0, vs)) (hv : vs[7]? = some v) : gm_Go E d 19 6 lv (.ref a :: st) h r ↔ gm_Go E d 19 9 lv (v :: st) h r := gr_rd m19 f19_6 rfl rfl rfl rfl (gf_get k0_96 hr hv)
theorem f19_9 : gm_ft 19 9 = some (.aload_n 0, 1) := by decide +kernel
theorem r19_9 {E : Nat → Value} {d : Nat} {st : List Value} {h : gm_H} {r : gm_R × gm_H}  {x : Nat} : gm_Go E d 19 9 [.ref x] st h r ↔ gm_Go E d 19 10 [.ref x] (.ref x :: st) h r := gr_loc m19 f19_9 rfl rfl
theorem r19_9n {E : Nat → Value} {d : Nat} {st : List Value} {h : gm_H} {r : gm_R × gm_H}   : gm_Go E d 19 9 [.null] st h r ↔ gm_Go E d 19 10 [.null] (.null :: st) h r := gr_loc m19 f19_9 rfl rfl
theorem f19_10 : gm_ft 19 10 = some (.getfield 93, 3) := by decide +kernel
theorem r19_10 {E : Nat → Value} {d : Nat} {st : List Value} {h : gm_H} {r : gm_R × gm_H} {lv : List Value} {a : Nat} {vs : List Value} {v : Value} (hr : gm_rd h a = some (0, vs)) (hv : vs[6]? = some v) : gm_Go E d 19 10 lv (.ref a :: st) h r ↔ gm_Go E d 19 13 lv (v :: st) h r := gr_rd m19 f19_10 rfl rfl rfl rfl (gf_get k0_93 hr hv)
theorem f19_13 : gm_ft 19 13 = some (.if_icmp .ge 51, 3) := by decide +kernel
theorem r19_13 {E : Nat → Value} {d : Nat} {st : List Value} {h : gm_H} {r : gm_R × gm_H} {lv : List Value} {x y : Int32} : gm_Go E d 19 13 lv (.int y :: .int x :: st) h r ↔ (if y ≤ x then gm_Go E d 19 64 lv st h r else gm_Go E d 19 16 lv st h r) := (gr_br m19 f19_13 rfl rfl rfl rfl).trans gr_if
theorem f19_16 : gm_ft 19 16 = some (.aload_n 0, 1) := by decide +kernel
theorem r19_16 {E : Nat → Value} {d : Nat} {st : List Value} {h : gm_H} {r : gm_R × gm_H}  {x : Nat} : gm_Go E d 19 16 [.ref x] st h r ↔ gm_Go E d 19 17 [.ref x] (.ref x :: st) h r := gr_loc m19 f19_16 rfl rfl
theorem r19_16n {E : Nat → Value} {d : Nat} {st : List Value} {h : gm_H} {r : gm_R × gm_H}   : gm_Go E d 19 16 [.null] st h r ↔ gm_Go E d 19 17 [.null] (.null :: st) h r := gr_loc m19 f19_16 rfl rfl
theorem f19_17 : gm_ft 19 17 = some (.getfield 15, 3) := by decide +kernel
theorem r19_17 {E : Nat → Value} {d : Nat} {st : List Value} {h : gm_H} {r : gm_R × gm_H} {lv : List Value} {a : Nat} {vs : List Value} {v : Value} (hr : gm_rd h a = some (0, vs)) (hv : vs[5]? = some v) : gm_Go E d 19 17 lv (.ref a :: st) h r ↔ gm_Go E d 19 20 lv (v :: st) h r := gr_rd m19 f19_17 rfl rfl rfl rfl (gf_get k0_15 hr hv)
theorem f19_20 : gm_ft 19 20 = some (.aload_n 0, 1) := by decide +kernel
theorem r19_20 {E : Nat → Value} {d : Nat} {st : List Value} {h : gm_H} {r : gm_R × gm_H}  {x : Nat} : gm_Go E d 19 20 [.ref x] st h r ↔ gm_Go E d 19 21 [.ref x] (.ref x :: st) h r := gr_loc m19 f19_20 rfl rfl
theorem r19_20n {E : Nat → Value} {d : Nat} {st : List Value} {h : gm_H} {r : gm_R × gm_H}   : gm_Go E d 19 20 [.null] st h r ↔ gm_Go E d 19 21 [.null] (.null :: st) h r := gr_loc m19 f19_20 rfl rfl
theorem f19_21 : gm_ft 19 21 = some (.getfield 96, 3) := by decide +kernel
theorem r19_21 {E : Nat → Value} {d : Nat} {st : List Value} {h : gm_H} {r : gm_R × gm_H} {lv : List Value} {a : Nat} {vs : List Value} {v : Value} (hr : gm_rd h a = some (0, vs)) (hv : vs[7]? = some v) : gm_Go E d 19 21 lv (.ref a :: st) h r ↔ gm_Go E d 19 24 lv (v :: st) h r := gr_rd m19 f19_21 rfl rfl rfl rfl (gf_get k0_96 hr hv)
theorem f19_24 : gm_ft 19 24 = some (.baload, 1) := by decide +kernel
theorem r19_24 {E : Nat → Value} {d : Nat} {st : List Value} {h : gm_H} {r : gm_R × gm_H} {lv : List Value} {a k j : Nat} {vs : List Value} {v : Value} (hr : gm_rd h a = some (k, vs)) (hk : 100 ≤ k ∧ (fun t => t == 2 || t == 3) (k % 100) = true) (hj : j < 2 ^ 31) (hv : vs[j]? = some v) : gm_Go E d 19 24 lv (.int (nI j) :: .ref a :: st) h r ↔ gm_Go E d 19 25 lv (v :: st) h r := gr_rd m19 f19_24 rfl rfl rfl rfl (ga_ld (P := fun t => t == 2 || t == 3) hr hk hj hv)
theorem f19_25 : gm_ft 19 25 = some (.bipush 121, 2) := by decide +kernel
theorem r19_25 {E : Nat → Value} {d : Nat} {st : List Value} {h : gm_H} {r : gm_R × gm_H} {lv : List Value} : gm_Go E d 19 25 lv st h r ↔ gm_Go E d 19 27 lv (.int (121 : Int32) :: st) h r := gr_pure m19 f19_25 rfl
theorem f19_27 : gm_ft 19 27 = some (.if_icmp .ne 37, 3) := by decide +kernel
theorem r19_27 {E : Nat → Value} {d : Nat} {st : List Value} {h : gm_H} {r : gm_R × gm_H} {lv : List Value} {x y : Int32} : gm_Go E d 19 27 lv (.int y :: .int x :: st) h r ↔ (if x = y then gm_Go E d 19 30 lv st h r else gm_Go E d 19 64 lv st h r) := (gr_br m19 f19_27 rfl rfl rfl rfl).trans gr_ifn
theorem f19_30 : gm_ft 19 30 = some (.aload_n 0, 1) := by decide +kernel
theorem r19_30 {E : Nat → Value} {d : Nat} {st : List Value} {h : gm_H} {r : gm_R × gm_H}  {x : Nat} : gm_Go E d 19 30 [.ref x] st h r ↔ gm_Go E d 19 31 [.ref x] (.ref x :: st) h r := gr_loc m19 f19_30 rfl rfl
theorem r19_30n {E : Nat → Value} {d : Nat} {st : List Value} {h : gm_H} {r : gm_R × gm_H}   : gm_Go E d 19 30 [.null] st h r ↔ gm_Go E d 19 31 [.null] (.null :: st) h r := gr_loc m19 f19_30 rfl rfl
theorem f19_31 : gm_ft 19 31 = some (.getfield 28, 3) := by decide +kernel
theorem r19_31 {E : Nat → Value} {d : Nat} {st : List Value} {h : gm_H} {r : gm_R × gm_H} {lv : List Value} {a : Nat} {vs : List Value} {v : Value} (hr : gm_rd h a = some (0, vs)) (hv : vs[10]? = some v) : gm_Go E d 19 31 lv (.ref a :: st) h r ↔ gm_Go E d 19 34 lv (v :: st) h r := gr_rd m19 f19_31 rfl rfl rfl rfl (gf_get k0_28 hr hv)
theorem f19_34 : gm_ft 19 34 = some (.aload_n 0, 1) := by decide +kernel
theorem r19_34 {E : Nat → Value} {d : Nat} {st : List Value} {h : gm_H} {r : gm_R × gm_H}  {x : Nat} : gm_Go E d 19 34 [.ref x] st h r ↔ gm_Go E d 19 35 [.ref x] (.ref x :: st) h r := gr_loc m19 f19_34 rfl rfl
theorem r19_34n {E : Nat → Value} {d : Nat} {st : List Value} {h : gm_H} {r : gm_R × gm_H}   : gm_Go E d 19 34 [.null] st h r ↔ gm_Go E d 19 35 [.null] (.null :: st) h r := gr_loc m19 f19_34 rfl rfl
theorem f19_35 : gm_ft 19 35 = some (.getfield 28, 3) := by decide +kernel
theorem r19_35 {E : Nat → Value} {d : Nat} {st : List Value} {h : gm_H} {r : gm_R × gm_H} {lv : List Value} {a : Nat} {vs : List Value} {v : Value} (hr : gm_rd h a = some (0, vs)) (hv : vs[10]? = some v) : gm_Go E d 19 35 lv (.ref a :: st) h r ↔ gm_Go E d 19 38 lv (v :: st) h r := gr_rd m19 f19_35 rfl rfl rfl rfl (gf_get k0_28 hr hv)
theorem f19_38 : gm_ft 19 38 = some (.getfield 113, 3) := by decide +kernel
theorem r19_38 {E : Nat → Value} {d : Nat} {st : List Value} {h : gm_H} {r : gm_R × gm_H} {lv : List Value} {a : Nat} {vs : List Value} {v : Value} (hr : gm_rd h a = some (2, vs)) (hv : vs[3]? = some v) : gm_Go E d 19 38 lv (.ref a :: st) h r ↔ gm_Go E d 19 41 lv (v :: st) h r := gr_rd m19 f19_38 rfl rfl rfl rfl (gf_get k0_113 hr hv)
theorem f19_41 : gm_ft 19 41 = some (.aload_n 0, 1) := by decide +kernel
theorem r19_41 {E : Nat → Value} {d : Nat} {st : List Value} {h : gm_H} {r : gm_R × gm_H}  {x : Nat} : gm_Go E d 19 41 [.ref x] st h r ↔ gm_Go E d 19 42 [.ref x] (.ref x :: st) h r := gr_loc m19 f19_41 rfl rfl
theorem r19_41n {E : Nat → Value} {d : Nat} {st : List Value} {h : gm_H} {r : gm_R × gm_H}   : gm_Go E d 19 41 [.null] st h r ↔ gm_Go E d 19 42 [.null] (.null :: st) h r := gr_loc m19 f19_41 rfl rfl
theorem f19_42 : gm_ft 19 42 = some (.getfield 28, 3) := by decide +kernel
theorem r19_42 {E : Nat → Value} {d : Nat} {st : List Value} {h : gm_H} {r : gm_R × gm_H} {lv : List Value} {a : Nat} {vs : List Value} {v : Value} (hr : gm_rd h a = some (0, vs)) (hv : vs[10]? = some v) : gm_Go E d 19 42 lv (.ref a :: st) h r ↔ gm_Go E d 19 45 lv (v :: st) h r := gr_rd m19 f19_42 rfl rfl rfl rfl (gf_get k0_28 hr hv)
theorem f19_45 : gm_ft 19 45 = some (.getfield 113, 3) := by decide +kernel
theorem r19_45 {E : Nat → Value} {d : Nat} {st : List Value} {h : gm_H} {r : gm_R × gm_H} {lv : List Value} {a : Nat} {vs : List Value} {v : Value} (hr : gm_rd h a = some (2, vs)) (hv : vs[3]? = some v) : gm_Go E d 19 45 lv (.ref a :: st) h r ↔ gm_Go E d 19 48 lv (v :: st) h r := gr_rd m19 f19_45 rfl rfl rfl rfl (gf_get k0_113 hr hv)
theorem f19_48 : gm_ft 19 48 = some (.invokevirtual 99, 3) := by decide +kernel
theorem n19_48 {st : List Value} {h : gm_H} {E : Nat → Value} {lv : List Value} {b0 b1 : Value} {a : Nat} (hs : (st.map fun v => v.category).sum ≤ 8) (he : (gm_en1 [.ref a, b0, b1]).length ≤ 3) {vs : List Value} (hr : gm_rd h a = some (2, vs)) : gm_next E 19 48 lv (b1 :: b0 :: .ref a :: st) h = some (.inr (.inl (0, 16, [.ref a, b0, b1], st))) := gn_call m19 f19_48 rfl rfl rfl rfl rfl rfl rfl (gc_virt (bs := [b1, b0]) (w := 180) rfl rfl rfl rfl hs he hr) (by decide)
theorem f19_51 : gm_ft 19 51 = some (.aload_n 0, 1) := by decide +kernel
theorem r19_51 {E : Nat → Value} {d : Nat} {st : List Value} {h : gm_H} {r : gm_R × gm_H}  {x : Nat} : gm_Go E d 19 51 [.ref x] st h r ↔ gm_Go E d 19 52 [.ref x] (.ref x :: st) h r := gr_loc m19 f19_51 rfl rfl
theorem r19_51n {E : Nat → Value} {d : Nat} {st : List Value} {h : gm_H} {r : gm_R × gm_H}   : gm_Go E d 19 51 [.null] st h r ↔ gm_Go E d 19 52 [.null] (.null :: st) h r := gr_loc m19 f19_51 rfl rfl
theorem f19_52 : gm_ft 19 52 = some (.dup, 1) := by decide +kernel
theorem r19_52 {E : Nat → Value} {d : Nat} {st : List Value} {h : gm_H} {r : gm_R × gm_H} {lv : List Value} {a : Nat} : gm_Go E d 19 52 lv (.ref a :: st) h r ↔ gm_Go E d 19 53 lv (.ref a :: .ref a :: st) h r := gr_pure m19 f19_52 rfl
theorem r19_52i {E : Nat → Value} {d : Nat} {st : List Value} {h : gm_H} {r : gm_R × gm_H} {lv : List Value} {x : Int32} : gm_Go E d 19 52 lv (.int x :: st) h r ↔ gm_Go E d 19 53 lv (.int x :: .int x :: st) h r := gr_pure m19 f19_52 rfl
theorem f19_53 : gm_ft 19 53 = some (.getfield 96, 3) := by decide +kernel
theorem r19_53 {E : Nat → Value} {d : Nat} {st : List Value} {h : gm_H} {r : gm_R × gm_H} {lv : List Value} {a : Nat} {vs : List Value} {v : Value} (hr : gm_rd h a = some (0, vs)) (hv : vs[7]? = some v) : gm_Go E d 19 53 lv (.ref a :: st) h r ↔ gm_Go E d 19 56 lv (v :: st) h r := gr_rd m19 f19_53 rfl rfl rfl rfl (gf_get k0_96 hr hv)
theorem f19_56 : gm_ft 19 56 = some (.iconst 1, 1) := by decide +kernel
theorem r19_56 {E : Nat → Value} {d : Nat} {st : List Value} {h : gm_H} {r : gm_R × gm_H} {lv : List Value} : gm_Go E d 19 56 lv st h r ↔ gm_Go E d 19 57 lv (.int (1 : Int32) :: st) h r := gr_pure m19 f19_56 rfl
theorem f19_57 : gm_ft 19 57 = some (.iadd, 1) := by decide +kernel
theorem r19_57 {E : Nat → Value} {d : Nat} {st : List Value} {h : gm_H} {r : gm_R × gm_H} {lv : List Value} {x y : Int32} : gm_Go E d 19 57 lv (.int y :: .int x :: st) h r ↔ gm_Go E d 19 58 lv (.int (x + y) :: st) h r := gr_pure m19 f19_57 rfl
theorem f19_58 : gm_ft 19 58 = some (.putfield 96, 3) := by decide +kernel
theorem r19_58 {E : Nat → Value} {d : Nat} {st : List Value} {h : gm_H} {r : gm_R × gm_H} {lv : List Value} {a : Nat} {vs : List Value} {v : Value} (hr : gm_rd h a = some (0, vs)) (hk : 7 < vs.length) (hn : narrow (gm_ty 0 7) v = v ∧ fits (gm_ty 0 7) v = true) : gm_Go E d 19 58 lv (v :: .ref a :: st) h r ↔ gm_Go E d 19 61 lv st (gm_wr h a (0, vs.set 7 v)) r := gr_wr m19 f19_58 rfl rfl rfl rfl rfl (gf_put k0_96 hr (by decide) hk hn (by decide))
theorem f19_61 : gm_ft 19 61 = some (.goto (-56), 3) := by decide +kernel
theorem r19_61 {E : Nat → Value} {d : Nat} {st : List Value} {h : gm_H} {r : gm_R × gm_H} {lv : List Value} : gm_Go E d 19 61 lv st h r ↔ gm_Go E d 19 5 lv st h r := gr_brT m19 f19_61 rfl rfl rfl rfl
theorem f19_64 : gm_ft 19 64 = some (.aload_n 0, 1) := by decide +kernel
theorem r19_64 {E : Nat → Value} {d : Nat} {st : List Value} {h : gm_H} {r : gm_R × gm_H}  {x : Nat} : gm_Go E d 19 64 [.ref x] st h r ↔ gm_Go E d 19 65 [.ref x] (.ref x :: st) h r := gr_loc m19 f19_64 rfl rfl
theorem r19_64n {E : Nat → Value} {d : Nat} {st : List Value} {h : gm_H} {r : gm_R × gm_H}   : gm_Go E d 19 64 [.null] st h r ↔ gm_Go E d 19 65 [.null] (.null :: st) h r := gr_loc m19 f19_64 rfl rfl
theorem f19_65 : gm_ft 19 65 = some (.iconst 1, 1) := by decide +kernel
theorem r19_65 {E : Nat → Value} {d : Nat} {st : List Value} {h : gm_H} {r : gm_R × gm_H} {lv : List Value} : gm_Go E d 19 65 lv st h r ↔ gm_Go E d 19 66 lv (.int (1 : Int32) :: st) h r := gr_pure m19 f19_65 rfl
theorem f19_66 : gm_ft 19 66 = some (.invokevirtual 182, 3) := by decide +kernel
theorem n19_66 {st : List Value} {h : gm_H} {E : Nat → Value} {lv : List Value} {b0 : Value} {a : Nat} (hs : (st.map fun v => v.category).sum ≤ 8) (he : (gm_en1 [.ref a, b0]).length ≤ 2) {vs : List Value} (hr : gm_rd h a = some (0, vs)) : gm_next E 19 66 lv (b0 :: .ref a :: st) h = some (.inr (.inl (0, 23, [.ref a, b0], st))) := gn_call m19 f19_66 rfl rfl rfl rfl rfl rfl rfl (gc_virt (bs := [b0]) (w := 270) rfl rfl rfl rfl hs he hr) (by decide)
theorem f19_69 : gm_ft 19 69 = some (.ireturn, 1) := by decide +kernel
theorem r19_69 {E : Nat → Value} {d : Nat} {h : gm_H} {r : gm_R × gm_H} {lv : List Value} {x : Int32} : gm_Go E d 19 69 lv [.int x] h r ↔ r = (.inl (some (.int x)), h) := gr_ret m19 f19_69 rfl rfl rfl rfl rfl rfl rfl rfl (by unfold gm_rt; dsimp only; rw [if_pos ⟨rfl, rfl⟩])
/-! GraphReader.askRoom(I)V -/
theorem m20 : gm_mt[20]? = some (⟨"GraphReader", "askRoom", "(I)V"⟩, prog_1_method_29_code, 2, none, [], 0, 1) := rfl
theorem f20_0 : gm_ft 20 0 = some (.iload_n 1, 1) := by decide +kernel
theorem r20_0 {E : Nat → Value} {d : Nat} {st : List Value} {h : gm_H} {r : gm_R × gm_H} {a0 : Value} {x : Int32} : gm_Go E d 20 0 [a0, .int x] st h r ↔ gm_Go E d 20 1 [a0, .int x] (.int x :: st) h r := gr_loc m20 f20_0 rfl rfl
theorem f20_1 : gm_ft 20 1 = some (.bipush 8, 2) := by decide +kernel
theorem r20_1 {E : Nat → Value} {d : Nat} {st : List Value} {h : gm_H} {r : gm_R × gm_H} {lv : List Value} : gm_Go E d 20 1 lv st h r ↔ gm_Go E d 20 3 lv (.int (8 : Int32) :: st) h r := gr_pure m20 f20_1 rfl
theorem f20_3 : gm_ft 20 3 = some (.if_icmp .gt 15, 3) := by decide +kernel
theorem r20_3 {E : Nat → Value} {d : Nat} {st : List Value} {h : gm_H} {r : gm_R × gm_H} {lv : List Value} {x y : Int32} : gm_Go E d 20 3 lv (.int y :: .int x :: st) h r ↔ (if y < x then gm_Go E d 20 18 lv st h r else gm_Go E d 20 6 lv st h r) := (gr_br m20 f20_3 rfl rfl rfl rfl).trans gr_if
theorem f20_6 : gm_ft 20 6 = some (.aload_n 0, 1) := by decide +kernel
theorem r20_6 {E : Nat → Value} {d : Nat} {st : List Value} {h : gm_H} {r : gm_R × gm_H} {a1 : Value} {x : Nat} : gm_Go E d 20 6 [.ref x, a1] st h r ↔ gm_Go E d 20 7 [.ref x, a1] (.ref x :: st) h r := gr_loc m20 f20_6 rfl rfl
theorem r20_6n {E : Nat → Value} {d : Nat} {st : List Value} {h : gm_H} {r : gm_R × gm_H} {a1 : Value}  : gm_Go E d 20 6 [.null, a1] st h r ↔ gm_Go E d 20 7 [.null, a1] (.null :: st) h r := gr_loc m20 f20_6 rfl rfl
theorem f20_7 : gm_ft 20 7 = some (.getfield 28, 3) := by decide +kernel
theorem r20_7 {E : Nat → Value} {d : Nat} {st : List Value} {h : gm_H} {r : gm_R × gm_H} {lv : List Value} {a : Nat} {vs : List Value} {v : Value} (hr : gm_rd h a = some (0, vs)) (hv : vs[10]? = some v) : gm_Go E d 20 7 lv (.ref a :: st) h r ↔ gm_Go E d 20 10 lv (v :: st) h r := gr_rd m20 f20_7 rfl rfl rfl rfl (gf_get k0_28 hr hv)
theorem f20_10 : gm_ft 20 10 = some (.invokevirtual 156, 3) := by decide +kernel
theorem n20_10 {st : List Value} {h : gm_H} {E : Nat → Value} {lv : List Value} {a : Nat} (hs : (st.map fun v => v.category).sum ≤ 8) (he : (gm_en1 [.ref a]).length ≤ 1) {vs : List Value} (hr : gm_rd h a = some (2, vs)) : gm_next E 20 10 lv (.ref a :: st) h = some (.inr (.inl (0, 21, [.ref a], st))) := gn_call m20 f20_10 rfl rfl rfl rfl rfl rfl rfl (gc_virt (bs := []) (w := 202) rfl rfl rfl rfl hs he hr) (by decide)
theorem f20_13 : gm_ft 20 13 = some (.bipush 60, 2) := by decide +kernel
theorem r20_13 {E : Nat → Value} {d : Nat} {st : List Value} {h : gm_H} {r : gm_R × gm_H} {lv : List Value} : gm_Go E d 20 13 lv st h r ↔ gm_Go E d 20 15 lv (.int (60 : Int32) :: st) h r := gr_pure m20 f20_13 rfl
theorem f20_15 : gm_ft 20 15 = some (.if_icmp .le 10, 3) := by decide +kernel
theorem r20_15 {E : Nat → Value} {d : Nat} {st : List Value} {h : gm_H} {r : gm_R × gm_H} {lv : List Value} {x y : Int32} : gm_Go E d 20 15 lv (.int y :: .int x :: st) h r ↔ (if x ≤ y then gm_Go E d 20 25 lv st h r else gm_Go E d 20 18 lv st h r) := (gr_br m20 f20_15 rfl rfl rfl rfl).trans gr_if
theorem f20_18 : gm_ft 20 18 = some (.aload_n 0, 1) := by decide +kernel
theorem r20_18 {E : Nat → Value} {d : Nat} {st : List Value} {h : gm_H} {r : gm_R × gm_H} {a1 : Value} {x : Nat} : gm_Go E d 20 18 [.ref x, a1] st h r ↔ gm_Go E d 20 19 [.ref x, a1] (.ref x :: st) h r := gr_loc m20 f20_18 rfl rfl
theorem r20_18n {E : Nat → Value} {d : Nat} {st : List Value} {h : gm_H} {r : gm_R × gm_H} {a1 : Value}  : gm_Go E d 20 18 [.null, a1] st h r ↔ gm_Go E d 20 19 [.null, a1] (.null :: st) h r := gr_loc m20 f20_18 rfl rfl
theorem f20_19 : gm_ft 20 19 = some (.bipush (-8), 2) := by decide +kernel
theorem r20_19 {E : Nat → Value} {d : Nat} {st : List Value} {h : gm_H} {r : gm_R × gm_H} {lv : List Value} : gm_Go E d 20 19 lv st h r ↔ gm_Go E d 20 21 lv (.int (-8 : Int32) :: st) h r := gr_pure m20 f20_19 rfl
theorem f20_21 : gm_ft 20 21 = some (.invokevirtual 160, 3) := by decide +kernel
theorem n20_21 {st : List Value} {h : gm_H} {E : Nat → Value} {lv : List Value} {b0 : Value} {a : Nat} (hs : (st.map fun v => v.category).sum ≤ 8) (he : (gm_en1 [.ref a, b0]).length ≤ 2) {vs : List Value} (hr : gm_rd h a = some (0, vs)) : gm_next E 20 21 lv (b0 :: .ref a :: st) h = some (.inr (.inl (0, 22, [.ref a, b0], st))) := gn_call m20 f20_21 rfl rfl rfl rfl rfl rfl rfl (gc_virt (bs := [b0]) (w := 206) rfl rfl rfl rfl hs he hr) (by decide)
theorem f20_24 : gm_ft 20 24 = some (.pop, 1) := by decide +kernel
theorem r20_24 {E : Nat → Value} {d : Nat} {st : List Value} {h : gm_H} {r : gm_R × gm_H} {lv : List Value} {x : Int32} : gm_Go E d 20 24 lv (.int x :: st) h r ↔ gm_Go E d 20 25 lv st h r := gr_pure m20 f20_24 rfl
theorem r20_24a {E : Nat → Value} {d : Nat} {st : List Value} {h : gm_H} {r : gm_R × gm_H} {lv : List Value} {a : Nat} : gm_Go E d 20 24 lv (.ref a :: st) h r ↔ gm_Go E d 20 25 lv st h r := gr_pure m20 f20_24 rfl
theorem r20_24n {E : Nat → Value} {d : Nat} {st : List Value} {h : gm_H} {r : gm_R × gm_H} {lv : List Value} : gm_Go E d 20 24 lv (.null :: st) h r ↔ gm_Go E d 20 25 lv st h r := gr_pure m20 f20_24 rfl
theorem f20_25 : gm_ft 20 25 = some (.return_, 1) := by decide +kernel
theorem r20_25 {E : Nat → Value} {d : Nat} {h : gm_H} {r : gm_R × gm_H} {lv : List Value} : gm_Go E d 20 25 lv [] h r ↔ r = (.inl none, h) := gr_ret m20 f20_25 rfl rfl rfl rfl rfl rfl rfl rfl rfl
