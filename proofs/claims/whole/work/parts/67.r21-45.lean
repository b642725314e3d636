/-! GraphReader$Handles.size()I -/
theorem m21 : gm_mt[21]? = some (⟨"GraphReader$Handles", "size", "()I"⟩, prog_3_method_2_code, 1, (some .int), [], 2, 1) := rfl
theorem f21_0 : gm_ft 21 0 = some (.aload_n 0, 1) := by decide +kernel
theorem r21_0 {E : Nat → Value} {d : Nat} {st : List Value} {h : gm_H} {r : gm_R × gm_H}  {x : Nat} : gm_Go E d 21 0 [.ref x] st h r ↔ gm_Go E d 21 1 [.ref x] (.ref x :: st) h r := gr_loc m21 f21_0 rfl rfl
theorem r21_0n {E : Nat → Value} {d : Nat} {st : List Value} {h : gm_H} {r : gm_R × gm_H}   : gm_Go E d 21 0 [.null] st h r ↔ gm_Go E d 21 1 [.null] (.null :: st) h r := gr_loc m21 f21_0 rfl rfl
theorem f21_1 : gm_ft 21 1 = some (.getfield 21, 3) := by decide +kernel
theorem r21_1 {E : Nat → Value} {d : Nat} {st : List Value} {h : gm_H} {r : gm_R × gm_H} {lv : List Value} {a : Nat} {vs : List Value} {v : Value} (hr : gm_rd h a = some (2, vs)) (hv : vs[3]? = some v) : gm_Go E d 21 1 lv (.ref a :: st) h r ↔ gm_Go E d 21 4 lv (v :: st) h r := gr_rd m21 f21_1 rfl rfl rfl rfl (gf_get k2_21 hr hv)
theorem f21_4 : gm_ft 21 4 = some (.aload_n 0, 1) := by decide +kernel
theorem r21_4 {E : Nat → Value} {d : Nat} {st : List Value} {h : gm_H} {r : gm_R × gm_H}  {x : Nat} : gm_Go E d 21 4 [.ref x] st h r ↔ gm_Go E d 21 5 [.ref x] (.ref x :: st) h r := gr_loc m21 f21_4 rfl rfl
theorem r21_4n {E : Nat → Value} {d : Nat} {st : List Value} {h : gm_H} {r : gm_R × gm_H}   : gm_Go E d 21 4 [.null] st h r ↔ gm_Go E d 21 5 [.null] (.null :: st) h r := gr_loc m21 f21_4 rfl rfl
theorem f21_5 : gm_ft 21 5 = some (.getfield 25, 3) := by decide +kernel
theorem r21_5 {E : Nat → Value} {d : Nat} {st : List Value} {h : gm_H} {r : gm_R × gm_H} {lv : List Value} {a : Nat} {vs : List Value} {v : Value} (hr : gm_rd h a = some (2, vs)) (hv : vs[2]? = some v) : gm_Go E d 21 5 lv (.ref a :: st) h r ↔ gm_Go E d 21 8 lv (v :: st) h r := gr_rd m21 f21_5 rfl rfl rfl rfl (gf_get k2_25 hr hv)
theorem f21_8 : gm_ft 21 8 = some (.isub, 1) := by decide +kernel
theorem r21_8 {E : Nat → Value} {d : Nat} {st : List Value} {h : gm_H} {r : gm_R × gm_H} {lv : List Value} {x y : Int32} : gm_Go E d 21 8 lv (.int y :: .int x :: st) h r ↔ gm_Go E d 21 9 lv (.int (x - y) :: st) h r := gr_pure m21 f21_8 rfl
theorem f21_9 : gm_ft 21 9 = some (.ireturn, 1) := by decide +kernel
theorem r21_9 {E : Nat → Value} {d : Nat} {h : gm_H} {r : gm_R × gm_H} {lv : List Value} {x : Int32} : gm_Go E d 21 9 lv [.int x] h r ↔ r = (.inl (some (.int x)), h) := gr_ret m21 f21_9 rfl rfl rfl rfl rfl rfl rfl rfl (by unfold gm_rt; dsimp only; rw [if_pos ⟨rfl, rfl⟩])
/-! GraphReader.fail(I)I -/
theorem m22 : gm_mt[22]? = some (⟨"GraphReader", "fail", "(I)I"⟩, prog_1_method_16_code, 2, (some .int), [], 0, 1) := rfl
theorem f22_0 : gm_ft 22 0 = some (.aload_n 0, 1) := by decide +kernel
theorem r22_0 {E : Nat → Value} {d : Nat} {st : List Value} {h : gm_H} {r : gm_R × gm_H} {a1 : Value} {x : Nat} : gm_Go E d 22 0 [.ref x, a1] st h r ↔ gm_Go E d 22 1 [.ref x, a1] (.ref x :: st) h r := gr_loc m22 f22_0 rfl rfl
theorem r22_0n {E : Nat → Value} {d : Nat} {st : List Value} {h : gm_H} {r : gm_R × gm_H} {a1 : Value}  : gm_Go E d 22 0 [.null, a1] st h r ↔ gm_Go E d 22 1 [.null, a1] (.null :: st) h r := gr_loc m22 f22_0 rfl rfl
theorem f22_1 : gm_ft 22 1 = some (.iload_n 1, 1) := by decide +kernel
theorem r22_1 {E : Nat → Value} {d : Nat} {st : List Value} {h : gm_H} {r : gm_R × gm_H} {a0 : Value} {x : Int32} : gm_Go E d 22 1 [a0, .int x] st h r ↔ gm_Go E d 22 2 [a0, .int x] (.int x :: st) h r := gr_loc m22 f22_1 rfl rfl
theorem f22_2 : gm_ft 22 2 = some (.putfield 122, 3) := by decide +kernel
theorem r22_2 {E : Nat → Value} {d : Nat} {st : List Value} {h : gm_H} {r : gm_R × gm_H} {lv : List Value} {a : Nat} {vs : List Value} {v : Value} (hr : gm_rd h a = some (0, vs)) (hk : 12 < vs.length) (hn : narrow (gm_ty 0 12) v = v ∧ fits (gm_ty 0 12) v = true) : gm_Go E d 22 2 lv (v :: .ref a :: st) h r ↔ gm_Go E d 22 5 lv st (gm_wr h a (0, vs.set 12 v)) r := gr_wr m22 f22_2 rfl rfl rfl rfl rfl (gf_put k0_122 hr (by decide) hk hn (by decide))
theorem f22_5 : gm_ft 22 5 = some (.new 120, 3) := by decide +kernel
theorem f22_8 : gm_ft 22 8 = some (.dup, 1) := by decide +kernel
theorem r22_8 {E : Nat → Value} {d : Nat} {st : List Value} {h : gm_H} {r : gm_R × gm_H} {lv : List Value} {a : Nat} : gm_Go E d 22 8 lv (.ref a :: st) h r ↔ gm_Go E d 22 9 lv (.ref a :: .ref a :: st) h r := gr_pure m22 f22_8 rfl
theorem r22_8i {E : Nat → Value} {d : Nat} {st : List Value} {h : gm_H} {r : gm_R × gm_H} {lv : List Value} {x : Int32} : gm_Go E d 22 8 lv (.int x :: st) h r ↔ gm_Go E d 22 9 lv (.int x :: .int x :: st) h r := gr_pure m22 f22_8 rfl
theorem f22_9 : gm_ft 22 9 = some (.invokespecial 159, 3) := by decide +kernel
theorem f22_12 : gm_ft 22 12 = some (.athrow, 1) := by decide +kernel
/-! GraphReader.readContent(I)I -/
theorem m23 : gm_mt[23]? = some (⟨"GraphReader", "readContent", "(I)I"⟩, prog_1_method_32_code, 2, (some .int), [], 0, 1) := rfl
theorem f23_0 : gm_ft 23 0 = some (.aload_n 0, 1) := by decide +kernel
theorem r23_0 {E : Nat → Value} {d : Nat} {st : List Value} {h : gm_H} {r : gm_R × gm_H} {a1 : Value} {x : Nat} : gm_Go E d 23 0 [.ref x, a1] st h r ↔ gm_Go E d 23 1 [.ref x, a1] (.ref x :: st) h r := gr_loc m23 f23_0 rfl rfl
theorem r23_0n {E : Nat → Value} {d : Nat} {st : List Value} {h : gm_H} {r : gm_R × gm_H} {a1 : Value}  : gm_Go E d 23 0 [.null, a1] st h r ↔ gm_Go E d 23 1 [.null, a1] (.null :: st) h r := gr_loc m23 f23_0 rfl rfl
theorem f23_1 : gm_ft 23 1 = some (.iload_n 1, 1) := by decide +kernel
theorem r23_1 {E : Nat → Value} {d : Nat} {st : List Value} {h : gm_H} {r : gm_R × gm_H} {a0 : Value} {x : Int32} : gm_Go E d 23 1 [a0, .int x] st h r ↔ gm_Go E d 23 2 [a0, .int x] (.int x :: st) h r := gr_loc m23 f23_1 rfl rfl
theorem f23_2 : gm_ft 23 2 = some (.invokevirtual 191, 3) := by decide +kernel
theorem n23_2 {st : List Value} {h : gm_H} {E : Nat → Value} {lv : List Value} {b0 : Value} {a : Nat} (hs : (st.map fun v => v.category).sum ≤ 8) (he : (gm_en1 [.ref a, b0]).length ≤ 2) {vs : List Value} (hr : gm_rd h a = some (0, vs)) : gm_next E 23 2 lv (b0 :: .ref a :: st) h = some (.inr (.inl (0, 20, [.ref a, b0], st))) := gn_call m23 f23_2 rfl rfl rfl rfl rfl rfl rfl (gc_virt (bs := [b0]) (w := 198) rfl rfl rfl rfl hs he hr) (by decide)
theorem f23_5 : gm_ft 23 5 = some (.aload_n 0, 1) := by decide +kernel
theorem r23_5 {E : Nat → Value} {d : Nat} {st : List Value} {h : gm_H} {r : gm_R × gm_H} {a1 : Value} {x : Nat} : gm_Go E d 23 5 [.ref x, a1] st h r ↔ gm_Go E d 23 6 [.ref x, a1] (.ref x :: st) h r := gr_loc m23 f23_5 rfl rfl
theorem r23_5n {E : Nat → Value} {d : Nat} {st : List Value} {h : gm_H} {r : gm_R × gm_H} {a1 : Value}  : gm_Go E d 23 5 [.null, a1] st h r ↔ gm_Go E d 23 6 [.null, a1] (.null :: st) h r := gr_loc m23 f23_5 rfl rfl
theorem f23_6 : gm_ft 23 6 = some (.invokevirtual 176, 3) := by decide +kernel
theorem n23_6 {st : List Value} {h : gm_H} {E : Nat → Value} {lv : List Value} {a : Nat} (hs : (st.map fun v => v.category).sum ≤ 8) (he : (gm_en1 [.ref a]).length ≤ 1) {vs : List Value} (hr : gm_rd h a = some (0, vs)) : gm_next E 23 6 lv (.ref a :: st) h = some (.inr (.inl (0, 24, [.ref a], st))) := gn_call m23 f23_6 rfl rfl rfl rfl rfl rfl rfl (gc_virt (bs := []) (w := 274) rfl rfl rfl rfl hs he hr) (by decide)
theorem f23_9 : gm_ft 23 9 = some (.tableswitch 150 112 126 #[75, 78, 83, 103, 109, 114, 150, 126, 126, 150, 126, 143, 150, 150, 120], 75) := by decide +kernel
theorem r23_9d {E : Nat → Value} {d : Nat} {st : List Value} {h : gm_H} {r : gm_R × gm_H} {lv : List Value} {x : Int32} (hx : x.toInt < 112 ∨ 126 < x.toInt) : gm_Go E d 23 9 lv (.int x :: st) h r ↔ gm_Go E d 23 159 lv st h r := gr_sw m23 f23_9 rfl rfl rfl (by unfold gm_sw; dsimp only; rw [if_pos hx]) rfl
theorem r23_9_112 {E : Nat → Value} {d : Nat} {st : List Value} {h : gm_H} {r : gm_R × gm_H} {lv : List Value} : gm_Go E d 23 9 lv (.int (112 : Int32) :: st) h r ↔ gm_Go E d 23 84 lv st h r := gr_sw m23 f23_9 rfl rfl rfl rfl rfl
theorem r23_9_113 {E : Nat → Value} {d : Nat} {st : List Value} {h : gm_H} {r : gm_R × gm_H} {lv : List Value} : gm_Go E d 23 9 lv (.int (113 : Int32) :: st) h r ↔ gm_Go E d 23 87 lv st h r := gr_sw m23 f23_9 rfl rfl rfl rfl rfl
theorem r23_9_114 {E : Nat → Value} {d : Nat} {st : List Value} {h : gm_H} {r : gm_R × gm_H} {lv : List Value} : gm_Go E d 23 9 lv (.int (114 : Int32) :: st) h r ↔ gm_Go E d 23 92 lv st h r := gr_sw m23 f23_9 rfl rfl rfl rfl rfl
theorem r23_9_115 {E : Nat → Value} {d : Nat} {st : List Value} {h : gm_H} {r : gm_R × gm_H} {lv : List Value} : gm_Go E d 23 9 lv (.int (115 : Int32) :: st) h r ↔ gm_Go E d 23 112 lv st h r := gr_sw m23 f23_9 rfl rfl rfl rfl rfl
theorem r23_9_116 {E : Nat → Value} {d : Nat} {st : List Value} {h : gm_H} {r : gm_R × gm_H} {lv : List Value} : gm_Go E d 23 9 lv (.int (116 : Int32) :: st) h r ↔ gm_Go E d 23 118 lv st h r := gr_sw m23 f23_9 rfl rfl rfl rfl rfl
theorem r23_9_117 {E : Nat → Value} {d : Nat} {st : List Value} {h : gm_H} {r : gm_R × gm_H} {lv : List Value} : gm_Go E d 23 9 lv (.int (117 : Int32) :: st) h r ↔ gm_Go E d 23 123 lv st h r := gr_sw m23 f23_9 rfl rfl rfl rfl rfl
theorem r23_9_118 {E : Nat → Value} {d : Nat} {st : List Value} {h : gm_H} {r : gm_R × gm_H} {lv : List Value} : gm_Go E d 23 9 lv (.int (118 : Int32) :: st) h r ↔ gm_Go E d 23 159 lv st h r := gr_sw m23 f23_9 rfl rfl rfl rfl rfl
theorem r23_9_119 {E : Nat → Value} {d : Nat} {st : List Value} {h : gm_H} {r : gm_R × gm_H} {lv : List Value} : gm_Go E d 23 9 lv (.int (119 : Int32) :: st) h r ↔ gm_Go E d 23 135 lv st h r := gr_sw m23 f23_9 rfl rfl rfl rfl rfl
theorem r23_9_120 {E : Nat → Value} {d : Nat} {st : List Value} {h : gm_H} {r : gm_R × gm_H} {lv : List Value} : gm_Go E d 23 9 lv (.int (120 : Int32) :: st) h r ↔ gm_Go E d 23 135 lv st h r := gr_sw m23 f23_9 rfl rfl rfl rfl rfl
theorem r23_9_121 {E : Nat → Value} {d : Nat} {st : List Value} {h : gm_H} {r : gm_R × gm_H} {lv : List Value} : gm_Go E d 23 9 lv (.int (121 : Int32) :: st) h r ↔ gm_Go E d 23 159 lv st h r := gr_sw m23 f23_9 rfl rfl rfl rfl rfl
theorem r23_9_122 {E : Nat → Value} {d : Nat} {st : List Value} {h : gm_H} {r : gm_R × gm_H} {lv : List Value} : gm_Go E d 23 9 lv (.int (122 : Int32) :: st) h r ↔ gm_Go E d 23 135 lv st h r := gr_sw m23 f23_9 rfl rfl rfl rfl rfl
theorem r23_9_123 {E : Nat → Value} {d : Nat} {st : List Value} {h : gm_H} {r : gm_R × gm_H} {lv : List Value} : gm_Go E d 23 9 lv (.int (123 : Int32) :: st) h r ↔ gm_Go E d 23 152 lv st h r := gr_sw m23 f23_9 rfl rfl rfl rfl rfl
theorem r23_9_124 {E : Nat → Value} {d : Nat} {st : List Value} {h : gm_H} {r : gm_R × gm_H} {lv : List Value} : gm_Go E d 23 9 lv (.int (124 : Int32) :: st) h r ↔ gm_Go E d 23 159 lv st h r := gr_sw m23 f23_9 rfl rfl rfl rfl rfl
theorem r23_9_125 {E : Nat → Value} {d : Nat} {st : List Value} {h : gm_H} {r : gm_R × gm_H} {lv : List Value} : gm_Go E d 23 9 lv (.int (125 : Int32) :: st) h r ↔ gm_Go E d 23 159 lv st h r := gr_sw m23 f23_9 rfl rfl rfl rfl rfl
theorem r23_9_126 {E : Nat → Value} {d : Nat} {st : List Value} {h : gm_H} {r : gm_R × gm_H} {lv : List Value} : gm_Go E d 23 9 lv (.int (126 : Int32) :: st) h r ↔ gm_Go E d 23 129 lv st h r := gr_sw m23 f23_9 rfl rfl rfl rfl rfl
theorem f23_84 : gm_ft 23 84 = some (.bipush (-2), 2) := by decide +kernel
theorem r23_84 {E : Nat → Value} {d : Nat} {st : List Value} {h : gm_H} {r : gm_R × gm_H} {lv : List Value} : gm_Go E d 23 84 lv st h r ↔ gm_Go E d 23 86 lv (.int (-2 : Int32) :: st) h r := gr_pure m23 f23_84 rfl
theorem f23_86 : gm_ft 23 86 = some (.ireturn, 1) := by decide +kernel
theorem r23_86 {E : Nat → Value} {d : Nat} {h : gm_H} {r : gm_R × gm_H} {lv : List Value} {x : Int32} : gm_Go E d 23 86 lv [.int x] h r ↔ r = (.inl (some (.int x)), h) := gr_ret m23 f23_86 rfl rfl rfl rfl rfl rfl rfl rfl (by unfold gm_rt; dsimp only; rw [if_pos ⟨rfl, rfl⟩])
theorem f23_87 : gm_ft 23 87 = some (.aload_n 0, 1) := by decide +kernel
theorem r23_87 {E : Nat → Value} {d : Nat} {st : List Value} {h : gm_H} {r : gm_R × gm_H} {a1 : Value} {x : Nat} : gm_Go E d 23 87 [.ref x, a1] st h r ↔ gm_Go E d 23 88 [.ref x, a1] (.ref x :: st) h r := gr_loc m23 f23_87 rfl rfl
theorem r23_87n {E : Nat → Value} {d : Nat} {st : List Value} {h : gm_H} {r : gm_R × gm_H} {a1 : Value}  : gm_Go E d 23 87 [.null, a1] st h r ↔ gm_Go E d 23 88 [.null, a1] (.null :: st) h r := gr_loc m23 f23_87 rfl rfl
theorem f23_88 : gm_ft 23 88 = some (.invokevirtual 195, 3) := by decide +kernel
theorem n23_88 {st : List Value} {h : gm_H} {E : Nat → Value} {lv : List Value} {a : Nat} (hs : (st.map fun v => v.category).sum ≤ 8) (he : (gm_en1 [.ref a]).length ≤ 2) {vs : List Value} (hr : gm_rd h a = some (0, vs)) : gm_next E 23 88 lv (.ref a :: st) h = some (.inr (.inl (0, 26, [.ref a], st))) := gn_call m23 f23_88 rfl rfl rfl rfl rfl rfl rfl (gc_virt (bs := []) (w := 282) rfl rfl rfl rfl hs he hr) (by decide)
theorem f23_91 : gm_ft 23 91 = some (.ireturn, 1) := by decide +kernel
theorem r23_91 {E : Nat → Value} {d : Nat} {h : gm_H} {r : gm_R × gm_H} {lv : List Value} {x : Int32} : gm_Go E d 23 91 lv [.int x] h r ↔ r = (.inl (some (.int x)), h) := gr_ret m23 f23_91 rfl rfl rfl rfl rfl rfl rfl rfl (by unfold gm_rt; dsimp only; rw [if_pos ⟨rfl, rfl⟩])
theorem f23_92 : gm_ft 23 92 = some (.aload_n 0, 1) := by decide +kernel
theorem r23_92 {E : Nat → Value} {d : Nat} {st : List Value} {h : gm_H} {r : gm_R × gm_H} {a1 : Value} {x : Nat} : gm_Go E d 23 92 [.ref x, a1] st h r ↔ gm_Go E d 23 93 [.ref x, a1] (.ref x :: st) h r := gr_loc m23 f23_92 rfl rfl
theorem r23_92n {E : Nat → Value} {d : Nat} {st : List Value} {h : gm_H} {r : gm_R × gm_H} {a1 : Value}  : gm_Go E d 23 92 [.null, a1] st h r ↔ gm_Go E d 23 93 [.null, a1] (.null :: st) h r := gr_loc m23 f23_92 rfl rfl
theorem f23_93 : gm_ft 23 93 = some (.dup, 1) := by decide +kernel
theorem r23_93 {E : Nat → Value} {d : Nat} {st : List Value} {h : gm_H} {r : gm_R × gm_H} {lv : List Value} {a : Nat} : gm_Go E d 23 93 lv (.ref a :: st) h r ↔ gm_Go E d 23 94 lv (.ref a :: .ref a :: st) h r := gr_pure m23 f23_93 rfl
theorem r23_93i {E : Nat → Value} {d : Nat} {st : List Value} {h : gm_H} {r : gm_R × gm_H} {lv : List Value} {x : Int32} : gm_Go E d 23 93 lv (.int x :: st) h r ↔ gm_Go E d 23 94 lv (.int x :: .int x :: st) h r := gr_pure m23 f23_93 rfl
theorem f23_94 : gm_ft 23 94 = some (.getfield 96, 3) := by decide +kernel
theorem r23_94 {E : Nat → Value} {d : Nat} {st : List Value} {h : gm_H} {r : gm_R × gm_H} {lv : List Value} {a : Nat} {vs : List Value} {v : Value} (hr : gm_rd h a = some (0, vs)) (hv : vs[7]? = some v) : gm_Go E d 23 94 lv (.ref a :: st) h r ↔ gm_Go E d 23 97 lv (v :: st) h r := gr_rd m23 f23_94 rfl rfl rfl rfl (gf_get k0_96 hr hv)
theorem f23_97 : gm_ft 23 97 = some (.iconst 1, 1) := by decide +kernel
theorem r23_97 {E : Nat → Value} {d : Nat} {st : List Value} {h : gm_H} {r : gm_R × gm_H} {lv : List Value} : gm_Go E d 23 97 lv st h r ↔ gm_Go E d 23 98 lv (.int (1 : Int32) :: st) h r := gr_pure m23 f23_97 rfl
theorem f23_98 : gm_ft 23 98 = some (.isub, 1) := by decide +kernel
theorem r23_98 {E : Nat → Value} {d : Nat} {st : List Value} {h : gm_H} {r : gm_R × gm_H} {lv : List Value} {x y : Int32} : gm_Go E d 23 98 lv (.int y :: .int x :: st) h r ↔ gm_Go E d 23 99 lv (.int (x - y) :: st) h r := gr_pure m23 f23_98 rfl
theorem f23_99 : gm_ft 23 99 = some (.putfield 96, 3) := by decide +kernel
theorem r23_99 {E : Nat → Value} {d : Nat} {st : List Value} {h : gm_H} {r : gm_R × gm_H} {lv : List Value} {a : Nat} {vs : List Value} {v : Value} (hr : gm_rd h a = some (0, vs)) (hk : 7 < vs.length) (hn : narrow (gm_ty 0 7) v = v ∧ fits (gm_ty 0 7) v = true) : gm_Go E d 23 99 lv (v :: .ref a :: st) h r ↔ gm_Go E d 23 102 lv st (gm_wr h a (0, vs.set 7 v)) r := gr_wr m23 f23_99 rfl rfl rfl rfl rfl (gf_put k0_96 hr (by decide) hk hn (by decide))
theorem f23_102 : gm_ft 23 102 = some (.aload_n 0, 1) := by decide +kernel
theorem r23_102 {E : Nat → Value} {d : Nat} {st : List Value} {h : gm_H} {r : gm_R × gm_H} {a1 : Value} {x : Nat} : gm_Go E d 23 102 [.ref x, a1] st h r ↔ gm_Go E d 23 103 [.ref x, a1] (.ref x :: st) h r := gr_loc m23 f23_102 rfl rfl
theorem r23_102n {E : Nat → Value} {d : Nat} {st : List Value} {h : gm_H} {r : gm_R × gm_H} {a1 : Value}  : gm_Go E d 23 102 [.null, a1] st h r ↔ gm_Go E d 23 103 [.null, a1] (.null :: st) h r := gr_loc m23 f23_102 rfl rfl
theorem f23_103 : gm_ft 23 103 = some (.iload_n 1, 1) := by decide +kernel
theorem r23_103 {E : Nat → Value} {d : Nat} {st : List Value} {h : gm_H} {r : gm_R × gm_H} {a0 : Value} {x : Int32} : gm_Go E d 23 103 [a0, .int x] st h r ↔ gm_Go E d 23 104 [a0, .int x] (.int x :: st) h r := gr_loc m23 f23_103 rfl rfl
theorem f23_104 : gm_ft 23 104 = some (.iconst 1, 1) := by decide +kernel
theorem r23_104 {E : Nat → Value} {d : Nat} {st : List Value} {h : gm_H} {r : gm_R × gm_H} {lv : List Value} : gm_Go E d 23 104 lv st h r ↔ gm_Go E d 23 105 lv (.int (1 : Int32) :: st) h r := gr_pure m23 f23_104 rfl
theorem f23_105 : gm_ft 23 105 = some (.invokevirtual 198, 3) := by decide +kernel
theorem n23_105 {st : List Value} {h : gm_H} {E : Nat → Value} {lv : List Value} {b0 b1 : Value} {a : Nat} (hs : (st.map fun v => v.category).sum ≤ 8) (he : (gm_en1 [.ref a, b0, b1]).length ≤ 8) {vs : List Value} (hr : gm_rd h a = some (0, vs)) : gm_next E 23 105 lv (b1 :: b0 :: .ref a :: st) h = some (.inr (.inl (0, 29, [.ref a, b0, b1], st))) := gn_call m23 f23_105 rfl rfl rfl rfl rfl rfl rfl (gc_virt (bs := [b1, b0]) (w := 295) rfl rfl rfl rfl hs he hr) (by decide)
theorem f23_108 : gm_ft 23 108 = some (.pop, 1) := by decide +kernel
theorem r23_108 {E : Nat → Value} {d : Nat} {st : List Value} {h : gm_H} {r : gm_R × gm_H} {lv : List Value} {x : Int32} : gm_Go E d 23 108 lv (.int x :: st) h r ↔ gm_Go E d 23 109 lv st h r := gr_pure m23 f23_108 rfl
theorem r23_108a {E : Nat → Value} {d : Nat} {st : List Value} {h : gm_H} {r : gm_R × gm_H} {lv : List Value} {a : Nat} : gm_Go E d 23 108 lv (.ref a :: st) h r ↔ gm_Go E d 23 109 lv st h r := gr_pure m23 f23_108 rfl
theorem r23_108n {E : Nat → Value} {d : Nat} {st : List Value} {h : gm_H} {r : gm_R × gm_H} {lv : List Value} : gm_Go E d 23 108 lv (.null :: st) h r ↔ gm_Go E d 23 109 lv st h r := gr_pure m23 f23_108 rfl
theorem f23_109 : gm_ft 23 109 = some (.bipush (-2), 2) := by decide +kernel
theorem r23_109 {E : Nat → Value} {d : Nat} {st : List Value} {h : gm_H} {r : gm_R × gm_H} {lv : List Value} : gm_Go E d 23 109 lv st h r ↔ gm_Go E d 23 111 lv (.int (-2 : Int32) :: st) h r := gr_pure m23 f23_109 rfl
theorem f23_111 : gm_ft 23 111 = some (.ireturn, 1) := by decide +kernel
theorem r23_111 {E : Nat → Value} {d : Nat} {h : gm_H} {r : gm_R × gm_H} {lv : List Value} {x : Int32} : gm_Go E d 23 111 lv [.int x] h r ↔ r = (.inl (some (.int x)), h) := gr_ret m23 f23_111 rfl rfl rfl rfl rfl rfl rfl rfl (by unfold gm_rt; dsimp only; rw [if_pos ⟨rfl, rfl⟩])
theorem f23_112 : gm_ft 23 112 = some (.aload_n 0, 1) := by decide +kernel
theorem r23_112 {E : Nat → Value} {d : Nat} {st : List Value} {h : gm_H} {r : gm_R × gm_H} {a1 : Value} {x : Nat} : gm_Go E d 23 112 [.ref x, a1] st h r ↔ gm_Go E d 23 113 [.ref x, a1] (.ref x :: st) h r := gr_loc m23 f23_112 rfl rfl
theorem r23_112n {E : Nat → Value} {d : Nat} {st : List Value} {h : gm_H} {r : gm_R × gm_H} {a1 : Value}  : gm_Go E d 23 112 [.null, a1] st h r ↔ gm_Go E d 23 113 [.null, a1] (.null :: st) h r := gr_loc m23 f23_112 rfl rfl
theorem f23_113 : gm_ft 23 113 = some (.iload_n 1, 1) := by decide +kernel
theorem r23_113 {E : Nat → Value} {d : Nat} {st : List Value} {h : gm_H} {r : gm_R × gm_H} {a0 : Value} {x : Int32} : gm_Go E d 23 113 [a0, .int x] st h r ↔ gm_Go E d 23 114 [a0, .int x] (.int x :: st) h r := gr_loc m23 f23_113 rfl rfl
theorem f23_114 : gm_ft 23 114 = some (.invokevirtual 202, 3) := by decide +kernel
theorem n23_114 {st : List Value} {h : gm_H} {E : Nat → Value} {lv : List Value} {b0 : Value} {a : Nat} (hs : (st.map fun v => v.category).sum ≤ 8) (he : (gm_en1 [.ref a, b0]).length ≤ 8) {vs : List Value} (hr : gm_rd h a = some (0, vs)) : gm_next E 23 114 lv (b0 :: .ref a :: st) h = some (.inr (.inl (0, 57, [.ref a, b0], st))) := gn_call m23 f23_114 rfl rfl rfl rfl rfl rfl rfl (gc_virt (bs := [b0]) (w := 501) rfl rfl rfl rfl hs he hr) (by decide)
theorem f23_117 : gm_ft 23 117 = some (.ireturn, 1) := by decide +kernel
theorem r23_117 {E : Nat → Value} {d : Nat} {h : gm_H} {r : gm_R × gm_H} {lv : List Value} {x : Int32} : gm_Go E d 23 117 lv [.int x] h r ↔ r = (.inl (some (.int x)), h) := gr_ret m23 f23_117 rfl rfl rfl rfl rfl rfl rfl rfl (by unfold gm_rt; dsimp only; rw [if_pos ⟨rfl, rfl⟩])
theorem f23_118 : gm_ft 23 118 = some (.aload_n 0, 1) := by decide +kernel
theorem r23_118 {E : Nat → Value} {d : Nat} {st : List Value} {h : gm_H} {r : gm_R × gm_H} {a1 : Value} {x : Nat} : gm_Go E d 23 118 [.ref x, a1] st h r ↔ gm_Go E d 23 119 [.ref x, a1] (.ref x :: st) h r := gr_loc m23 f23_118 rfl rfl
theorem r23_118n {E : Nat → Value} {d : Nat} {st : List Value} {h : gm_H} {r : gm_R × gm_H} {a1 : Value}  : gm_Go E d 23 118 [.null, a1] st h r ↔ gm_Go E d 23 119 [.null, a1] (.null :: st) h r := gr_loc m23 f23_118 rfl rfl
theorem f23_119 : gm_ft 23 119 = some (.invokevirtual 205, 3) := by decide +kernel
theorem n23_119 {st : List Value} {h : gm_H} {E : Nat → Value} {lv : List Value} {a : Nat} (hs : (st.map fun v => v.category).sum ≤ 8) (he : (gm_en1 [.ref a]).length ≤ 5) {vs : List Value} (hr : gm_rd h a = some (0, vs)) : gm_next E 23 119 lv (.ref a :: st) h = some (.inr (.inl (0, 74, [.ref a], st))) := gn_call m23 f23_119 rfl rfl rfl rfl rfl rfl rfl (gc_virt (bs := []) (w := 593) rfl rfl rfl rfl hs he hr) (by decide)
theorem f23_122 : gm_ft 23 122 = some (.ireturn, 1) := by decide +kernel
theorem r23_122 {E : Nat → Value} {d : Nat} {h : gm_H} {r : gm_R × gm_H} {lv : List Value} {x : Int32} : gm_Go E d 23 122 lv [.int x] h r ↔ r = (.inl (some (.int x)), h) := gr_ret m23 f23_122 rfl rfl rfl rfl rfl rfl rfl rfl (by unfold gm_rt; dsimp only; rw [if_pos ⟨rfl, rfl⟩])
theorem f23_123 : gm_ft 23 123 = some (.aload_n 0, 1) := by decide +kernel
theorem r23_123 {E : Nat → Value} {d : Nat} {st : List Value} {h : gm_H} {r : gm_R × gm_H} {a1 : Value} {x : Nat} : gm_Go E d 23 123 [.ref x, a1] st h r ↔ gm_Go E d 23 124 [.ref x, a1] (.ref x :: st) h r := gr_loc m23 f23_123 rfl rfl
theorem r23_123n {E : Nat → Value} {d : Nat} {st : List Value} {h : gm_H} {r : gm_R × gm_H} {a1 : Value}  : gm_Go E d 23 123 [.null, a1] st h r ↔ gm_Go E d 23 124 [.null, a1] (.null :: st) h r := gr_loc m23 f23_123 rfl rfl
theorem f23_124 : gm_ft 23 124 = some (.iload_n 1, 1) := by decide +kernel
theorem r23_124 {E : Nat → Value} {d : Nat} {st : List Value} {h : gm_H} {r : gm_R × gm_H} {a0 : Value} {x : Int32} : gm_Go E d 23 124 [a0, .int x] st h r ↔ gm_Go E d 23 125 [a0, .int x] (.int x :: st) h r := gr_loc m23 f23_124 rfl rfl
theorem f23_125 : gm_ft 23 125 = some (.invokevirtual 208, 3) := by decide +kernel
theorem n23_125 {st : List Value} {h : gm_H} {E : Nat → Value} {lv : List Value} {b0 : Value} {a : Nat} (hs : (st.map fun v => v.category).sum ≤ 8) (he : (gm_en1 [.ref a, b0]).length ≤ 8) {vs : List Value} (hr : gm_rd h a = some (0, vs)) : gm_next E 23 125 lv (b0 :: .ref a :: st) h = some (.inr (.inl (0, 75, [.ref a, b0], st))) := gn_call m23 f23_125 rfl rfl rfl rfl rfl rfl rfl (gc_virt (bs := [b0]) (w := 597) rfl rfl rfl rfl hs he hr) (by decide)
theorem f23_128 : gm_ft 23 128 = some (.ireturn, 1) := by decide +kernel
theorem r23_128 {E : Nat → Value} {d : Nat} {h : gm_H} {r : gm_R × gm_H} {lv : List Value} {x : Int32} : gm_Go E d 23 128 lv [.int x] h r ↔ r = (.inl (some (.int x)), h) := gr_ret m23 f23_128 rfl rfl rfl rfl rfl rfl rfl rfl (by unfold gm_rt; dsimp only; rw [if_pos ⟨rfl, rfl⟩])
theorem f23_129 : gm_ft 23 129 = some (.aload_n 0, 1) := by decide +kernel
theorem r23_129 {E : Nat → Value} {d : Nat} {st : List Value} {h : gm_H} {r : gm_R × gm_H} {a1 : Value} {x : Nat} : gm_Go E d 23 129 [.ref x, a1] st h r ↔ gm_Go E d 23 130 [.ref x, a1] (.ref x :: st) h r := gr_loc m23 f23_129 rfl rfl
theorem r23_129n {E : Nat → Value} {d : Nat} {st : List Value} {h : gm_H} {r : gm_R × gm_H} {a1 : Value}  : gm_Go E d 23 129 [.null, a1] st h r ↔ gm_Go E d 23 130 [.null, a1] (.null :: st) h r := gr_loc m23 f23_129 rfl rfl
theorem f23_130 : gm_ft 23 130 = some (.iload_n 1, 1) := by decide +kernel
theorem r23_130 {E : Nat → Value} {d : Nat} {st : List Value} {h : gm_H} {r : gm_R × gm_H} {a0 : Value} {x : Int32} : gm_Go E d 23 130 [a0, .int x] st h r ↔ gm_Go E d 23 131 [a0, .int x] (.int x :: st) h r := gr_loc m23 f23_130 rfl rfl
theorem f23_131 : gm_ft 23 131 = some (.invokevirtual 211, 3) := by decide +kernel
theorem n23_131 {st : List Value} {h : gm_H} {E : Nat → Value} {lv : List Value} {b0 : Value} {a : Nat} (hs : (st.map fun v => v.category).sum ≤ 8) (he : (gm_en1 [.ref a, b0]).length ≤ 5) {vs : List Value} (hr : gm_rd h a = some (0, vs)) : gm_next E 23 131 lv (b0 :: .ref a :: st) h = some (.inr (.inl (0, 81, [.ref a, b0], st))) := gn_call m23 f23_131 rfl rfl rfl rfl rfl rfl rfl (gc_virt (bs := [b0]) (w := 628) rfl rfl rfl rfl hs he hr) (by decide)
theorem f23_134 : gm_ft 23 134 = some (.ireturn, 1) := by decide +kernel
theorem r23_134 {E : Nat → Value} {d : Nat} {h : gm_H} {r : gm_R × gm_H} {lv : List Value} {x : Int32} : gm_Go E d 23 134 lv [.int x] h r ↔ r = (.inl (some (.int x)), h) := gr_ret m23 f23_134 rfl rfl rfl rfl rfl rfl rfl rfl (by unfold gm_rt; dsimp only; rw [if_pos ⟨rfl, rfl⟩])
theorem f23_135 : gm_ft 23 135 = some (.aload_n 0, 1) := by decide +kernel
theorem r23_135 {E : Nat → Value} {d : Nat} {st : List Value} {h : gm_H} {r : gm_R × gm_H} {a1 : Value} {x : Nat} : gm_Go E d 23 135 [.ref x, a1] st h r ↔ gm_Go E d 23 136 [.ref x, a1] (.ref x :: st) h r := gr_loc m23 f23_135 rfl rfl
theorem r23_135n {E : Nat → Value} {d : Nat} {st : List Value} {h : gm_H} {r : gm_R × gm_H} {a1 : Value}  : gm_Go E d 23 135 [.null, a1] st h r ↔ gm_Go E d 23 136 [.null, a1] (.null :: st) h r := gr_loc m23 f23_135 rfl rfl
theorem f23_136 : gm_ft 23 136 = some (.iload_n 1, 1) := by decide +kernel
theorem r23_136 {E : Nat → Value} {d : Nat} {st : List Value} {h : gm_H} {r : gm_R × gm_H} {a0 : Value} {x : Int32} : gm_Go E d 23 136 [a0, .int x] st h r ↔ gm_Go E d 23 137 [a0, .int x] (.int x :: st) h r := gr_loc m23 f23_136 rfl rfl
theorem f23_137 : gm_ft 23 137 = some (.iconst 1, 1) := by decide +kernel
theorem r23_137 {E : Nat → Value} {d : Nat} {st : List Value} {h : gm_H} {r : gm_R × gm_H} {lv : List Value} : gm_Go E d 23 137 lv st h r ↔ gm_Go E d 23 138 lv (.int (1 : Int32) :: st) h r := gr_pure m23 f23_137 rfl
theorem f23_138 : gm_ft 23 138 = some (.if_icmp .ne 8, 3) := by decide +kernel
theorem r23_138 {E : Nat → Value} {d : Nat} {st : List Value} {h : gm_H} {r : gm_R × gm_H} {lv : List Value} {x y : Int32} : gm_Go E d 23 138 lv (.int y :: .int x :: st) h r ↔ (if x = y then gm_Go E d 23 141 lv st h r else gm_Go E d 23 146 lv st h r) := (gr_br m23 f23_138 rfl rfl rfl rfl).trans gr_ifn
theorem f23_141 : gm_ft 23 141 = some (.bipush (-7), 2) := by decide +kernel
theorem r23_141 {E : Nat → Value} {d : Nat} {st : List Value} {h : gm_H} {r : gm_R × gm_H} {lv : List Value} : gm_Go E d 23 141 lv st h r ↔ gm_Go E d 23 143 lv (.int (-7 : Int32) :: st) h r := gr_pure m23 f23_141 rfl
theorem f23_143 : gm_ft 23 143 = some (.goto 5, 3) := by decide +kernel
theorem r23_143 {E : Nat → Value} {d : Nat} {st : List Value} {h : gm_H} {r : gm_R × gm_H} {lv : List Value} : gm_Go E d 23 143 lv st h r ↔ gm_Go E d 23 148 lv st h r := gr_brT m23 f23_143 rfl rfl rfl rfl
theorem f23_146 : gm_ft 23 146 = some (.bipush (-4), 2) := by decide +kernel
theorem r23_146 {E : Nat → Value} {d : Nat} {st : List Value} {h : gm_H} {r : gm_R × gm_H} {lv : List Value} : gm_Go E d 23 146 lv st h r ↔ gm_Go E d 23 148 lv (.int (-4 : Int32) :: st) h r := gr_pure m23 f23_146 rfl
theorem f23_148 : gm_ft 23 148 = some (.invokevirtual 160, 3) := by decide +kernel
theorem n23_148 {st : List Value} {h : gm_H} {E : Nat → Value} {lv : List Value} {b0 : Value} {a : Nat} (hs : (st.map fun v => v.category).sum ≤ 8) (he : (gm_en1 [.ref a, b0]).length ≤ 2) {vs : List Value} (hr : gm_rd h a = some (0, vs)) : gm_next E 23 148 lv (b0 :: .ref a :: st) h = some (.inr (.inl (0, 22, [.ref a, b0], st))) := gn_call m23 f23_148 rfl rfl rfl rfl rfl rfl rfl (gc_virt (bs := [b0]) (w := 206) rfl rfl rfl rfl hs he hr) (by decide)
theorem f23_151 : gm_ft 23 151 = some (.ireturn, 1) := by decide +kernel
theorem r23_151 {E : Nat → Value} {d : Nat} {h : gm_H} {r : gm_R × gm_H} {lv : List Value} {x : Int32} : gm_Go E d 23 151 lv [.int x] h r ↔ r = (.inl (some (.int x)), h) := gr_ret m23 f23_151 rfl rfl rfl rfl rfl rfl rfl rfl (by unfold gm_rt; dsimp only; rw [if_pos ⟨rfl, rfl⟩])
theorem f23_152 : gm_ft 23 152 = some (.aload_n 0, 1) := by decide +kernel
theorem r23_152 {E : Nat → Value} {d : Nat} {st : List Value} {h : gm_H} {r : gm_R × gm_H} {a1 : Value} {x : Nat} : gm_Go E d 23 152 [.ref x, a1] st h r ↔ gm_Go E d 23 153 [.ref x, a1] (.ref x :: st) h r := gr_loc m23 f23_152 rfl rfl
theorem r23_152n {E : Nat → Value} {d : Nat} {st : List Value} {h : gm_H} {r : gm_R × gm_H} {a1 : Value}  : gm_Go E d 23 152 [.null, a1] st h r ↔ gm_Go E d 23 153 [.null, a1] (.null :: st) h r := gr_loc m23 f23_152 rfl rfl
theorem f23_153 : gm_ft 23 153 = some (.bipush (-10), 2) := by decide +kernel
theorem r23_153 {E : Nat → Value} {d : Nat} {st : List Value} {h : gm_H} {r : gm_R × gm_H} {lv : List Value} : gm_Go E d 23 153 lv st h r ↔ gm_Go E d 23 155 lv (.int (-10 : Int32) :: st) h r := gr_pure m23 f23_153 rfl
theorem f23_155 : gm_ft 23 155 = some (.invokevirtual 160, 3) := by decide +kernel
theorem n23_155 {st : List Value} {h : gm_H} {E : Nat → Value} {lv : List Value} {b0 : Value} {a : Nat} (hs : (st.map fun v => v.category).sum ≤ 8) (he : (gm_en1 [.ref a, b0]).length ≤ 2) {vs : List Value} (hr : gm_rd h a = some (0, vs)) : gm_next E 23 155 lv (b0 :: .ref a :: st) h = some (.inr (.inl (0, 22, [.ref a, b0], st))) := gn_call m23 f23_155 rfl rfl rfl rfl rfl rfl rfl (gc_virt (bs := [b0]) (w := 206) rfl rfl rfl rfl hs he hr) (by decide)
theorem f23_158 : gm_ft 23 158 = some (.ireturn, 1) := by decide +kernel
theorem r23_158 {E : Nat → Value} {d : Nat} {h : gm_H} {r : gm_R × gm_H} {lv : List Value} {x : Int32} : gm_Go E d 23 158 lv [.int x] h r ↔ r = (.inl (some (.int x)), h) := gr_ret m23 f23_158 rfl rfl rfl rfl rfl rfl rfl rfl (by unfold gm_rt; dsimp only; rw [if_pos ⟨rfl, rfl⟩])
theorem f23_159 : gm_ft 23 159 = some (.aload_n 0, 1) := by decide +kernel
theorem r23_159 {E : Nat → Value} {d : Nat} {st : List Value} {h : gm_H} {r : gm_R × gm_H} {a1 : Value} {x : Nat} : gm_Go E d 23 159 [.ref x, a1] st h r ↔ gm_Go E d 23 160 [.ref x, a1] (.ref x :: st) h r := gr_loc m23 f23_159 rfl rfl
theorem r23_159n {E : Nat → Value} {d : Nat} {st : List Value} {h : gm_H} {r : gm_R × gm_H} {a1 : Value}  : gm_Go E d 23 159 [.null, a1] st h r ↔ gm_Go E d 23 160 [.null, a1] (.null :: st) h r := gr_loc m23 f23_159 rfl rfl
theorem f23_160 : gm_ft 23 160 = some (.bipush (-4), 2) := by decide +kernel
theorem r23_160 {E : Nat → Value} {d : Nat} {st : List Value} {h : gm_H} {r : gm_R × gm_H} {lv : List Value} : gm_Go E d 23 160 lv st h r ↔ gm_Go E d 23 162 lv (.int (-4 : Int32) :: st) h r := gr_pure m23 f23_160 rfl
theorem f23_162 : gm_ft 23 162 = some (.invokevirtual 160, 3) := by decide +kernel
theorem n23_162 {st : List Value} {h : gm_H} {E : Nat → Value} {lv : List Value} {b0 : Value} {a : Nat} (hs : (st.map fun v => v.category).sum ≤ 8) (he : (gm_en1 [.ref a, b0]).length ≤ 2) {vs : List Value} (hr : gm_rd h a = some (0, vs)) : gm_next E 23 162 lv (b0 :: .ref a :: st) h = some (.inr (.inl (0, 22, [.ref a, b0], st))) := gn_call m23 f23_162 rfl rfl rfl rfl rfl rfl rfl (gc_virt (bs := [b0]) (w := 206) rfl rfl rfl rfl hs he hr) (by decide)
theorem f23_165 : gm_ft 23 165 = some (.ireturn, 1) := by decide +kernel
theorem r23_165 {E : Nat → Value} {d : Nat} {h : gm_H} {r : gm_R × gm_H} {lv : List Value} {x : Int32} : gm_Go E d 23 165 lv [.int x] h r ↔ r = (.inl (some (.int x)), h) := gr_ret m23 f23_165 rfl rfl rfl rfl rfl rfl rfl rfl (by unfold gm_rt; dsimp only; rw [if_pos ⟨rfl, rfl⟩])
/-! GraphReader.nextByte()I -/
theorem m24 : gm_mt[24]? = some (⟨"GraphReader", "nextByte", "()I"⟩, prog_1_method_19_code, 1, (some .int), [], 0, 1) := rfl
theorem f24_0 : gm_ft 24 0 = some (.aload_n 0, 1) := by decide +kernel
theorem r24_0 {E : Nat → Value} {d : Nat} {st : List Value} {h : gm_H} {r : gm_R × gm_H}  {x : Nat} : gm_Go E d 24 0 [.ref x] st h r ↔ gm_Go E d 24 1 [.ref x] (.ref x :: st) h r := gr_loc m24 f24_0 rfl rfl
theorem r24_0n {E : Nat → Value} {d : Nat} {st : List Value} {h : gm_H} {r : gm_R × gm_H}   : gm_Go E d 24 0 [.null] st h r ↔ gm_Go E d 24 1 [.null] (.null :: st) h r := gr_loc m24 f24_0 rfl rfl
theorem f24_1 : gm_ft 24 1 = some (.iconst 1, 1) := by decide +kernel
theorem r24_1 {E : Nat → Value} {d : Nat} {st : List Value} {h : gm_H} {r : gm_R × gm_H} {lv : List Value} : gm_Go E d 24 1 lv st h r ↔ gm_Go E d 24 2 lv (.int (1 : Int32) :: st) h r := gr_pure m24 f24_1 rfl
theorem f24_2 : gm_ft 24 2 = some (.invokevirtual 163, 3) := by decide +kernel
theorem n24_2 {st : List Value} {h : gm_H} {E : Nat → Value} {lv : List Value} {b0 : Value} {a : Nat} (hs : (st.map fun v => v.category).sum ≤ 8) (he : (gm_en1 [.ref a, b0]).length ≤ 4) {vs : List Value} (hr : gm_rd h a = some (0, vs)) : gm_next E 24 2 lv (b0 :: .ref a :: st) h = some (.inr (.inl (0, 25, [.ref a, b0], st))) := gn_call m24 f24_2 rfl rfl rfl rfl rfl rfl rfl (gc_virt (bs := [b0]) (w := 278) rfl rfl rfl rfl hs he hr) (by decide)
theorem f24_5 : gm_ft 24 5 = some (.l2i, 1) := by decide +kernel
theorem r24_5 {E : Nat → Value} {d : Nat} {st : List Value} {h : gm_H} {r : gm_R × gm_H} {lv : List Value} {x : Int64} : gm_Go E d 24 5 lv (.long x :: st) h r ↔ gm_Go E d 24 6 lv (.int (x.toInt32) :: st) h r := gr_pure m24 f24_5 rfl
theorem f24_6 : gm_ft 24 6 = some (.ireturn, 1) := by decide +kernel
theorem r24_6 {E : Nat → Value} {d : Nat} {h : gm_H} {r : gm_R × gm_H} {lv : List Value} {x : Int32} : gm_Go E d 24 6 lv [.int x] h r ↔ r = (.inl (some (.int x)), h) := gr_ret m24 f24_6 rfl rfl rfl rfl rfl rfl rfl rfl (by unfold gm_rt; dsimp only; rw [if_pos ⟨rfl, rfl⟩])
/-! GraphReader.nextNumber(I)J -/
theorem m25 : gm_mt[25]? = some (⟨"GraphReader", "nextNumber", "(I)J"⟩, prog_1_method_18_code, 4, (some .long), [], 0, 1) := rfl
theorem f25_0 : gm_ft 25 0 = some (.aload_n 0, 1) := by decide +kernel
theorem r25_0 {E : Nat → Value} {d : Nat} {st : List Value} {h : gm_H} {r : gm_R × gm_H} {a1 a2 a3 : Value} {x : Nat} : gm_Go E d 25 0 [.ref x, a1, a2, a3] st h r ↔ gm_Go E d 25 1 [.ref x, a1, a2, a3] (.ref x :: st) h r := gr_loc m25 f25_0 rfl rfl
theorem r25_0n {E : Nat → Value} {d : Nat} {st : List Value} {h : gm_H} {r : gm_R × gm_H} {a1 a2 a3 : Value}  : gm_Go E d 25 0 [.null, a1, a2, a3] st h r ↔ gm_Go E d 25 1 [.null, a1, a2, a3] (.null :: st) h r := gr_loc m25 f25_0 rfl rfl
theorem f25_1 : gm_ft 25 1 = some (.getfield 93, 3) := by decide +kernel
theorem r25_1 {E : Nat → Value} {d : Nat} {st : List Value} {h : gm_H} {r : gm_R × gm_H} {lv : List Value} {a : Nat} {vs : List Value} {v : Value} (hr : gm_rd h a = some (0, vs)) (hv : vs[6]? = some v) : gm_Go E d 25 1 lv (.ref a :: st) h r ↔ gm_Go E d 25 4 lv (v :: st) h r := gr_rd m25 f25_1 rfl rfl rfl rfl (gf_get k0_93 hr hv)
theorem f25_4 : gm_ft 25 4 = some (.aload_n 0, 1) := by decide +kernel
theorem r25_4 {E : Nat → Value} {d : Nat} {st : List Value} {h : gm_H} {r : gm_R × gm_H} {a1 a2 a3 : Value} {x : Nat} : gm_Go E d 25 4 [.ref x, a1, a2, a3] st h r ↔ gm_Go E d 25 5 [.ref x, a1, a2, a3] (.ref x :: st) h r := gr_loc m25 f25_4 rfl rfl
theorem r25_4n {E : Nat → Value} {d : Nat} {st : List Value} {h : gm_H} {r : gm_R × gm_H} {a1 a2 a3 : Value}  : gm_Go E d 25 4 [.null, a1, a2, a3] st h r ↔ gm_Go E d 25 5 [.null, a1, a2, a3] (.null :: st) h r := gr_loc m25 f25_4 rfl rfl
theorem f25_5 : gm_ft 25 5 = some (.getfield 96, 3) := by decide +kernel
theorem r25_5 {E : Nat → Value} {d : Nat} {st : List Value} {h : gm_H} {r : gm_R × gm_H} {lv : List Value} {a : Nat} {vs : List Value} {v : Value} (hr : gm_rd h a = some (0, vs)) (hv : vs[7]? = some v) : gm_Go E d 25 5 lv (.ref a :: st) h r ↔ gm_Go E d 25 8 lv (v :: st) h r := gr_rd m25 f25_5 rfl rfl rfl rfl (gf_get k0_96 hr hv)
theorem f25_8 : gm_ft 25 8 = some (.isub, 1) := by decide +kernel
theorem r25_8 {E : Nat → Value} {d : Nat} {st : List Value} {h : gm_H} {r : gm_R × gm_H} {lv : List Value} {x y : Int32} : gm_Go E d 25 8 lv (.int y :: .int x :: st) h r ↔ gm_Go E d 25 9 lv (.int (x - y) :: st) h r := gr_pure m25 f25_8 rfl
theorem f25_9 : gm_ft 25 9 = some (.iload_n 1, 1) := by decide +kernel
theorem r25_9 {E : Nat → Value} {d : Nat} {st : List Value} {h : gm_H} {r : gm_R × gm_H} {a0 a2 a3 : Value} {x : Int32} : gm_Go E d 25 9 [a0, .int x, a2, a3] st h r ↔ gm_Go E d 25 10 [a0, .int x, a2, a3] (.int x :: st) h r := gr_loc m25 f25_9 rfl rfl
theorem f25_10 : gm_ft 25 10 = some (.if_icmp .ge 11, 3) := by decide +kernel
theorem r25_10 {E : Nat → Value} {d : Nat} {st : List Value} {h : gm_H} {r : gm_R × gm_H} {lv : List Value} {x y : Int32} : gm_Go E d 25 10 lv (.int y :: .int x :: st) h r ↔ (if y ≤ x then gm_Go E d 25 21 lv st h r else gm_Go E d 25 13 lv st h r) := (gr_br m25 f25_10 rfl rfl rfl rfl).trans gr_if
theorem f25_13 : gm_ft 25 13 = some (.aload_n 0, 1) := by decide +kernel
theorem r25_13 {E : Nat → Value} {d : Nat} {st : List Value} {h : gm_H} {r : gm_R × gm_H} {a1 a2 a3 : Value} {x : Nat} : gm_Go E d 25 13 [.ref x, a1, a2, a3] st h r ↔ gm_Go E d 25 14 [.ref x, a1, a2, a3] (.ref x :: st) h r := gr_loc m25 f25_13 rfl rfl
theorem r25_13n {E : Nat → Value} {d : Nat} {st : List Value} {h : gm_H} {r : gm_R × gm_H} {a1 a2 a3 : Value}  : gm_Go E d 25 13 [.null, a1, a2, a3] st h r ↔ gm_Go E d 25 14 [.null, a1, a2, a3] (.null :: st) h r := gr_loc m25 f25_13 rfl rfl
theorem f25_14 : gm_ft 25 14 = some (.bipush (-3), 2) := by decide +kernel
theorem r25_14 {E : Nat → Value} {d : Nat} {st : List Value} {h : gm_H} {r : gm_R × gm_H} {lv : List Value} : gm_Go E d 25 14 lv st h r ↔ gm_Go E d 25 16 lv (.int (-3 : Int32) :: st) h r := gr_pure m25 f25_14 rfl
theorem f25_16 : gm_ft 25 16 = some (.invokevirtual 160, 3) := by decide +kernel
theorem n25_16 {st : List Value} {h : gm_H} {E : Nat → Value} {lv : List Value} {b0 : Value} {a : Nat} (hs : (st.map fun v => v.category).sum ≤ 8) (he : (gm_en1 [.ref a, b0]).length ≤ 2) {vs : List Value} (hr : gm_rd h a = some (0, vs)) : gm_next E 25 16 lv (b0 :: .ref a :: st) h = some (.inr (.inl (0, 22, [.ref a, b0], st))) := gn_call m25 f25_16 rfl rfl rfl rfl rfl rfl rfl (gc_virt (bs := [b0]) (w := 206) rfl rfl rfl rfl hs he hr) (by decide)
theorem f25_19 : gm_ft 25 19 = some (.i2l, 1) := by decide +kernel
theorem r25_19 {E : Nat → Value} {d : Nat} {st : List Value} {h : gm_H} {r : gm_R × gm_H} {lv : List Value} {x : Int32} : gm_Go E d 25 19 lv (.int x :: st) h r ↔ gm_Go E d 25 20 lv (.long (x.toInt64) :: st) h r := gr_pure m25 f25_19 rfl
theorem f25_20 : gm_ft 25 20 = some (.lreturn, 1) := by decide +kernel
theorem r25_20 {E : Nat → Value} {d : Nat} {h : gm_H} {r : gm_R × gm_H} {lv : List Value} {x : Int64} : gm_Go E d 25 20 lv [.long x] h r ↔ r = (.inl (some (.long x)), h) := gr_ret m25 f25_20 rfl rfl rfl rfl rfl rfl rfl rfl rfl
theorem f25_21 : gm_ft 25 21 = some (.aload_n 0, 1) := by decide +kernel
theorem r25_21 {E : Nat → Value} {d : Nat} {st : List Value} {h : gm_H} {r : gm_R × gm_H} {a1 a2 a3 : Value} {x : Nat} : gm_Go E d 25 21 [.ref x, a1, a2, a3] st h r ↔ gm_Go E d 25 22 [.ref x, a1, a2, a3] (.ref x :: st) h r := gr_loc m25 f25_21 rfl rfl
theorem r25_21n {E : Nat → Value} {d : Nat} {st : List Value} {h : gm_H} {r : gm_R × gm_H} {a1 a2 a3 : Value}  : gm_Go E d 25 21 [.null, a1, a2, a3] st h r ↔ gm_Go E d 25 22 [.null, a1, a2, a3] (.null :: st) h r := gr_loc m25 f25_21 rfl rfl
theorem f25_22 : gm_ft 25 22 = some (.aload_n 0, 1) := by decide +kernel
theorem r25_22 {E : Nat → Value} {d : Nat} {st : List Value} {h : gm_H} {r : gm_R × gm_H} {a1 a2 a3 : Value} {x : Nat} : gm_Go E d 25 22 [.ref x, a1, a2, a3] st h r ↔ gm_Go E d 25 23 [.ref x, a1, a2, a3] (.ref x :: st) h r := gr_loc m25 f25_22 rfl rfl
theorem r25_22n {E : Nat → Value} {d : Nat} {st : List Value} {h : gm_H} {r : gm_R × gm_H} {a1 a2 a3 : Value}  : gm_Go E d 25 22 [.null, a1, a2, a3] st h r ↔ gm_Go E d 25 23 [.null, a1, a2, a3] (.null :: st) h r := gr_loc m25 f25_22 rfl rfl
theorem f25_23 : gm_ft 25 23 = some (.getfield 96, 3) := by decide +kernel
theorem r25_23 {E : Nat → Value} {d : Nat} {st : List Value} {h : gm_H} {r : gm_R × gm_H} {lv : List Value} {a : Nat} {vs : List Value} {v : Value} (hr : gm_rd h a = some (0, vs)) (hv : vs[7]? = some v) : gm_Go E d 25 23 lv (.ref a :: st) h r ↔ gm_Go E d 25 26 lv (v :: st) h r := gr_rd m25 f25_23 rfl rfl rfl rfl (gf_get k0_96 hr hv)
theorem f25_26 : gm_ft 25 26 = some (.iload_n 1, 1) := by decide +kernel
theorem r25_26 {E : Nat → Value} {d : Nat} {st : List Value} {h : gm_H} {r : gm_R × gm_H} {a0 a2 a3 : Value} {x : Int32} : gm_Go E d 25 26 [a0, .int x, a2, a3] st h r ↔ gm_Go E d 25 27 [a0, .int x, a2, a3] (.int x :: st) h r := gr_loc m25 f25_26 rfl rfl
theorem f25_27 : gm_ft 25 27 = some (.invokevirtual 105, 3) := by decide +kernel
theorem n25_27 {st : List Value} {h : gm_H} {E : Nat → Value} {lv : List Value} {b0 b1 : Value} {a : Nat} (hs : (st.map fun v => v.category).sum ≤ 8) (he : (gm_en1 [.ref a, b0, b1]).length ≤ 6) {vs : List Value} (hr : gm_rd h a = some (0, vs)) : gm_next E 25 27 lv (b1 :: b0 :: .ref a :: st) h = some (.inr (.inl (0, 17, [.ref a, b0, b1], st))) := gn_call m25 f25_27 rfl rfl rfl rfl rfl rfl rfl (gc_virt (bs := [b1, b0]) (w := 184) rfl rfl rfl rfl hs he hr) (by decide)
theorem f25_30 : gm_ft 25 30 = some (.lstore_n 2, 1) := by decide +kernel
theorem r25_30 {E : Nat → Value} {d : Nat} {st : List Value} {h : gm_H} {r : gm_R × gm_H} {a0 a1 a2 a3 : Value} {x : Int64} : gm_Go E d 25 30 [a0, a1, a2, a3] (.long x :: st) h r ↔ gm_Go E d 25 31 [a0, gm_k a1, .long x, gm_u] st h r := gr_loc m25 f25_30 rfl rfl
theorem f25_31 : gm_ft 25 31 = some (.aload_n 0, 1) := by decide +kernel
theorem r25_31 {E : Nat → Value} {d : Nat} {st : List Value} {h : gm_H} {r : gm_R × gm_H} {a1 a2 a3 : Value} {x : Nat} : gm_Go E d 25 31 [.ref x, a1, a2, a3] st h r ↔ gm_Go E d 25 32 [.ref x, a1, a2, a3] (.ref x :: st) h r := gr_loc m25 f25_31 rfl rfl
theorem r25_31n {E : Nat → Value} {d : Nat} {st : List Value} {h : gm_H} {r : gm_R × gm_H} {a1 a2 a3 : Value}  : gm_Go E d 25 31 [.null, a1, a2, a3] st h r ↔ gm_Go E d 25 32 [.null, a1, a2, a3] (.null :: st) h r := gr_loc m25 f25_31 rfl rfl
theorem f25_32 : gm_ft 25 32 = some (.dup, 1) := by decide +kernel
theorem r25_32 {E : Nat → Value} {d : Nat} {st : List Value} {h : gm_H} {r : gm_R × gm_H} {lv : List Value} {a : Nat} : gm_Go E d 25 32 lv (.ref a :: st) h r ↔ gm_Go E d 25 33 lv (.ref a :: .ref a :: st) h r := gr_pure m25 f25_32 rfl
theorem r25_32i {E : Nat → Value} {d : Nat} {st : List Value} {h : gm_H} {r : gm_R × gm_H} {lv : List Value} {x : Int32} : gm_Go E d 25 32 lv (.int x :: st) h r ↔ gm_Go E d 25 33 lv (.int x :: .int x :: st) h r := gr_pure m25 f25_32 rfl
theorem f25_33 : gm_ft 25 33 = some (.getfield 96, 3) := by decide +kernel
theorem r25_33 {E : Nat → Value} {d : Nat} {st : List Value} {h : gm_H} {r : gm_R × gm_H} {lv : List Value} {a : Nat} {vs : List Value} {v : Value} (hr : gm_rd h a = some (0, vs)) (hv : vs[7]? = some v) : gm_Go E d 25 33 lv (.ref a :: st) h r ↔ gm_Go E d 25 36 lv (v :: st) h r := gr_rd m25 f25_33 rfl rfl rfl rfl (gf_get k0_96 hr hv)
theorem f25_36 : gm_ft 25 36 = some (.iload_n 1, 1) := by decide +kernel
theorem r25_36 {E : Nat → Value} {d : Nat} {st : List Value} {h : gm_H} {r : gm_R × gm_H} {a0 a2 a3 : Value} {x : Int32} : gm_Go E d 25 36 [a0, .int x, a2, a3] st h r ↔ gm_Go E d 25 37 [a0, .int x, a2, a3] (.int x :: st) h r := gr_loc m25 f25_36 rfl rfl
theorem f25_37 : gm_ft 25 37 = some (.iadd, 1) := by decide +kernel
theorem r25_37 {E : Nat → Value} {d : Nat} {st : List Value} {h : gm_H} {r : gm_R × gm_H} {lv : List Value} {x y : Int32} : gm_Go E d 25 37 lv (.int y :: .int x :: st) h r ↔ gm_Go E d 25 38 lv (.int (x + y) :: st) h r := gr_pure m25 f25_37 rfl
theorem f25_38 : gm_ft 25 38 = some (.putfield 96, 3) := by decide +kernel
theorem r25_38 {E : Nat → Value} {d : Nat} {st : List Value} {h : gm_H} {r : gm_R × gm_H} {lv : List Value} {a : Nat} {vs : List Value} {v : Value} (hr : gm_rd h a = some (0, vs)) (hk : 7 < vs.length) (hn : narrow (gm_ty 0 7) v = v ∧ fits (gm_ty 0 7) v = true) : gm_Go E d 25 38 lv (v :: .ref a :: st) h r ↔ gm_Go E d 25 41 lv st (gm_wr h a (0, vs.set 7 v)) r := gr_wr m25 f25_38 rfl rfl rfl rfl rfl (gf_put k0_96 hr (by decide) hk hn (by decide))
theorem f25_41 : gm_ft 25 41 = some (.lload_n 2, 1) := by decide +kernel
theorem r25_41 {E : Nat → Value} {d : Nat} {st : List Value} {h : gm_H} {r : gm_R × gm_H} {a0 a1 a3 : Value} {x : Int64} : gm_Go E d 25 41 [a0, a1, .long x, a3] st h r ↔ gm_Go E d 25 42 [a0, a1, .long x, a3] (.long x :: st) h r := gr_loc m25 f25_41 rfl rfl
theorem f25_42 : gm_ft 25 42 = some (.lreturn, 1) := by decide +kernel
theorem r25_42 {E : Nat → Value} {d : Nat} {h : gm_H} {r : gm_R × gm_H} {lv : List Value} {x : Int64} : gm_Go E d 25 42 lv [.long x] h r ↔ r = (.inl (some (.long x)), h) := gr_ret m25 f25_42 rfl rfl rfl rfl rfl rfl rfl rfl rfl
/-! GraphReader.readReference()I -/
theorem m26 : gm_mt[26]? = some (⟨"GraphReader", "readReference", "()I"⟩, prog_1_method_34_code, 2, (some .int), [], 0, 1) := rfl
theorem f26_0 : gm_ft 26 0 = some (.aload_n 0, 1) := by decide +kernel
theorem r26_0 {E : Nat → Value} {d : Nat} {st : List Value} {h : gm_H} {r : gm_R × gm_H} {a1 : Value} {x : Nat} : gm_Go E d 26 0 [.ref x, a1] st h r ↔ gm_Go E d 26 1 [.ref x, a1] (.ref x :: st) h r := gr_loc m26 f26_0 rfl rfl
theorem r26_0n {E : Nat → Value} {d : Nat} {st : List Value} {h : gm_H} {r : gm_R × gm_H} {a1 : Value}  : gm_Go E d 26 0 [.null, a1] st h r ↔ gm_Go E d 26 1 [.null, a1] (.null :: st) h r := gr_loc m26 f26_0 rfl rfl
theorem f26_1 : gm_ft 26 1 = some (.getfield 28, 3) := by decide +kernel
theorem r26_1 {E : Nat → Value} {d : Nat} {st : List Value} {h : gm_H} {r : gm_R × gm_H} {lv : List Value} {a : Nat} {vs : List Value} {v : Value} (hr : gm_rd h a = some (0, vs)) (hv : vs[10]? = some v) : gm_Go E d 26 1 lv (.ref a :: st) h r ↔ gm_Go E d 26 4 lv (v :: st) h r := gr_rd m26 f26_1 rfl rfl rfl rfl (gf_get k0_28 hr hv)
theorem f26_4 : gm_ft 26 4 = some (.getfield 215, 3) := by decide +kernel
theorem r26_4 {E : Nat → Value} {d : Nat} {st : List Value} {h : gm_H} {r : gm_R × gm_H} {lv : List Value} {a : Nat} {vs : List Value} {v : Value} (hr : gm_rd h a = some (2, vs)) (hv : vs[0]? = some v) : gm_Go E d 26 4 lv (.ref a :: st) h r ↔ gm_Go E d 26 7 lv (v :: st) h r := gr_rd m26 f26_4 rfl rfl rfl rfl (gf_get k0_215 hr hv)
theorem f26_7 : gm_ft 26 7 = some (.aload_n 0, 1) := by decide +kernel
theorem r26_7 {E : Nat → Value} {d : Nat} {st : List Value} {h : gm_H} {r : gm_R × gm_H} {a1 : Value} {x : Nat} : gm_Go E d 26 7 [.ref x, a1] st h r ↔ gm_Go E d 26 8 [.ref x, a1] (.ref x :: st) h r := gr_loc m26 f26_7 rfl rfl
theorem r26_7n {E : Nat → Value} {d : Nat} {st : List Value} {h : gm_H} {r : gm_R × gm_H} {a1 : Value}  : gm_Go E d 26 7 [.null, a1] st h r ↔ gm_Go E d 26 8 [.null, a1] (.null :: st) h r := gr_loc m26 f26_7 rfl rfl
theorem f26_8 : gm_ft 26 8 = some (.invokevirtual 219, 3) := by decide +kernel
theorem n26_8 {st : List Value} {h : gm_H} {E : Nat → Value} {lv : List Value} {a : Nat} (hs : (st.map fun v => v.category).sum ≤ 8) (he : (gm_en1 [.ref a]).length ≤ 2) {vs : List Value} (hr : gm_rd h a = some (0, vs)) : gm_next E 26 8 lv (.ref a :: st) h = some (.inr (.inl (0, 27, [.ref a], st))) := gn_call m26 f26_8 rfl rfl rfl rfl rfl rfl rfl (gc_virt (bs := []) (w := 286) rfl rfl rfl rfl hs he hr) (by decide)
theorem f26_11 : gm_ft 26 11 = some (.iaload, 1) := by decide +kernel
theorem r26_11 {E : Nat → Value} {d : Nat} {st : List Value} {h : gm_H} {r : gm_R × gm_H} {lv : List Value} {a k j : Nat} {vs : List Value} {v : Value} (hr : gm_rd h a = some (k, vs)) (hk : 100 ≤ k ∧ (fun t => t == 0) (k % 100) = true) (hj : j < 2 ^ 31) (hv : vs[j]? = some v) : gm_Go E d 26 11 lv (.int (nI j) :: .ref a :: st) h r ↔ gm_Go E d 26 12 lv (v :: st) h r := gr_rd m26 f26_11 rfl rfl rfl rfl (ga_ld (P := fun t => t == 0) hr hk hj hv)
theorem f26_12 : gm_ft 26 12 = some (.istore_n 1, 1) := by decide +kernel
theorem r26_12 {E : Nat → Value} {d : Nat} {st : List Value} {h : gm_H} {r : gm_R × gm_H} {a0 a1 : Value} {x : Int32} : gm_Go E d 26 12 [a0, a1] (.int x :: st) h r ↔ gm_Go E d 26 13 [gm_k a0, .int x] st h r := gr_loc m26 f26_12 rfl rfl
theorem f26_13 : gm_ft 26 13 = some (.iload_n 1, 1) := by decide +kernel
theorem r26_13 {E : Nat → Value} {d : Nat} {st : List Value} {h : gm_H} {r : gm_R × gm_H} {a0 : Value} {x : Int32} : gm_Go E d 26 13 [a0, .int x] st h r ↔ gm_Go E d 26 14 [a0, .int x] (.int x :: st) h r := gr_loc m26 f26_13 rfl rfl
theorem f26_14 : gm_ft 26 14 = some (.iconst (-1), 1) := by decide +kernel
theorem r26_14 {E : Nat → Value} {d : Nat} {st : List Value} {h : gm_H} {r : gm_R × gm_H} {lv : List Value} : gm_Go E d 26 14 lv st h r ↔ gm_Go E d 26 15 lv (.int (-1 : Int32) :: st) h r := gr_pure m26 f26_14 rfl
theorem f26_15 : gm_ft 26 15 = some (.if_icmp .ne 12, 3) := by decide +kernel
theorem r26_15 {E : Nat → Value} {d : Nat} {st : List Value} {h : gm_H} {r : gm_R × gm_H} {lv : List Value} {x y : Int32} : gm_Go E d 26 15 lv (.int y :: .int x :: st) h r ↔ (if x = y then gm_Go E d 26 18 lv st h r else gm_Go E d 26 27 lv st h r) := (gr_br m26 f26_15 rfl rfl rfl rfl).trans gr_ifn
theorem f26_18 : gm_ft 26 18 = some (.aload_n 0, 1) := by decide +kernel
theorem r26_18 {E : Nat → Value} {d : Nat} {st : List Value} {h : gm_H} {r : gm_R × gm_H} {a1 : Value} {x : Nat} : gm_Go E d 26 18 [.ref x, a1] st h r ↔ gm_Go E d 26 19 [.ref x, a1] (.ref x :: st) h r := gr_loc m26 f26_18 rfl rfl
theorem r26_18n {E : Nat → Value} {d : Nat} {st : List Value} {h : gm_H} {r : gm_R × gm_H} {a1 : Value}  : gm_Go E d 26 18 [.null, a1] st h r ↔ gm_Go E d 26 19 [.null, a1] (.null :: st) h r := gr_loc m26 f26_18 rfl rfl
theorem f26_19 : gm_ft 26 19 = some (.bipush (-4), 2) := by decide +kernel
theorem r26_19 {E : Nat → Value} {d : Nat} {st : List Value} {h : gm_H} {r : gm_R × gm_H} {lv : List Value} : gm_Go E d 26 19 lv st h r ↔ gm_Go E d 26 21 lv (.int (-4 : Int32) :: st) h r := gr_pure m26 f26_19 rfl
theorem f26_21 : gm_ft 26 21 = some (.invokevirtual 160, 3) := by decide +kernel
theorem n26_21 {st : List Value} {h : gm_H} {E : Nat → Value} {lv : List Value} {b0 : Value} {a : Nat} (hs : (st.map fun v => v.category).sum ≤ 8) (he : (gm_en1 [.ref a, b0]).length ≤ 2) {vs : List Value} (hr : gm_rd h a = some (0, vs)) : gm_next E 26 21 lv (b0 :: .ref a :: st) h = some (.inr (.inl (0, 22, [.ref a, b0], st))) := gn_call m26 f26_21 rfl rfl rfl rfl rfl rfl rfl (gc_virt (bs := [b0]) (w := 206) rfl rfl rfl rfl hs he hr) (by decide)
theorem f26_24 : gm_ft 26 24 = some (.goto 4, 3) := by decide +kernel
theorem r26_24 {E : Nat → Value} {d : Nat} {st : List Value} {h : gm_H} {r : gm_R × gm_H} {lv : List Value} : gm_Go E d 26 24 lv st h r ↔ gm_Go E d 26 28 lv st h r := gr_brT m26 f26_24 rfl rfl rfl rfl
theorem f26_27 : gm_ft 26 27 = some (.iload_n 1, 1) := by decide +kernel
theorem r26_27 {E : Nat → Value} {d : Nat} {st : List Value} {h : gm_H} {r : gm_R × gm_H} {a0 : Value} {x : Int32} : gm_Go E d 26 27 [a0, .int x] st h r ↔ gm_Go E d 26 28 [a0, .int x] (.int x :: st) h r := gr_loc m26 f26_27 rfl rfl
theorem f26_28 : gm_ft 26 28 = some (.ireturn, 1) := by decide +kernel
theorem r26_28 {E : Nat → Value} {d : Nat} {h : gm_H} {r : gm_R × gm_H} {lv : List Value} {x : Int32} : gm_Go E d 26 28 lv [.int x] h r ↔ r = (.inl (some (.int x)), h) := gr_ret m26 f26_28 rfl rfl rfl rfl rfl rfl rfl rfl (by unfold gm_rt; dsimp only; rw [if_pos ⟨rfl, rfl⟩])
/-! GraphReader.nextEntry()I -/
theorem m27 : gm_mt[27]? = some (⟨"GraphReader", "nextEntry", "()I"⟩, prog_1_method_33_code, 2, (some .int), [], 0, 1) := rfl
theorem f27_0 : gm_ft 27 0 = some (.aload_n 0, 1) := by decide +kernel
theorem r27_0 {E : Nat → Value} {d : Nat} {st : List Value} {h : gm_H} {r : gm_R × gm_H} {a1 : Value} {x : Nat} : gm_Go E d 27 0 [.ref x, a1] st h r ↔ gm_Go E d 27 1 [.ref x, a1] (.ref x :: st) h r := gr_loc m27 f27_0 rfl rfl
theorem r27_0n {E : Nat → Value} {d : Nat} {st : List Value} {h : gm_H} {r : gm_R × gm_H} {a1 : Value}  : gm_Go E d 27 0 [.null, a1] st h r ↔ gm_Go E d 27 1 [.null, a1] (.null :: st) h r := gr_loc m27 f27_0 rfl rfl
theorem f27_1 : gm_ft 27 1 = some (.getfield 28, 3) := by decide +kernel
theorem r27_1 {E : Nat → Value} {d : Nat} {st : List Value} {h : gm_H} {r : gm_R × gm_H} {lv : List Value} {a : Nat} {vs : List Value} {v : Value} (hr : gm_rd h a = some (0, vs)) (hv : vs[10]? = some v) : gm_Go E d 27 1 lv (.ref a :: st) h r ↔ gm_Go E d 27 4 lv (v :: st) h r := gr_rd m27 f27_1 rfl rfl rfl rfl (gf_get k0_28 hr hv)
theorem f27_4 : gm_ft 27 4 = some (.getfield 110, 3) := by decide +kernel
theorem r27_4 {E : Nat → Value} {d : Nat} {st : List Value} {h : gm_H} {r : gm_R × gm_H} {lv : List Value} {a : Nat} {vs : List Value} {v : Value} (hr : gm_rd h a = some (2, vs)) (hv : vs[2]? = some v) : gm_Go E d 27 4 lv (.ref a :: st) h r ↔ gm_Go E d 27 7 lv (v :: st) h r := gr_rd m27 f27_4 rfl rfl rfl rfl (gf_get k0_110 hr hv)
theorem f27_7 : gm_ft 27 7 = some (.aload_n 0, 1) := by decide +kernel
theorem r27_7 {E : Nat → Value} {d : Nat} {st : List Value} {h : gm_H} {r : gm_R × gm_H} {a1 : Value} {x : Nat} : gm_Go E d 27 7 [.ref x, a1] st h r ↔ gm_Go E d 27 8 [.ref x, a1] (.ref x :: st) h r := gr_loc m27 f27_7 rfl rfl
theorem r27_7n {E : Nat → Value} {d : Nat} {st : List Value} {h : gm_H} {r : gm_R × gm_H} {a1 : Value}  : gm_Go E d 27 7 [.null, a1] st h r ↔ gm_Go E d 27 8 [.null, a1] (.null :: st) h r := gr_loc m27 f27_7 rfl rfl
theorem f27_8 : gm_ft 27 8 = some (.invokevirtual 179, 3) := by decide +kernel
theorem n27_8 {st : List Value} {h : gm_H} {E : Nat → Value} {lv : List Value} {a : Nat} (hs : (st.map fun v => v.category).sum ≤ 8) (he : (gm_en1 [.ref a]).length ≤ 1) {vs : List Value} (hr : gm_rd h a = some (0, vs)) : gm_next E 27 8 lv (.ref a :: st) h = some (.inr (.inl (0, 28, [.ref a], st))) := gn_call m27 f27_8 rfl rfl rfl rfl rfl rfl rfl (gc_virt (bs := []) (w := 290) rfl rfl rfl rfl hs he hr) (by decide)
theorem f27_11 : gm_ft 27 11 = some (.iadd, 1) := by decide +kernel
theorem r27_11 {E : Nat → Value} {d : Nat} {st : List Value} {h : gm_H} {r : gm_R × gm_H} {lv : List Value} {x y : Int32} : gm_Go E d 27 11 lv (.int y :: .int x :: st) h r ↔ gm_Go E d 27 12 lv (.int (x + y) :: st) h r := gr_pure m27 f27_11 rfl
theorem f27_12 : gm_ft 27 12 = some (.ldc 214, 2) := by decide +kernel
theorem r27_12 {E : Nat → Value} {d : Nat} {st : List Value} {h : gm_H} {r : gm_R × gm_H} {lv : List Value} : gm_Go E d 27 12 lv st h r ↔ gm_Go E d 27 14 lv (.int (8257536 : Int32) :: st) h r := gr_rd m27 f27_12 rfl rfl rfl rfl rfl
theorem f27_14 : gm_ft 27 14 = some (.isub, 1) := by decide +kernel
theorem r27_14 {E : Nat → Value} {d : Nat} {st : List Value} {h : gm_H} {r : gm_R × gm_H} {lv : List Value} {x y : Int32} : gm_Go E d 27 14 lv (.int y :: .int x :: st) h r ↔ gm_Go E d 27 15 lv (.int (x - y) :: st) h r := gr_pure m27 f27_14 rfl
theorem f27_15 : gm_ft 27 15 = some (.istore_n 1, 1) := by decide +kernel
theorem r27_15 {E : Nat → Value} {d : Nat} {st : List Value} {h : gm_H} {r : gm_R × gm_H} {a0 a1 : Value} {x : Int32} : gm_Go E d 27 15 [a0, a1] (.int x :: st) h r ↔ gm_Go E d 27 16 [gm_k a0, .int x] st h r := gr_loc m27 f27_15 rfl rfl
theorem f27_16 : gm_ft 27 16 = some (.iload_n 1, 1) := by decide +kernel
theorem r27_16 {E : Nat → Value} {d : Nat} {st : List Value} {h : gm_H} {r : gm_R × gm_H} {a0 : Value} {x : Int32} : gm_Go E d 27 16 [a0, .int x] st h r ↔ gm_Go E d 27 17 [a0, .int x] (.int x :: st) h r := gr_loc m27 f27_16 rfl rfl
theorem f27_17 : gm_ft 27 17 = some (.aload_n 0, 1) := by decide +kernel
theorem r27_17 {E : Nat → Value} {d : Nat} {st : List Value} {h : gm_H} {r : gm_R × gm_H} {a1 : Value} {x : Nat} : gm_Go E d 27 17 [.ref x, a1] st h r ↔ gm_Go E d 27 18 [.ref x, a1] (.ref x :: st) h r := gr_loc m27 f27_17 rfl rfl
theorem r27_17n {E : Nat → Value} {d : Nat} {st : List Value} {h : gm_H} {r : gm_R × gm_H} {a1 : Value}  : gm_Go E d 27 17 [.null, a1] st h r ↔ gm_Go E d 27 18 [.null, a1] (.null :: st) h r := gr_loc m27 f27_17 rfl rfl
theorem f27_18 : gm_ft 27 18 = some (.getfield 28, 3) := by decide +kernel
theorem r27_18 {E : Nat → Value} {d : Nat} {st : List Value} {h : gm_H} {r : gm_R × gm_H} {lv : List Value} {a : Nat} {vs : List Value} {v : Value} (hr : gm_rd h a = some (0, vs)) (hv : vs[10]? = some v) : gm_Go E d 27 18 lv (.ref a :: st) h r ↔ gm_Go E d 27 21 lv (v :: st) h r := gr_rd m27 f27_18 rfl rfl rfl rfl (gf_get k0_28 hr hv)
theorem f27_21 : gm_ft 27 21 = some (.getfield 110, 3) := by decide +kernel
theorem r27_21 {E : Nat → Value} {d : Nat} {st : List Value} {h : gm_H} {r : gm_R × gm_H} {lv : List Value} {a : Nat} {vs : List Value} {v : Value} (hr : gm_rd h a = some (2, vs)) (hv : vs[2]? = some v) : gm_Go E d 27 21 lv (.ref a :: st) h r ↔ gm_Go E d 27 24 lv (v :: st) h r := gr_rd m27 f27_21 rfl rfl rfl rfl (gf_get k0_110 hr hv)
theorem f27_24 : gm_ft 27 24 = some (.if_icmp .lt 18, 3) := by decide +kernel
theorem r27_24 {E : Nat → Value} {d : Nat} {st : List Value} {h : gm_H} {r : gm_R × gm_H} {lv : List Value} {x y : Int32} : gm_Go E d 27 24 lv (.int y :: .int x :: st) h r ↔ (if x < y then gm_Go E d 27 42 lv st h r else gm_Go E d 27 27 lv st h r) := (gr_br m27 f27_24 rfl rfl rfl rfl).trans gr_if
theorem f27_27 : gm_ft 27 27 = some (.iload_n 1, 1) := by decide +kernel
theorem r27_27 {E : Nat → Value} {d : Nat} {st : List Value} {h : gm_H} {r : gm_R × gm_H} {a0 : Value} {x : Int32} : gm_Go E d 27 27 [a0, .int x] st h r ↔ gm_Go E d 27 28 [a0, .int x] (.int x :: st) h r := gr_loc m27 f27_27 rfl rfl
theorem f27_28 : gm_ft 27 28 = some (.aload_n 0, 1) := by decide +kernel
theorem r27_28 {E : Nat → Value} {d : Nat} {st : List Value} {h : gm_H} {r : gm_R × gm_H} {a1 : Value} {x : Nat} : gm_Go E d 27 28 [.ref x, a1] st h r ↔ gm_Go E d 27 29 [.ref x, a1] (.ref x :: st) h r := gr_loc m27 f27_28 rfl rfl
theorem r27_28n {E : Nat → Value} {d : Nat} {st : List Value} {h : gm_H} {r : gm_R × gm_H} {a1 : Value}  : gm_Go E d 27 28 [.null, a1] st h r ↔ gm_Go E d 27 29 [.null, a1] (.null :: st) h r := gr_loc m27 f27_28 rfl rfl
theorem f27_29 : gm_ft 27 29 = some (.getfield 28, 3) := by decide +kernel
theorem r27_29 {E : Nat → Value} {d : Nat} {st : List Value} {h : gm_H} {r : gm_R × gm_H} {lv : List Value} {a : Nat} {vs : List Value} {v : Value} (hr : gm_rd h a = some (0, vs)) (hv : vs[10]? = some v) : gm_Go E d 27 29 lv (.ref a :: st) h r ↔ gm_Go E d 27 32 lv (v :: st) h r := gr_rd m27 f27_29 rfl rfl rfl rfl (gf_get k0_28 hr hv)
theorem f27_32 : gm_ft 27 32 = some (.getfield 113, 3) := by decide +kernel
theorem r27_32 {E : Nat → Value} {d : Nat} {st : List Value} {h : gm_H} {r : gm_R × gm_H} {lv : List Value} {a : Nat} {vs : List Value} {v : Value} (hr : gm_rd h a = some (2, vs)) (hv : vs[3]? = some v) : gm_Go E d 27 32 lv (.ref a :: st) h r ↔ gm_Go E d 27 35 lv (v :: st) h r := gr_rd m27 f27_32 rfl rfl rfl rfl (gf_get k0_113 hr hv)
theorem f27_35 : gm_ft 27 35 = some (.if_icmp .ge 7, 3) := by decide +kernel
theorem r27_35 {E : Nat → Value} {d : Nat} {st : List Value} {h : gm_H} {r : gm_R × gm_H} {lv : List Value} {x y : Int32} : gm_Go E d 27 35 lv (.int y :: .int x :: st) h r ↔ (if y ≤ x then gm_Go E d 27 42 lv st h r else gm_Go E d 27 38 lv st h r) := (gr_br m27 f27_35 rfl rfl rfl rfl).trans gr_if
theorem f27_38 : gm_ft 27 38 = some (.iload_n 1, 1) := by decide +kernel
theorem r27_38 {E : Nat → Value} {d : Nat} {st : List Value} {h : gm_H} {r : gm_R × gm_H} {a0 : Value} {x : Int32} : gm_Go E d 27 38 [a0, .int x] st h r ↔ gm_Go E d 27 39 [a0, .int x] (.int x :: st) h r := gr_loc m27 f27_38 rfl rfl
theorem f27_39 : gm_ft 27 39 = some (.goto 9, 3) := by decide +kernel
theorem r27_39 {E : Nat → Value} {d : Nat} {st : List Value} {h : gm_H} {r : gm_R × gm_H} {lv : List Value} : gm_Go E d 27 39 lv st h r ↔ gm_Go E d 27 48 lv st h r := gr_brT m27 f27_39 rfl rfl rfl rfl
theorem f27_42 : gm_ft 27 42 = some (.aload_n 0, 1) := by decide +kernel
theorem r27_42 {E : Nat → Value} {d : Nat} {st : List Value} {h : gm_H} {r : gm_R × gm_H} {a1 : Value} {x : Nat} : gm_Go E d 27 42 [.ref x, a1] st h r ↔ gm_Go E d 27 43 [.ref x, a1] (.ref x :: st) h r := gr_loc m27 f27_42 rfl rfl
theorem r27_42n {E : Nat → Value} {d : Nat} {st : List Value} {h : gm_H} {r : gm_R × gm_H} {a1 : Value}  : gm_Go E d 27 42 [.null, a1] st h r ↔ gm_Go E d 27 43 [.null, a1] (.null :: st) h r := gr_loc m27 f27_42 rfl rfl
theorem f27_43 : gm_ft 27 43 = some (.bipush (-4), 2) := by decide +kernel
theorem r27_43 {E : Nat → Value} {d : Nat} {st : List Value} {h : gm_H} {r : gm_R × gm_H} {lv : List Value} : gm_Go E d 27 43 lv st h r ↔ gm_Go E d 27 45 lv (.int (-4 : Int32) :: st) h r := gr_pure m27 f27_43 rfl
theorem f27_45 : gm_ft 27 45 = some (.invokevirtual 160, 3) := by decide +kernel
theorem n27_45 {st : List Value} {h : gm_H} {E : Nat → Value} {lv : List Value} {b0 : Value} {a : Nat} (hs : (st.map fun v => v.category).sum ≤ 8) (he : (gm_en1 [.ref a, b0]).length ≤ 2) {vs : List Value} (hr : gm_rd h a = some (0, vs)) : gm_next E 27 45 lv (b0 :: .ref a :: st) h = some (.inr (.inl (0, 22, [.ref a, b0], st))) := gn_call m27 f27_45 rfl rfl rfl rfl rfl rfl rfl (gc_virt (bs := [b0]) (w := 206) rfl rfl rfl rfl hs he hr) (by decide)
theorem f27_48 : gm_ft 27 48 = some (.ireturn, 1) := by decide +kernel
theorem r27_48 {E : Nat → Value} {d : Nat} {h : gm_H} {r : gm_R × gm_H} {lv : List Value} {x : Int32} : gm_Go E d 27 48 lv [.int x] h r ↔ r = (.inl (some (.int x)), h) := gr_ret m27 f27_48 rfl rfl rfl rfl rfl rfl rfl rfl (by unfold gm_rt; dsimp only; rw [if_pos ⟨rfl, rfl⟩])
/-! GraphReader.nextInt()I -/
theorem m28 : gm_mt[28]? = some (⟨"GraphReader", "nextInt", "()I"⟩, prog_1_method_20_code, 1, (some .int), [], 0, 1) := rfl
theorem f28_0 : gm_ft 28 0 = some (.aload_n 0, 1) := by decide +kernel
theorem r28_0 {E : Nat → Value} {d : Nat} {st : List Value} {h : gm_H} {r : gm_R × gm_H}  {x : Nat} : gm_Go E d 28 0 [.ref x] st h r ↔ gm_Go E d 28 1 [.ref x] (.ref x :: st) h r := gr_loc m28 f28_0 rfl rfl
theorem r28_0n {E : Nat → Value} {d : Nat} {st : List Value} {h : gm_H} {r : gm_R × gm_H}   : gm_Go E d 28 0 [.null] st h r ↔ gm_Go E d 28 1 [.null] (.null :: st) h r := gr_loc m28 f28_0 rfl rfl
theorem f28_1 : gm_ft 28 1 = some (.iconst 4, 1) := by decide +kernel
theorem r28_1 {E : Nat → Value} {d : Nat} {st : List Value} {h : gm_H} {r : gm_R × gm_H} {lv : List Value} : gm_Go E d 28 1 lv st h r ↔ gm_Go E d 28 2 lv (.int (4 : Int32) :: st) h r := gr_pure m28 f28_1 rfl
theorem f28_2 : gm_ft 28 2 = some (.invokevirtual 163, 3) := by decide +kernel
theorem n28_2 {st : List Value} {h : gm_H} {E : Nat → Value} {lv : List Value} {b0 : Value} {a : Nat} (hs : (st.map fun v => v.category).sum ≤ 8) (he : (gm_en1 [.ref a, b0]).length ≤ 4) {vs : List Value} (hr : gm_rd h a = some (0, vs)) : gm_next E 28 2 lv (b0 :: .ref a :: st) h = some (.inr (.inl (0, 25, [.ref a, b0], st))) := gn_call m28 f28_2 rfl rfl rfl rfl rfl rfl rfl (gc_virt (bs := [b0]) (w := 278) rfl rfl rfl rfl hs he hr) (by decide)
theorem f28_5 : gm_ft 28 5 = some (.l2i, 1) := by decide +kernel
theorem r28_5 {E : Nat → Value} {d : Nat} {st : List Value} {h : gm_H} {r : gm_R × gm_H} {lv : List Value} {x : Int64} : gm_Go E d 28 5 lv (.long x :: st) h r ↔ gm_Go E d 28 6 lv (.int (x.toInt32) :: st) h r := gr_pure m28 f28_5 rfl
theorem f28_6 : gm_ft 28 6 = some (.ireturn, 1) := by decide +kernel
theorem r28_6 {E : Nat → Value} {d : Nat} {h : gm_H} {r : gm_R × gm_H} {lv : List Value} {x : Int32} : gm_Go E d 28 6 lv [.int x] h r ↔ r = (.inl (some (.int x)), h) := gr_ret m28 f28_6 rfl rfl rfl rfl rfl rfl rfl rfl (by unfold gm_rt; dsimp only; rw [if_pos ⟨rfl, rfl⟩])
/-! GraphReader.readDescriptor(II)LGraphReader$Descriptor; -/
theorem m29 : gm_mt[29]? = some (⟨"GraphReader", "readDescriptor", "(II)LGraphReader$Descriptor;"⟩, prog_1_method_47_code, 8, (some (.object "GraphReader$Descriptor")), [], 0, 1) := rfl
theorem f29_0 : gm_ft 29 0 = some (.aload_n 0, 1) := by decide +kernel
theorem r29_0 {E : Nat → Value} {d : Nat} {st : List Value} {h : gm_H} {r : gm_R × gm_H} {a1 a2 a3 a4 a5 a6 a7 : Value} {x : Nat} : gm_Go E d 29 0 [.ref x, a1, a2, a3, a4, a5, a6, a7] st h r ↔ gm_Go E d 29 1 [.ref x, a1, a2, a3, a4, a5, a6, a7] (.ref x :: st) h r := gr_loc m29 f29_0 rfl rfl
theorem r29_0n {E : Nat → Value} {d : Nat} {st : List Value} {h : gm_H} {r : gm_R × gm_H} {a1 a2 a3 a4 a5 a6 a7 : Value}  : gm_Go E d 29 0 [.null, a1, a2, a3, a4, a5, a6, a7] st h r ↔ gm_Go E d 29 1 [.null, a1, a2, a3, a4, a5, a6, a7] (.null :: st) h r := gr_loc m29 f29_0 rfl rfl
theorem f29_1 : gm_ft 29 1 = some (.invokevirtual 176, 3) := by decide +kernel
theorem n29_1 {st : List Value} {h : gm_H} {E : Nat → Value} {lv : List Value} {a : Nat} (hs : (st.map fun v => v.category).sum ≤ 8) (he : (gm_en1 [.ref a]).length ≤ 1) {vs : List Value} (hr : gm_rd h a = some (0, vs)) : gm_next E 29 1 lv (.ref a :: st) h = some (.inr (.inl (0, 24, [.ref a], st))) := gn_call m29 f29_1 rfl rfl rfl rfl rfl rfl rfl (gc_virt (bs := []) (w := 274) rfl rfl rfl rfl hs he hr) (by decide)
theorem f29_4 : gm_ft 29 4 = some (.istore_n 3, 1) := by decide +kernel
theorem r29_4 {E : Nat → Value} {d : Nat} {st : List Value} {h : gm_H} {r : gm_R × gm_H} {a0 a1 a2 a3 a4 a5 a6 a7 : Value} {x : Int32} : gm_Go E d 29 4 [a0, a1, a2, a3, a4, a5, a6, a7] (.int x :: st) h r ↔ gm_Go E d 29 5 [a0, a1, gm_k a2, .int x, a4, a5, a6, a7] st h r := gr_loc m29 f29_4 rfl rfl
theorem f29_5 : gm_ft 29 5 = some (.iload_n 3, 1) := by decide +kernel
theorem r29_5 {E : Nat → Value} {d : Nat} {st : List Value} {h : gm_H} {r : gm_R × gm_H} {a0 a1 a2 a4 a5 a6 a7 : Value} {x : Int32} : gm_Go E d 29 5 [a0, a1, a2, .int x, a4, a5, a6, a7] st h r ↔ gm_Go E d 29 6 [a0, a1, a2, .int x, a4, a5, a6, a7] (.int x :: st) h r := gr_loc m29 f29_5 rfl rfl
theorem f29_6 : gm_ft 29 6 = some (.bipush 112, 2) := by decide +kernel
theorem r29_6 {E : Nat → Value} {d : Nat} {st : List Value} {h : gm_H} {r : gm_R × gm_H} {lv : List Value} : gm_Go E d 29 6 lv st h r ↔ gm_Go E d 29 8 lv (.int (112 : Int32) :: st) h r := gr_pure m29 f29_6 rfl
theorem f29_8 : gm_ft 29 8 = some (.if_icmp .ne 5, 3) := by decide +kernel
theorem r29_8 {E : Nat → Value} {d : Nat} {st : List Value} {h : gm_H} {r : gm_R × gm_H} {lv : List Value} {x y : Int32} : gm_Go E d 29 8 lv (.int y :: .int x :: st) h r ↔ (if x = y then gm_Go E d 29 11 lv st h r else gm_Go E d 29 13 lv st h r) := (gr_br m29 f29_8 rfl rfl rfl rfl).trans gr_ifn
theorem f29_11 : gm_ft 29 11 = some (.aconst_null, 1) := by decide +kernel
theorem r29_11 {E : Nat → Value} {d : Nat} {st : List Value} {h : gm_H} {r : gm_R × gm_H} {lv : List Value} : gm_Go E d 29 11 lv st h r ↔ gm_Go E d 29 12 lv (.null :: st) h r := gr_pure m29 f29_11 rfl
theorem f29_12 : gm_ft 29 12 = some (.areturn, 1) := by decide +kernel
theorem r29_12 {E : Nat → Value} {d : Nat} {h : gm_H} {r : gm_R × gm_H} {lv : List Value} {a : Nat} : gm_Go E d 29 12 lv [.ref a] h r ↔ r = (.inl (some (.ref a)), h) := gr_ret m29 f29_12 rfl rfl rfl rfl rfl rfl rfl rfl rfl
theorem r29_12n {E : Nat → Value} {d : Nat} {h : gm_H} {r : gm_R × gm_H} {lv : List Value} : gm_Go E d 29 12 lv [.null] h r ↔ r = (.inl (some .null), h) := gr_ret m29 f29_12 rfl rfl rfl rfl rfl rfl rfl rfl rfl
theorem f29_13 : gm_ft 29 13 = some (.iload_n 3, 1) := by decide +kernel
theorem r29_13 {E : Nat → Value} {d : Nat} {st : List Value} {h : gm_H} {r : gm_R × gm_H} {a0 a1 a2 a4 a5 a6 a7 : Value} {x : Int32} : gm_Go E d 29 13 [a0, a1, a2, .int x, a4, a5, a6, a7] st h r ↔ gm_Go E d 29 14 [a0, a1, a2, .int x, a4, a5, a6, a7] (.int x :: st) h r := gr_loc m29 f29_13 rfl rfl
theorem f29_14 : gm_ft 29 14 = some (.bipush 113, 2) := by decide +kernel
theorem r29_14 {E : Nat → Value} {d : Nat} {st : List Value} {h : gm_H} {r : gm_R × gm_H} {lv : List Value} : gm_Go E d 29 14 lv st h r ↔ gm_Go E d 29 16 lv (.int (113 : Int32) :: st) h r := gr_pure m29 f29_14 rfl
theorem f29_16 : gm_ft 29 16 = some (.if_icmp .ne 32, 3) := by decide +kernel
theorem r29_16 {E : Nat → Value} {d : Nat} {st : List Value} {h : gm_H} {r : gm_R × gm_H} {lv : List Value} {x y : Int32} : gm_Go E d 29 16 lv (.int y :: .int x :: st) h r ↔ (if x = y then gm_Go E d 29 19 lv st h r else gm_Go E d 29 48 lv st h r) := (gr_br m29 f29_16 rfl rfl rfl rfl).trans gr_ifn
theorem f29_19 : gm_ft 29 19 = some (.aload_n 0, 1) := by decide +kernel
theorem r29_19 {E : Nat → Value} {d : Nat} {st : List Value} {h : gm_H} {r : gm_R × gm_H} {a1 a2 a3 a4 a5 a6 a7 : Value} {x : Nat} : gm_Go E d 29 19 [.ref x, a1, a2, a3, a4, a5, a6, a7] st h r ↔ gm_Go E d 29 20 [.ref x, a1, a2, a3, a4, a5, a6, a7] (.ref x :: st) h r := gr_loc m29 f29_19 rfl rfl
theorem r29_19n {E : Nat → Value} {d : Nat} {st : List Value} {h : gm_H} {r : gm_R × gm_H} {a1 a2 a3 a4 a5 a6 a7 : Value}  : gm_Go E d 29 19 [.null, a1, a2, a3, a4, a5, a6, a7] st h r ↔ gm_Go E d 29 20 [.null, a1, a2, a3, a4, a5, a6, a7] (.null :: st) h r := gr_loc m29 f29_19 rfl rfl
theorem f29_20 : gm_ft 29 20 = some (.getfield 28, 3) := by decide +kernel
theorem r29_20 {E : Nat → Value} {d : Nat} {st : List Value} {h : gm_H} {r : gm_R × gm_H} {lv : List Value} {a : Nat} {vs : List Value} {v : Value} (hr : gm_rd h a = some (0, vs)) (hv : vs[10]? = some v) : gm_Go E d 29 20 lv (.ref a :: st) h r ↔ gm_Go E d 29 23 lv (v :: st) h r := gr_rd m29 f29_20 rfl rfl rfl rfl (gf_get k0_28 hr hv)
theorem f29_23 : gm_ft 29 23 = some (.getfield 322, 3) := by decide +kernel
theorem r29_23 {E : Nat → Value} {d : Nat} {st : List Value} {h : gm_H} {r : gm_R × gm_H} {lv : List Value} {a : Nat} {vs : List Value} {v : Value} (hr : gm_rd h a = some (2, vs)) (hv : vs[1]? = some v) : gm_Go E d 29 23 lv (.ref a :: st) h r ↔ gm_Go E d 29 26 lv (v :: st) h r := gr_rd m29 f29_23 rfl rfl rfl rfl (gf_get k0_322 hr hv)
theorem f29_26 : gm_ft 29 26 = some (.aload_n 0, 1) := by decide +kernel
theorem r29_26 {E : Nat → Value} {d : Nat} {st : List Value} {h : gm_H} {r : gm_R × gm_H} {a1 a2 a3 a4 a5 a6 a7 : Value} {x : Nat} : gm_Go E d 29 26 [.ref x, a1, a2, a3, a4, a5, a6, a7] st h r ↔ gm_Go E d 29 27 [.ref x, a1, a2, a3, a4, a5, a6, a7] (.ref x :: st) h r := gr_loc m29 f29_26 rfl rfl
theorem r29_26n {E : Nat → Value} {d : Nat} {st : List Value} {h : gm_H} {r : gm_R × gm_H} {a1 a2 a3 a4 a5 a6 a7 : Value}  : gm_Go E d 29 26 [.null, a1, a2, a3, a4, a5, a6, a7] st h r ↔ gm_Go E d 29 27 [.null, a1, a2, a3, a4, a5, a6, a7] (.null :: st) h r := gr_loc m29 f29_26 rfl rfl
theorem f29_27 : gm_ft 29 27 = some (.invokevirtual 219, 3) := by decide +kernel
theorem n29_27 {st : List Value} {h : gm_H} {E : Nat → Value} {lv : List Value} {a : Nat} (hs : (st.map fun v => v.category).sum ≤ 8) (he : (gm_en1 [.ref a]).length ≤ 2) {vs : List Value} (hr : gm_rd h a = some (0, vs)) : gm_next E 29 27 lv (.ref a :: st) h = some (.inr (.inl (0, 27, [.ref a], st))) := gn_call m29 f29_27 rfl rfl rfl rfl rfl rfl rfl (gc_virt (bs := []) (w := 286) rfl rfl rfl rfl hs he hr) (by decide)
theorem f29_30 : gm_ft 29 30 = some (.aaload, 1) := by decide +kernel
theorem r29_30 {E : Nat → Value} {d : Nat} {st : List Value} {h : gm_H} {r : gm_R × gm_H} {lv : List Value} {a k j : Nat} {vs : List Value} {v : Value} (hr : gm_rd h a = some (k, vs)) (hk : 100 ≤ k ∧ (fun t => t == 10 || t == 11 || t == 12) (k % 100) = true) (hj : j < 2 ^ 31) (hv : vs[j]? = some v) : gm_Go E d 29 30 lv (.int (nI j) :: .ref a :: st) h r ↔ gm_Go E d 29 31 lv (v :: st) h r := gr_rd m29 f29_30 rfl rfl rfl rfl (ga_ld (P := fun t => t == 10 || t == 11 || t == 12) hr hk hj hv)
theorem f29_31 : gm_ft 29 31 = some (.astore 4, 2) := by decide +kernel
theorem r29_31 {E : Nat → Value} {d : Nat} {st : List Value} {h : gm_H} {r : gm_R × gm_H} {a0 a1 a2 a3 a4 a5 a6 a7 : Value} {x : Nat} : gm_Go E d 29 31 [a0, a1, a2, a3, a4, a5, a6, a7] (.ref x :: st) h r ↔ gm_Go E d 29 33 [a0, a1, a2, gm_k a3, .ref x, a5, a6, a7] st h r := gr_loc m29 f29_31 rfl rfl
theorem r29_31n {E : Nat → Value} {d : Nat} {st : List Value} {h : gm_H} {r : gm_R × gm_H} {a0 a1 a2 a3 a4 a5 a6 a7 : Value}  : gm_Go E d 29 31 [a0, a1, a2, a3, a4, a5, a6, a7] (.null :: st) h r ↔ gm_Go E d 29 33 [a0, a1, a2, gm_k a3, .null, a5, a6, a7] st h r := gr_loc m29 f29_31 rfl rfl
theorem f29_33 : gm_ft 29 33 = some (.aload 4, 2) := by decide +kernel
theorem r29_33 {E : Nat → Value} {d : Nat} {st : List Value} {h : gm_H} {r : gm_R × gm_H} {a0 a1 a2 a3 a5 a6 a7 : Value} {x : Nat} : gm_Go E d 29 33 [a0, a1, a2, a3, .ref x, a5, a6, a7] st h r ↔ gm_Go E d 29 35 [a0, a1, a2, a3, .ref x, a5, a6, a7] (.ref x :: st) h r := gr_loc m29 f29_33 rfl rfl
theorem r29_33n {E : Nat → Value} {d : Nat} {st : List Value} {h : gm_H} {r : gm_R × gm_H} {a0 a1 a2 a3 a5 a6 a7 : Value}  : gm_Go E d 29 33 [a0, a1, a2, a3, .null, a5, a6, a7] st h r ↔ gm_Go E d 29 35 [a0, a1, a2, a3, .null, a5, a6, a7] (.null :: st) h r := gr_loc m29 f29_33 rfl rfl
theorem f29_35 : gm_ft 29 35 = some (.ifnonnull 10, 3) := by decide +kernel
theorem r29_35n {E : Nat → Value} {d : Nat} {st : List Value} {h : gm_H} {r : gm_R × gm_H} {lv : List Value} : gm_Go E d 29 35 lv (.null :: st) h r ↔ gm_Go E d 29 38 lv st h r := gr_brF m29 f29_35 rfl rfl rfl rfl
theorem r29_35 {E : Nat → Value} {d : Nat} {st : List Value} {h : gm_H} {r : gm_R × gm_H} {lv : List Value} {a : Nat} : gm_Go E d 29 35 lv (.ref a :: st) h r ↔ gm_Go E d 29 45 lv st h r := gr_brT m29 f29_35 rfl rfl rfl rfl
theorem f29_38 : gm_ft 29 38 = some (.aload_n 0, 1) := by decide +kernel
theorem r29_38 {E : Nat → Value} {d : Nat} {st : List Value} {h : gm_H} {r : gm_R × gm_H} {a1 a2 a3 a4 a5 a6 a7 : Value} {x : Nat} : gm_Go E d 29 38 [.ref x, a1, a2, a3, a4, a5, a6, a7] st h r ↔ gm_Go E d 29 39 [.ref x, a1, a2, a3, a4, a5, a6, a7] (.ref x :: st) h r := gr_loc m29 f29_38 rfl rfl
theorem r29_38n {E : Nat → Value} {d : Nat} {st : List Value} {h : gm_H} {r : gm_R × gm_H} {a1 a2 a3 a4 a5 a6 a7 : Value}  : gm_Go E d 29 38 [.null, a1, a2, a3, a4, a5, a6, a7] st h r ↔ gm_Go E d 29 39 [.null, a1, a2, a3, a4, a5, a6, a7] (.null :: st) h r := gr_loc m29 f29_38 rfl rfl
theorem f29_39 : gm_ft 29 39 = some (.bipush (-4), 2) := by decide +kernel
theorem r29_39 {E : Nat → Value} {d : Nat} {st : List Value} {h : gm_H} {r : gm_R × gm_H} {lv : List Value} : gm_Go E d 29 39 lv st h r ↔ gm_Go E d 29 41 lv (.int (-4 : Int32) :: st) h r := gr_pure m29 f29_39 rfl
theorem f29_41 : gm_ft 29 41 = some (.invokevirtual 160, 3) := by decide +kernel
theorem n29_41 {st : List Value} {h : gm_H} {E : Nat → Value} {lv : List Value} {b0 : Value} {a : Nat} (hs : (st.map fun v => v.category).sum ≤ 8) (he : (gm_en1 [.ref a, b0]).length ≤ 2) {vs : List Value} (hr : gm_rd h a = some (0, vs)) : gm_next E 29 41 lv (b0 :: .ref a :: st) h = some (.inr (.inl (0, 22, [.ref a, b0], st))) := gn_call m29 f29_41 rfl rfl rfl rfl rfl rfl rfl (gc_virt (bs := [b0]) (w := 206) rfl rfl rfl rfl hs he hr) (by decide)
theorem f29_44 : gm_ft 29 44 = some (.pop, 1) := by decide +kernel
theorem r29_44 {E : Nat → Value} {d : Nat} {st : List Value} {h : gm_H} {r : gm_R × gm_H} {lv : List Value} {x : Int32} : gm_Go E d 29 44 lv (.int x :: st) h r ↔ gm_Go E d 29 45 lv st h r := gr_pure m29 f29_44 rfl
theorem r29_44a {E : Nat → Value} {d : Nat} {st : List Value} {h : gm_H} {r : gm_R × gm_H} {lv : List Value} {a : Nat} : gm_Go E d 29 44 lv (.ref a :: st) h r ↔ gm_Go E d 29 45 lv st h r := gr_pure m29 f29_44 rfl
theorem r29_44n {E : Nat → Value} {d : Nat} {st : List Value} {h : gm_H} {r : gm_R × gm_H} {lv : List Value} : gm_Go E d 29 44 lv (.null :: st) h r ↔ gm_Go E d 29 45 lv st h r := gr_pure m29 f29_44 rfl
theorem f29_45 : gm_ft 29 45 = some (.aload 4, 2) := by decide +kernel
theorem r29_45 {E : Nat → Value} {d : Nat} {st : List Value} {h : gm_H} {r : gm_R × gm_H} {a0 a1 a2 a3 a5 a6 a7 : Value} {x : Nat} : gm_Go E d 29 45 [a0, a1, a2, a3, .ref x, a5, a6, a7] st h r ↔ gm_Go E d 29 47 [a0, a1, a2, a3, .ref x, a5, a6, a7] (.ref x :: st) h r := gr_loc m29 f29_45 rfl rfl
theorem r29_45n {E : Nat → Value} {d : Nat} {st : List Value} {h : gm_H} {r : gm_R × gm_H} {a0 a1 a2 a3 a5 a6 a7 : Value}  : gm_Go E d 29 45 [a0, a1, a2, a3, .null, a5, a6, a7] st h r ↔ gm_Go E d 29 47 [a0, a1, a2, a3, .null, a5, a6, a7] (.null :: st) h r := gr_loc m29 f29_45 rfl rfl
theorem f29_47 : gm_ft 29 47 = some (.areturn, 1) := by decide +kernel
theorem r29_47 {E : Nat → Value} {d : Nat} {h : gm_H} {r : gm_R × gm_H} {lv : List Value} {a : Nat} : gm_Go E d 29 47 lv [.ref a] h r ↔ r = (.inl (some (.ref a)), h) := gr_ret m29 f29_47 rfl rfl rfl rfl rfl rfl rfl rfl rfl
theorem r29_47n {E : Nat → Value} {d : Nat} {h : gm_H} {r : gm_R × gm_H} {lv : List Value} : gm_Go E d 29 47 lv [.null] h r ↔ r = (.inl (some .null), h) := gr_ret m29 f29_47 rfl rfl rfl rfl rfl rfl rfl rfl rfl
theorem f29_48 : gm_ft 29 48 = some (.iload_n 3, 1) := by decide +kernel
theorem r29_48 {E : Nat → Value} {d : Nat} {st : List Value} {h : gm_H} {r : gm_R × gm_H} {a0 a1 a2 a4 a5 a6 a7 : Value} {x : Int32} : gm_Go E d 29 48 [a0, a1, a2, .int x, a4, a5, a6, a7] st h r ↔ gm_Go E d 29 49 [a0, a1, a2, .int x, a4, a5, a6, a7] (.int x :: st) h r := gr_loc m29 f29_48 rfl rfl
theorem f29_49 : gm_ft 29 49 = some (.bipush 114, 2) := by decide +kernel
theorem r29_49 {E : Nat → Value} {d : Nat} {st : List Value} {h : gm_H} {r : gm_R × gm_H} {lv : List Value} : gm_Go E d 29 49 lv st h r ↔ gm_Go E d 29 51 lv (.int (114 : Int32) :: st) h r := gr_pure m29 f29_49 rfl
theorem f29_51 : gm_ft 29 51 = some (.if_icmp .ne 9, 3) := by decide +kernel
theorem r29_51 {E : Nat → Value} {d : Nat} {st : List Value} {h : gm_H} {r : gm_R × gm_H} {lv : List Value} {x y : Int32} : gm_Go E d 29 51 lv (.int y :: .int x :: st) h r ↔ (if x = y then gm_Go E d 29 54 lv st h r else gm_Go E d 29 60 lv st h r) := (gr_br m29 f29_51 rfl rfl rfl rfl).trans gr_ifn
theorem f29_54 : gm_ft 29 54 = some (.iload_n 2, 1) := by decide +kernel
theorem r29_54 {E : Nat → Value} {d : Nat} {st : List Value} {h : gm_H} {r : gm_R × gm_H} {a0 a1 a3 a4 a5 a6 a7 : Value} {x : Int32} : gm_Go E d 29 54 [a0, a1, .int x, a3, a4, a5, a6, a7] st h r ↔ gm_Go E d 29 55 [a0, a1, .int x, a3, a4, a5, a6, a7] (.int x :: st) h r := gr_loc m29 f29_54 rfl rfl
theorem f29_55 : gm_ft 29 55 = some (.bipush 8, 2) := by decide +kernel
theorem r29_55 {E : Nat → Value} {d : Nat} {st : List Value} {h : gm_H} {r : gm_R × gm_H} {lv : List Value} : gm_Go E d 29 55 lv st h r ↔ gm_Go E d 29 57 lv (.int (8 : Int32) :: st) h r := gr_pure m29 f29_55 rfl
theorem f29_57 : gm_ft 29 57 = some (.if_icmp .le 10, 3) := by decide +kernel
theorem r29_57 {E : Nat → Value} {d : Nat} {st : List Value} {h : gm_H} {r : gm_R × gm_H} {lv : List Value} {x y : Int32} : gm_Go E d 29 57 lv (.int y :: .int x :: st) h r ↔ (if x ≤ y then gm_Go E d 29 67 lv st h r else gm_Go E d 29 60 lv st h r) := (gr_br m29 f29_57 rfl rfl rfl rfl).trans gr_if
theorem f29_60 : gm_ft 29 60 = some (.aload_n 0, 1) := by decide +kernel
theorem r29_60 {E : Nat → Value} {d : Nat} {st : List Value} {h : gm_H} {r : gm_R × gm_H} {a1 a2 a3 a4 a5 a6 a7 : Value} {x : Nat} : gm_Go E d 29 60 [.ref x, a1, a2, a3, a4, a5, a6, a7] st h r ↔ gm_Go E d 29 61 [.ref x, a1, a2, a3, a4, a5, a6, a7] (.ref x :: st) h r := gr_loc m29 f29_60 rfl rfl
theorem r29_60n {E : Nat → Value} {d : Nat} {st : List Value} {h : gm_H} {r : gm_R × gm_H} {a1 a2 a3 a4 a5 a6 a7 : Value}  : gm_Go E d 29 60 [.null, a1, a2, a3, a4, a5, a6, a7] st h r ↔ gm_Go E d 29 61 [.null, a1, a2, a3, a4, a5, a6, a7] (.null :: st) h r := gr_loc m29 f29_60 rfl rfl
theorem f29_61 : gm_ft 29 61 = some (.bipush (-4), 2) := by decide +kernel
theorem r29_61 {E : Nat → Value} {d : Nat} {st : List Value} {h : gm_H} {r : gm_R × gm_H} {lv : List Value} : gm_Go E d 29 61 lv st h r ↔ gm_Go E d 29 63 lv (.int (-4 : Int32) :: st) h r := gr_pure m29 f29_61 rfl
theorem f29_63 : gm_ft 29 63 = some (.invokevirtual 160, 3) := by decide +kernel
theorem n29_63 {st : List Value} {h : gm_H} {E : Nat → Value} {lv : List Value} {b0 : Value} {a : Nat} (hs : (st.map fun v => v.category).sum ≤ 8) (he : (gm_en1 [.ref a, b0]).length ≤ 2) {vs : List Value} (hr : gm_rd h a = some (0, vs)) : gm_next E 29 63 lv (b0 :: .ref a :: st) h = some (.inr (.inl (0, 22, [.ref a, b0], st))) := gn_call m29 f29_63 rfl rfl rfl rfl rfl rfl rfl (gc_virt (bs := [b0]) (w := 206) rfl rfl rfl rfl hs he hr) (by decide)
theorem f29_66 : gm_ft 29 66 = some (.pop, 1) := by decide +kernel
theorem r29_66 {E : Nat → Value} {d : Nat} {st : List Value} {h : gm_H} {r : gm_R × gm_H} {lv : List Value} {x : Int32} : gm_Go E d 29 66 lv (.int x :: st) h r ↔ gm_Go E d 29 67 lv st h r := gr_pure m29 f29_66 rfl
theorem r29_66a {E : Nat → Value} {d : Nat} {st : List Value} {h : gm_H} {r : gm_R × gm_H} {lv : List Value} {a : Nat} : gm_Go E d 29 66 lv (.ref a :: st) h r ↔ gm_Go E d 29 67 lv st h r := gr_pure m29 f29_66 rfl
theorem r29_66n {E : Nat → Value} {d : Nat} {st : List Value} {h : gm_H} {r : gm_R × gm_H} {lv : List Value} : gm_Go E d 29 66 lv (.null :: st) h r ↔ gm_Go E d 29 67 lv st h r := gr_pure m29 f29_66 rfl
theorem f29_67 : gm_ft 29 67 = some (.aload_n 0, 1) := by decide +kernel
theorem r29_67 {E : Nat → Value} {d : Nat} {st : List Value} {h : gm_H} {r : gm_R × gm_H} {a1 a2 a3 a4 a5 a6 a7 : Value} {x : Nat} : gm_Go E d 29 67 [.ref x, a1, a2, a3, a4, a5, a6, a7] st h r ↔ gm_Go E d 29 68 [.ref x, a1, a2, a3, a4, a5, a6, a7] (.ref x :: st) h r := gr_loc m29 f29_67 rfl rfl
theorem r29_67n {E : Nat → Value} {d : Nat} {st : List Value} {h : gm_H} {r : gm_R × gm_H} {a1 a2 a3 a4 a5 a6 a7 : Value}  : gm_Go E d 29 67 [.null, a1, a2, a3, a4, a5, a6, a7] st h r ↔ gm_Go E d 29 68 [.null, a1, a2, a3, a4, a5, a6, a7] (.null :: st) h r := gr_loc m29 f29_67 rfl rfl
theorem f29_68 : gm_ft 29 68 = some (.invokevirtual 225, 3) := by decide +kernel
theorem n29_68 {st : List Value} {h : gm_H} {E : Nat → Value} {lv : List Value} {a : Nat} (hs : (st.map fun v => v.category).sum ≤ 8) (he : (gm_en1 [.ref a]).length ≤ 4) {vs : List Value} (hr : gm_rd h a = some (0, vs)) : gm_next E 29 68 lv (.ref a :: st) h = some (.inr (.inl (0, 30, [.ref a], st))) := gn_call m29 f29_68 rfl rfl rfl rfl rfl rfl rfl (gc_virt (bs := []) (w := 299) rfl rfl rfl rfl hs he hr) (by decide)
theorem f29_71 : gm_ft 29 71 = some (.istore 4, 2) := by decide +kernel
theorem r29_71 {E : Nat → Value} {d : Nat} {st : List Value} {h : gm_H} {r : gm_R × gm_H} {a0 a1 a2 a3 a4 a5 a6 a7 : Value} {x : Int32} : gm_Go E d 29 71 [a0, a1, a2, a3, a4, a5, a6, a7] (.int x :: st) h r ↔ gm_Go E d 29 73 [a0, a1, a2, gm_k a3, .int x, a5, a6, a7] st h r := gr_loc m29 f29_71 rfl rfl
theorem f29_73 : gm_ft 29 73 = some (.aload_n 0, 1) := by decide +kernel
theorem r29_73 {E : Nat → Value} {d : Nat} {st : List Value} {h : gm_H} {r : gm_R × gm_H} {a1 a2 a3 a4 a5 a6 a7 : Value} {x : Nat} : gm_Go E d 29 73 [.ref x, a1, a2, a3, a4, a5, a6, a7] st h r ↔ gm_Go E d 29 74 [.ref x, a1, a2, a3, a4, a5, a6, a7] (.ref x :: st) h r := gr_loc m29 f29_73 rfl rfl
theorem r29_73n {E : Nat → Value} {d : Nat} {st : List Value} {h : gm_H} {r : gm_R × gm_H} {a1 a2 a3 a4 a5 a6 a7 : Value}  : gm_Go E d 29 73 [.null, a1, a2, a3, a4, a5, a6, a7] st h r ↔ gm_Go E d 29 74 [.null, a1, a2, a3, a4, a5, a6, a7] (.null :: st) h r := gr_loc m29 f29_73 rfl rfl
theorem f29_74 : gm_ft 29 74 = some (.getfield 96, 3) := by decide +kernel
theorem r29_74 {E : Nat → Value} {d : Nat} {st : List Value} {h : gm_H} {r : gm_R × gm_H} {lv : List Value} {a : Nat} {vs : List Value} {v : Value} (hr : gm_rd h a = some (0, vs)) (hv : vs[7]? = some v) : gm_Go E d 29 74 lv (.ref a :: st) h r ↔ gm_Go E d 29 77 lv (v :: st) h r := gr_rd m29 f29_74 rfl rfl rfl rfl (gf_get k0_96 hr hv)
theorem f29_77 : gm_ft 29 77 = some (.iload 4, 2) := by decide +kernel
theorem r29_77 {E : Nat → Value} {d : Nat} {st : List Value} {h : gm_H} {r : gm_R × gm_H} {a0 a1 a2 a3 a5 a6 a7 : Value} {x : Int32} : gm_Go E d 29 77 [a0, a1, a2, a3, .int x, a5, a6, a7] st h r ↔ gm_Go E d 29 79 [a0, a1, a2, a3, .int x, a5, a6, a7] (.int x :: st) h r := gr_loc m29 f29_77 rfl rfl
theorem f29_79 : gm_ft 29 79 = some (.isub, 1) := by decide +kernel
theorem r29_79 {E : Nat → Value} {d : Nat} {st : List Value} {h : gm_H} {r : gm_R × gm_H} {lv : List Value} {x y : Int32} : gm_Go E d 29 79 lv (.int y :: .int x :: st) h r ↔ gm_Go E d 29 80 lv (.int (x - y) :: st) h r := gr_pure m29 f29_79 rfl
theorem f29_80 : gm_ft 29 80 = some (.istore 5, 2) := by decide +kernel
theorem r29_80 {E : Nat → Value} {d : Nat} {st : List Value} {h : gm_H} {r : gm_R × gm_H} {a0 a1 a2 a3 a4 a5 a6 a7 : Value} {x : Int32} : gm_Go E d 29 80 [a0, a1, a2, a3, a4, a5, a6, a7] (.int x :: st) h r ↔ gm_Go E d 29 82 [a0, a1, a2, a3, gm_k a4, .int x, a6, a7] st h r := gr_loc m29 f29_80 rfl rfl
theorem f29_82 : gm_ft 29 82 = some (.new 189, 3) := by decide +kernel
theorem r29_82 {E : Nat → Value} {d : Nat} {st : List Value} {h : gm_H} {r : gm_R × gm_H} {lv : List Value} : gm_Go E d 29 82 lv st h r ↔ gm_Go E d 29 85 lv (.ref h.1 :: st) (gm_nw h (1, (List.range (gm_N 1)).map (fun k => defaultValue (gm_ty 1 k))) (gm_N 1)) r := gr_nw m29 f29_82 rfl rfl rfl rfl rfl rfl rfl
theorem f29_85 : gm_ft 29 85 = some (.dup, 1) := by decide +kernel
theorem r29_85 {E : Nat → Value} {d : Nat} {st : List Value} {h : gm_H} {r : gm_R × gm_H} {lv : List Value} {a : Nat} : gm_Go E d 29 85 lv (.ref a :: st) h r ↔ gm_Go E d 29 86 lv (.ref a :: .ref a :: st) h r := gr_pure m29 f29_85 rfl
theorem r29_85i {E : Nat → Value} {d : Nat} {st : List Value} {h : gm_H} {r : gm_R × gm_H} {lv : List Value} {x : Int32} : gm_Go E d 29 85 lv (.int x :: st) h r ↔ gm_Go E d 29 86 lv (.int x :: .int x :: st) h r := gr_pure m29 f29_85 rfl
theorem f29_86 : gm_ft 29 86 = some (.iload 4, 2) := by decide +kernel
theorem r29_86 {E : Nat → Value} {d : Nat} {st : List Value} {h : gm_H} {r : gm_R × gm_H} {a0 a1 a2 a3 a5 a6 a7 : Value} {x : Int32} : gm_Go E d 29 86 [a0, a1, a2, a3, .int x, a5, a6, a7] st h r ↔ gm_Go E d 29 88 [a0, a1, a2, a3, .int x, a5, a6, a7] (.int x :: st) h r := gr_loc m29 f29_86 rfl rfl
theorem f29_88 : gm_ft 29 88 = some (.iload 5, 2) := by decide +kernel
theorem r29_88 {E : Nat → Value} {d : Nat} {st : List Value} {h : gm_H} {r : gm_R × gm_H} {a0 a1 a2 a3 a4 a6 a7 : Value} {x : Int32} : gm_Go E d 29 88 [a0, a1, a2, a3, a4, .int x, a6, a7] st h r ↔ gm_Go E d 29 90 [a0, a1, a2, a3, a4, .int x, a6, a7] (.int x :: st) h r := gr_loc m29 f29_88 rfl rfl
theorem f29_90 : gm_ft 29 90 = some (.aload_n 0, 1) := by decide +kernel
theorem r29_90 {E : Nat → Value} {d : Nat} {st : List Value} {h : gm_H} {r : gm_R × gm_H} {a1 a2 a3 a4 a5 a6 a7 : Value} {x : Nat} : gm_Go E d 29 90 [.ref x, a1, a2, a3, a4, a5, a6, a7] st h r ↔ gm_Go E d 29 91 [.ref x, a1, a2, a3, a4, a5, a6, a7] (.ref x :: st) h r := gr_loc m29 f29_90 rfl rfl
theorem r29_90n {E : Nat → Value} {d : Nat} {st : List Value} {h : gm_H} {r : gm_R × gm_H} {a1 a2 a3 a4 a5 a6 a7 : Value}  : gm_Go E d 29 90 [.null, a1, a2, a3, a4, a5, a6, a7] st h r ↔ gm_Go E d 29 91 [.null, a1, a2, a3, a4, a5, a6, a7] (.null :: st) h r := gr_loc m29 f29_90 rfl rfl
theorem f29_91 : gm_ft 29 91 = some (.bipush 8, 2) := by decide +kernel
theorem r29_91 {E : Nat → Value} {d : Nat} {st : List Value} {h : gm_H} {r : gm_R × gm_H} {lv : List Value} : gm_Go E d 29 91 lv st h r ↔ gm_Go E d 29 93 lv (.int (8 : Int32) :: st) h r := gr_pure m29 f29_91 rfl
theorem f29_93 : gm_ft 29 93 = some (.invokevirtual 163, 3) := by decide +kernel
theorem n29_93 {st : List Value} {h : gm_H} {E : Nat → Value} {lv : List Value} {b0 : Value} {a : Nat} (hs : (st.map fun v => v.category).sum ≤ 8) (he : (gm_en1 [.ref a, b0]).length ≤ 4) {vs : List Value} (hr : gm_rd h a = some (0, vs)) : gm_next E 29 93 lv (b0 :: .ref a :: st) h = some (.inr (.inl (0, 25, [.ref a, b0], st))) := gn_call m29 f29_93 rfl rfl rfl rfl rfl rfl rfl (gc_virt (bs := [b0]) (w := 278) rfl rfl rfl rfl hs he hr) (by decide)
theorem f29_96 : gm_ft 29 96 = some (.invokespecial 326, 3) := by decide +kernel
theorem n29_96 {st : List Value} {h : gm_H} {E : Nat → Value} {lv : List Value} {b0 b1 b2 : Value} {a : Nat} (hs : (st.map fun v => v.category).sum ≤ 8) (he : (gm_en1 [.ref a, b0, b1, b2]).length ≤ 5) : gm_next E 29 96 lv (b2 :: b1 :: b0 :: .ref a :: st) h = some (.inr (.inl (2, 31, [.ref a, b0, b1, b2], st))) := gn_call m29 f29_96 rfl rfl rfl rfl rfl rfl rfl (gc_init (bs := [b2, b1, b0]) (w := 305) rfl rfl rfl hs he (by decide)) (by decide)
theorem f29_99 : gm_ft 29 99 = some (.astore 6, 2) := by decide +kernel
theorem r29_99 {E : Nat → Value} {d : Nat} {st : List Value} {h : gm_H} {r : gm_R × gm_H} {a0 a1 a2 a3 a4 a5 a6 a7 : Value} {x : Nat} : gm_Go E d 29 99 [a0, a1, a2, a3, a4, a5, a6, a7] (.ref x :: st) h r ↔ gm_Go E d 29 101 [a0, a1, a2, a3, a4, gm_k a5, .ref x, a7] st h r := gr_loc m29 f29_99 rfl rfl
theorem r29_99n {E : Nat → Value} {d : Nat} {st : List Value} {h : gm_H} {r : gm_R × gm_H} {a0 a1 a2 a3 a4 a5 a6 a7 : Value}  : gm_Go E d 29 99 [a0, a1, a2, a3, a4, a5, a6, a7] (.null :: st) h r ↔ gm_Go E d 29 101 [a0, a1, a2, a3, a4, gm_k a5, .null, a7] st h r := gr_loc m29 f29_99 rfl rfl
theorem f29_101 : gm_ft 29 101 = some (.aload_n 0, 1) := by decide +kernel
theorem r29_101 {E : Nat → Value} {d : Nat} {st : List Value} {h : gm_H} {r : gm_R × gm_H} {a1 a2 a3 a4 a5 a6 a7 : Value} {x : Nat} : gm_Go E d 29 101 [.ref x, a1, a2, a3, a4, a5, a6, a7] st h r ↔ gm_Go E d 29 102 [.ref x, a1, a2, a3, a4, a5, a6, a7] (.ref x :: st) h r := gr_loc m29 f29_101 rfl rfl
theorem r29_101n {E : Nat → Value} {d : Nat} {st : List Value} {h : gm_H} {r : gm_R × gm_H} {a1 a2 a3 a4 a5 a6 a7 : Value}  : gm_Go E d 29 101 [.null, a1, a2, a3, a4, a5, a6, a7] st h r ↔ gm_Go E d 29 102 [.null, a1, a2, a3, a4, a5, a6, a7] (.null :: st) h r := gr_loc m29 f29_101 rfl rfl
theorem f29_102 : gm_ft 29 102 = some (.iconst (-1), 1) := by decide +kernel
theorem r29_102 {E : Nat → Value} {d : Nat} {st : List Value} {h : gm_H} {r : gm_R × gm_H} {lv : List Value} : gm_Go E d 29 102 lv st h r ↔ gm_Go E d 29 103 lv (.int (-1 : Int32) :: st) h r := gr_pure m29 f29_102 rfl
theorem f29_103 : gm_ft 29 103 = some (.invokevirtual 222, 3) := by decide +kernel
theorem n29_103 {st : List Value} {h : gm_H} {E : Nat → Value} {lv : List Value} {b0 : Value} {a : Nat} (hs : (st.map fun v => v.category).sum ≤ 8) (he : (gm_en1 [.ref a, b0]).length ≤ 2) {vs : List Value} (hr : gm_rd h a = some (0, vs)) : gm_next E 29 103 lv (b0 :: .ref a :: st) h = some (.inr (.inl (0, 32, [.ref a, b0], st))) := gn_call m29 f29_103 rfl rfl rfl rfl rfl rfl rfl (gc_virt (bs := [b0]) (w := 348) rfl rfl rfl rfl hs he hr) (by decide)
theorem f29_106 : gm_ft 29 106 = some (.istore 7, 2) := by decide +kernel
theorem r29_106 {E : Nat → Value} {d : Nat} {st : List Value} {h : gm_H} {r : gm_R × gm_H} {a0 a1 a2 a3 a4 a5 a6 a7 : Value} {x : Int32} : gm_Go E d 29 106 [a0, a1, a2, a3, a4, a5, a6, a7] (.int x :: st) h r ↔ gm_Go E d 29 108 [a0, a1, a2, a3, a4, a5, gm_k a6, .int x] st h r := gr_loc m29 f29_106 rfl rfl
theorem f29_108 : gm_ft 29 108 = some (.aload_n 0, 1) := by decide +kernel
theorem r29_108 {E : Nat → Value} {d : Nat} {st : List Value} {h : gm_H} {r : gm_R × gm_H} {a1 a2 a3 a4 a5 a6 a7 : Value} {x : Nat} : gm_Go E d 29 108 [.ref x, a1, a2, a3, a4, a5, a6, a7] st h r ↔ gm_Go E d 29 109 [.ref x, a1, a2, a3, a4, a5, a6, a7] (.ref x :: st) h r := gr_loc m29 f29_108 rfl rfl
theorem r29_108n {E : Nat → Value} {d : Nat} {st : List Value} {h : gm_H} {r : gm_R × gm_H} {a1 a2 a3 a4 a5 a6 a7 : Value}  : gm_Go E d 29 108 [.null, a1, a2, a3, a4, a5, a6, a7] st h r ↔ gm_Go E d 29 109 [.null, a1, a2, a3, a4, a5, a6, a7] (.null :: st) h r := gr_loc m29 f29_108 rfl rfl
theorem f29_109 : gm_ft 29 109 = some (.aload 6, 2) := by decide +kernel
theorem r29_109 {E : Nat → Value} {d : Nat} {st : List Value} {h : gm_H} {r : gm_R × gm_H} {a0 a1 a2 a3 a4 a5 a7 : Value} {x : Nat} : gm_Go E d 29 109 [a0, a1, a2, a3, a4, a5, .ref x, a7] st h r ↔ gm_Go E d 29 111 [a0, a1, a2, a3, a4, a5, .ref x, a7] (.ref x :: st) h r := gr_loc m29 f29_109 rfl rfl
theorem r29_109n {E : Nat → Value} {d : Nat} {st : List Value} {h : gm_H} {r : gm_R × gm_H} {a0 a1 a2 a3 a4 a5 a7 : Value}  : gm_Go E d 29 109 [a0, a1, a2, a3, a4, a5, .null, a7] st h r ↔ gm_Go E d 29 111 [a0, a1, a2, a3, a4, a5, .null, a7] (.null :: st) h r := gr_loc m29 f29_109 rfl rfl
theorem f29_111 : gm_ft 29 111 = some (.invokevirtual 329, 3) := by decide +kernel
theorem n29_111 {st : List Value} {h : gm_H} {E : Nat → Value} {lv : List Value} {b0 : Value} {a : Nat} (hs : (st.map fun v => v.category).sum ≤ 8) (he : (gm_en1 [.ref a, b0]).length ≤ 2) {vs : List Value} (hr : gm_rd h a = some (0, vs)) : gm_next E 29 111 lv (b0 :: .ref a :: st) h = some (.inr (.inl (0, 34, [.ref a, b0], st))) := gn_call m29 f29_111 rfl rfl rfl rfl rfl rfl rfl (gc_virt (bs := [b0]) (w := 356) rfl rfl rfl rfl hs he hr) (by decide)
theorem f29_114 : gm_ft 29 114 = some (.aload_n 0, 1) := by decide +kernel
theorem r29_114 {E : Nat → Value} {d : Nat} {st : List Value} {h : gm_H} {r : gm_R × gm_H} {a1 a2 a3 a4 a5 a6 a7 : Value} {x : Nat} : gm_Go E d 29 114 [.ref x, a1, a2, a3, a4, a5, a6, a7] st h r ↔ gm_Go E d 29 115 [.ref x, a1, a2, a3, a4, a5, a6, a7] (.ref x :: st) h r := gr_loc m29 f29_114 rfl rfl
theorem r29_114n {E : Nat → Value} {d : Nat} {st : List Value} {h : gm_H} {r : gm_R × gm_H} {a1 a2 a3 a4 a5 a6 a7 : Value}  : gm_Go E d 29 114 [.null, a1, a2, a3, a4, a5, a6, a7] st h r ↔ gm_Go E d 29 115 [.null, a1, a2, a3, a4, a5, a6, a7] (.null :: st) h r := gr_loc m29 f29_114 rfl rfl
theorem f29_115 : gm_ft 29 115 = some (.aload 6, 2) := by decide +kernel
theorem r29_115 {E : Nat → Value} {d : Nat} {st : List Value} {h : gm_H} {r : gm_R × gm_H} {a0 a1 a2 a3 a4 a5 a7 : Value} {x : Nat} : gm_Go E d 29 115 [a0, a1, a2, a3, a4, a5, .ref x, a7] st h r ↔ gm_Go E d 29 117 [a0, a1, a2, a3, a4, a5, .ref x, a7] (.ref x :: st) h r := gr_loc m29 f29_115 rfl rfl
theorem r29_115n {E : Nat → Value} {d : Nat} {st : List Value} {h : gm_H} {r : gm_R × gm_H} {a0 a1 a2 a3 a4 a5 a7 : Value}  : gm_Go E d 29 115 [a0, a1, a2, a3, a4, a5, .null, a7] st h r ↔ gm_Go E d 29 117 [a0, a1, a2, a3, a4, a5, .null, a7] (.null :: st) h r := gr_loc m29 f29_115 rfl rfl
theorem f29_117 : gm_ft 29 117 = some (.iload_n 1, 1) := by decide +kernel
theorem r29_117 {E : Nat → Value} {d : Nat} {st : List Value} {h : gm_H} {r : gm_R × gm_H} {a0 a2 a3 a4 a5 a6 a7 : Value} {x : Int32} : gm_Go E d 29 117 [a0, .int x, a2, a3, a4, a5, a6, a7] st h r ↔ gm_Go E d 29 118 [a0, .int x, a2, a3, a4, a5, a6, a7] (.int x :: st) h r := gr_loc m29 f29_117 rfl rfl
theorem f29_118 : gm_ft 29 118 = some (.invokevirtual 333, 3) := by decide +kernel
theorem n29_118 {st : List Value} {h : gm_H} {E : Nat → Value} {lv : List Value} {b0 b1 : Value} {a : Nat} (hs : (st.map fun v => v.category).sum ≤ 8) (he : (gm_en1 [.ref a, b0, b1]).length ≤ 7) {vs : List Value} (hr : gm_rd h a = some (0, vs)) : gm_next E 29 118 lv (b1 :: b0 :: .ref a :: st) h = some (.inr (.inl (0, 37, [.ref a, b0, b1], st))) := gn_call m29 f29_118 rfl rfl rfl rfl rfl rfl rfl (gc_virt (bs := [b1, b0]) (w := 369) rfl rfl rfl rfl hs he hr) (by decide)
theorem f29_121 : gm_ft 29 121 = some (.aload_n 0, 1) := by decide +kernel
theorem r29_121 {E : Nat → Value} {d : Nat} {st : List Value} {h : gm_H} {r : gm_R × gm_H} {a1 a2 a3 a4 a5 a6 a7 : Value} {x : Nat} : gm_Go E d 29 121 [.ref x, a1, a2, a3, a4, a5, a6, a7] st h r ↔ gm_Go E d 29 122 [.ref x, a1, a2, a3, a4, a5, a6, a7] (.ref x :: st) h r := gr_loc m29 f29_121 rfl rfl
theorem r29_121n {E : Nat → Value} {d : Nat} {st : List Value} {h : gm_H} {r : gm_R × gm_H} {a1 a2 a3 a4 a5 a6 a7 : Value}  : gm_Go E d 29 121 [.null, a1, a2, a3, a4, a5, a6, a7] st h r ↔ gm_Go E d 29 122 [.null, a1, a2, a3, a4, a5, a6, a7] (.null :: st) h r := gr_loc m29 f29_121 rfl rfl
theorem f29_122 : gm_ft 29 122 = some (.iload_n 1, 1) := by decide +kernel
theorem r29_122 {E : Nat → Value} {d : Nat} {st : List Value} {h : gm_H} {r : gm_R × gm_H} {a0 a2 a3 a4 a5 a6 a7 : Value} {x : Int32} : gm_Go E d 29 122 [a0, .int x, a2, a3, a4, a5, a6, a7] st h r ↔ gm_Go E d 29 123 [a0, .int x, a2, a3, a4, a5, a6, a7] (.int x :: st) h r := gr_loc m29 f29_122 rfl rfl
theorem f29_123 : gm_ft 29 123 = some (.invokevirtual 316, 3) := by decide +kernel
theorem n29_123 {st : List Value} {h : gm_H} {E : Nat → Value} {lv : List Value} {b0 : Value} {a : Nat} (hs : (st.map fun v => v.category).sum ≤ 8) (he : (gm_en1 [.ref a, b0]).length ≤ 4) {vs : List Value} (hr : gm_rd h a = some (0, vs)) : gm_next E 29 123 lv (b0 :: .ref a :: st) h = some (.inr (.inl (0, 50, [.ref a, b0], st))) := gn_call m29 f29_123 rfl rfl rfl rfl rfl rfl rfl (gc_virt (bs := [b0]) (w := 472) rfl rfl rfl rfl hs he hr) (by decide)
theorem f29_126 : gm_ft 29 126 = some (.aload 6, 2) := by decide +kernel
theorem r29_126 {E : Nat → Value} {d : Nat} {st : List Value} {h : gm_H} {r : gm_R × gm_H} {a0 a1 a2 a3 a4 a5 a7 : Value} {x : Nat} : gm_Go E d 29 126 [a0, a1, a2, a3, a4, a5, .ref x, a7] st h r ↔ gm_Go E d 29 128 [a0, a1, a2, a3, a4, a5, .ref x, a7] (.ref x :: st) h r := gr_loc m29 f29_126 rfl rfl
theorem r29_126n {E : Nat → Value} {d : Nat} {st : List Value} {h : gm_H} {r : gm_R × gm_H} {a0 a1 a2 a3 a4 a5 a7 : Value}  : gm_Go E d 29 126 [a0, a1, a2, a3, a4, a5, .null, a7] st h r ↔ gm_Go E d 29 128 [a0, a1, a2, a3, a4, a5, .null, a7] (.null :: st) h r := gr_loc m29 f29_126 rfl rfl
theorem f29_128 : gm_ft 29 128 = some (.aload_n 0, 1) := by decide +kernel
theorem r29_128 {E : Nat → Value} {d : Nat} {st : List Value} {h : gm_H} {r : gm_R × gm_H} {a1 a2 a3 a4 a5 a6 a7 : Value} {x : Nat} : gm_Go E d 29 128 [.ref x, a1, a2, a3, a4, a5, a6, a7] st h r ↔ gm_Go E d 29 129 [.ref x, a1, a2, a3, a4, a5, a6, a7] (.ref x :: st) h r := gr_loc m29 f29_128 rfl rfl
theorem r29_128n {E : Nat → Value} {d : Nat} {st : List Value} {h : gm_H} {r : gm_R × gm_H} {a1 a2 a3 a4 a5 a6 a7 : Value}  : gm_Go E d 29 128 [.null, a1, a2, a3, a4, a5, a6, a7] st h r ↔ gm_Go E d 29 129 [.null, a1, a2, a3, a4, a5, a6, a7] (.null :: st) h r := gr_loc m29 f29_128 rfl rfl
theorem f29_129 : gm_ft 29 129 = some (.iload_n 1, 1) := by decide +kernel
theorem r29_129 {E : Nat → Value} {d : Nat} {st : List Value} {h : gm_H} {r : gm_R × gm_H} {a0 a2 a3 a4 a5 a6 a7 : Value} {x : Int32} : gm_Go E d 29 129 [a0, .int x, a2, a3, a4, a5, a6, a7] st h r ↔ gm_Go E d 29 130 [a0, .int x, a2, a3, a4, a5, a6, a7] (.int x :: st) h r := gr_loc m29 f29_129 rfl rfl
theorem f29_130 : gm_ft 29 130 = some (.iload_n 2, 1) := by decide +kernel
theorem r29_130 {E : Nat → Value} {d : Nat} {st : List Value} {h : gm_H} {r : gm_R × gm_H} {a0 a1 a3 a4 a5 a6 a7 : Value} {x : Int32} : gm_Go E d 29 130 [a0, a1, .int x, a3, a4, a5, a6, a7] st h r ↔ gm_Go E d 29 131 [a0, a1, .int x, a3, a4, a5, a6, a7] (.int x :: st) h r := gr_loc m29 f29_130 rfl rfl
theorem f29_131 : gm_ft 29 131 = some (.iconst 1, 1) := by decide +kernel
theorem r29_131 {E : Nat → Value} {d : Nat} {st : List Value} {h : gm_H} {r : gm_R × gm_H} {lv : List Value} : gm_Go E d 29 131 lv st h r ↔ gm_Go E d 29 132 lv (.int (1 : Int32) :: st) h r := gr_pure m29 f29_131 rfl
theorem f29_132 : gm_ft 29 132 = some (.iadd, 1) := by decide +kernel
theorem r29_132 {E : Nat → Value} {d : Nat} {st : List Value} {h : gm_H} {r : gm_R × gm_H} {lv : List Value} {x y : Int32} : gm_Go E d 29 132 lv (.int y :: .int x :: st) h r ↔ gm_Go E d 29 133 lv (.int (x + y) :: st) h r := gr_pure m29 f29_132 rfl
theorem f29_133 : gm_ft 29 133 = some (.invokevirtual 198, 3) := by decide +kernel
theorem n29_133 {st : List Value} {h : gm_H} {E : Nat → Value} {lv : List Value} {b0 b1 : Value} {a : Nat} (hs : (st.map fun v => v.category).sum ≤ 8) (he : (gm_en1 [.ref a, b0, b1]).length ≤ 8) {vs : List Value} (hr : gm_rd h a = some (0, vs)) : gm_next E 29 133 lv (b1 :: b0 :: .ref a :: st) h = some (.inr (.inl (0, 29, [.ref a, b0, b1], st))) := gn_call m29 f29_133 rfl rfl rfl rfl rfl rfl rfl (gc_virt (bs := [b1, b0]) (w := 295) rfl rfl rfl rfl hs he hr) (by decide)
theorem f29_136 : gm_ft 29 136 = some (.invokevirtual 337, 3) := by decide +kernel
theorem n29_136 {st : List Value} {h : gm_H} {E : Nat → Value} {lv : List Value} {b0 : Value} {a : Nat} (hs : (st.map fun v => v.category).sum ≤ 8) (he : (gm_en1 [.ref a, b0]).length ≤ 2) {vs : List Value} (hr : gm_rd h a = some (1, vs)) : gm_next E 29 136 lv (b0 :: .ref a :: st) h = some (.inr (.inl (0, 53, [.ref a, b0], st))) := gn_call m29 f29_136 rfl rfl rfl rfl rfl rfl rfl (gc_virt (bs := [b0]) (w := 483) rfl rfl rfl rfl hs he hr) (by decide)
theorem f29_139 : gm_ft 29 139 = some (.aload_n 0, 1) := by decide +kernel
theorem r29_139 {E : Nat → Value} {d : Nat} {st : List Value} {h : gm_H} {r : gm_R × gm_H} {a1 a2 a3 a4 a5 a6 a7 : Value} {x : Nat} : gm_Go E d 29 139 [.ref x, a1, a2, a3, a4, a5, a6, a7] st h r ↔ gm_Go E d 29 140 [.ref x, a1, a2, a3, a4, a5, a6, a7] (.ref x :: st) h r := gr_loc m29 f29_139 rfl rfl
theorem r29_139n {E : Nat → Value} {d : Nat} {st : List Value} {h : gm_H} {r : gm_R × gm_H} {a1 a2 a3 a4 a5 a6 a7 : Value}  : gm_Go E d 29 139 [.null, a1, a2, a3, a4, a5, a6, a7] st h r ↔ gm_Go E d 29 140 [.null, a1, a2, a3, a4, a5, a6, a7] (.null :: st) h r := gr_loc m29 f29_139 rfl rfl
theorem f29_140 : gm_ft 29 140 = some (.aload 6, 2) := by decide +kernel
theorem r29_140 {E : Nat → Value} {d : Nat} {st : List Value} {h : gm_H} {r : gm_R × gm_H} {a0 a1 a2 a3 a4 a5 a7 : Value} {x : Nat} : gm_Go E d 29 140 [a0, a1, a2, a3, a4, a5, .ref x, a7] st h r ↔ gm_Go E d 29 142 [a0, a1, a2, a3, a4, a5, .ref x, a7] (.ref x :: st) h r := gr_loc m29 f29_140 rfl rfl
theorem r29_140n {E : Nat → Value} {d : Nat} {st : List Value} {h : gm_H} {r : gm_R × gm_H} {a0 a1 a2 a3 a4 a5 a7 : Value}  : gm_Go E d 29 140 [a0, a1, a2, a3, a4, a5, .null, a7] st h r ↔ gm_Go E d 29 142 [a0, a1, a2, a3, a4, a5, .null, a7] (.null :: st) h r := gr_loc m29 f29_140 rfl rfl
theorem f29_142 : gm_ft 29 142 = some (.invokevirtual 340, 3) := by decide +kernel
theorem n29_142 {st : List Value} {h : gm_H} {E : Nat → Value} {lv : List Value} {b0 : Value} {a : Nat} (hs : (st.map fun v => v.category).sum ≤ 8) (he : (gm_en1 [.ref a, b0]).length ≤ 2) {vs : List Value} (hr : gm_rd h a = some (0, vs)) : gm_next E 29 142 lv (b0 :: .ref a :: st) h = some (.inr (.inl (0, 54, [.ref a, b0], st))) := gn_call m29 f29_142 rfl rfl rfl rfl rfl rfl rfl (gc_virt (bs := [b0]) (w := 487) rfl rfl rfl rfl hs he hr) (by decide)
theorem f29_145 : gm_ft 29 145 = some (.aload_n 0, 1) := by decide +kernel
theorem r29_145 {E : Nat → Value} {d : Nat} {st : List Value} {h : gm_H} {r : gm_R × gm_H} {a1 a2 a3 a4 a5 a6 a7 : Value} {x : Nat} : gm_Go E d 29 145 [.ref x, a1, a2, a3, a4, a5, a6, a7] st h r ↔ gm_Go E d 29 146 [.ref x, a1, a2, a3, a4, a5, a6, a7] (.ref x :: st) h r := gr_loc m29 f29_145 rfl rfl
theorem r29_145n {E : Nat → Value} {d : Nat} {st : List Value} {h : gm_H} {r : gm_R × gm_H} {a1 a2 a3 a4 a5 a6 a7 : Value}  : gm_Go E d 29 145 [.null, a1, a2, a3, a4, a5, a6, a7] st h r ↔ gm_Go E d 29 146 [.null, a1, a2, a3, a4, a5, a6, a7] (.null :: st) h r := gr_loc m29 f29_145 rfl rfl
theorem f29_146 : gm_ft 29 146 = some (.getfield 28, 3) := by decide +kernel
theorem r29_146 {E : Nat → Value} {d : Nat} {st : List Value} {h : gm_H} {r : gm_R × gm_H} {lv : List Value} {a : Nat} {vs : List Value} {v : Value} (hr : gm_rd h a = some (0, vs)) (hv : vs[10]? = some v) : gm_Go E d 29 146 lv (.ref a :: st) h r ↔ gm_Go E d 29 149 lv (v :: st) h r := gr_rd m29 f29_146 rfl rfl rfl rfl (gf_get k0_28 hr hv)
theorem f29_149 : gm_ft 29 149 = some (.getfield 322, 3) := by decide +kernel
theorem r29_149 {E : Nat → Value} {d : Nat} {st : List Value} {h : gm_H} {r : gm_R × gm_H} {lv : List Value} {a : Nat} {vs : List Value} {v : Value} (hr : gm_rd h a = some (2, vs)) (hv : vs[1]? = some v) : gm_Go E d 29 149 lv (.ref a :: st) h r ↔ gm_Go E d 29 152 lv (v :: st) h r := gr_rd m29 f29_149 rfl rfl rfl rfl (gf_get k0_322 hr hv)
theorem f29_152 : gm_ft 29 152 = some (.iload 7, 2) := by decide +kernel
theorem r29_152 {E : Nat → Value} {d : Nat} {st : List Value} {h : gm_H} {r : gm_R × gm_H} {a0 a1 a2 a3 a4 a5 a6 : Value} {x : Int32} : gm_Go E d 29 152 [a0, a1, a2, a3, a4, a5, a6, .int x] st h r ↔ gm_Go E d 29 154 [a0, a1, a2, a3, a4, a5, a6, .int x] (.int x :: st) h r := gr_loc m29 f29_152 rfl rfl
theorem f29_154 : gm_ft 29 154 = some (.aload 6, 2) := by decide +kernel
theorem r29_154 {E : Nat → Value} {d : Nat} {st : List Value} {h : gm_H} {r : gm_R × gm_H} {a0 a1 a2 a3 a4 a5 a7 : Value} {x : Nat} : gm_Go E d 29 154 [a0, a1, a2, a3, a4, a5, .ref x, a7] st h r ↔ gm_Go E d 29 156 [a0, a1, a2, a3, a4, a5, .ref x, a7] (.ref x :: st) h r := gr_loc m29 f29_154 rfl rfl
theorem r29_154n {E : Nat → Value} {d : Nat} {st : List Value} {h : gm_H} {r : gm_R × gm_H} {a0 a1 a2 a3 a4 a5 a7 : Value}  : gm_Go E d 29 154 [a0, a1, a2, a3, a4, a5, .null, a7] st h r ↔ gm_Go E d 29 156 [a0, a1, a2, a3, a4, a5, .null, a7] (.null :: st) h r := gr_loc m29 f29_154 rfl rfl
theorem f29_156 : gm_ft 29 156 = some (.aastore, 1) := by decide +kernel
theorem f29_157 : gm_ft 29 157 = some (.aload 6, 2) := by decide +kernel
theorem r29_157 {E : Nat → Value} {d : Nat} {st : List Value} {h : gm_H} {r : gm_R × gm_H} {a0 a1 a2 a3 a4 a5 a7 : Value} {x : Nat} : gm_Go E d 29 157 [a0, a1, a2, a3, a4, a5, .ref x, a7] st h r ↔ gm_Go E d 29 159 [a0, a1, a2, a3, a4, a5, .ref x, a7] (.ref x :: st) h r := gr_loc m29 f29_157 rfl rfl
theorem r29_157n {E : Nat → Value} {d : Nat} {st : List Value} {h : gm_H} {r : gm_R × gm_H} {a0 a1 a2 a3 a4 a5 a7 : Value}  : gm_Go E d 29 157 [a0, a1, a2, a3, a4, a5, .null, a7] st h r ↔ gm_Go E d 29 159 [a0, a1, a2, a3, a4, a5, .null, a7] (.null :: st) h r := gr_loc m29 f29_157 rfl rfl
theorem f29_159 : gm_ft 29 159 = some (.areturn, 1) := by decide +kernel
theorem r29_159 {E : Nat → Value} {d : Nat} {h : gm_H} {r : gm_R × gm_H} {lv : List Value} {a : Nat} : gm_Go E d 29 159 lv [.ref a] h r ↔ r = (.inl (some (.ref a)), h) := gr_ret m29 f29_159 rfl rfl rfl rfl rfl rfl rfl rfl rfl
theorem r29_159n {E : Nat → Value} {d : Nat} {h : gm_H} {r : gm_R × gm_H} {lv : List Value} : gm_Go E d 29 159 lv [.null] h r ↔ r = (.inl (some .null), h) := gr_ret m29 f29_159 rfl rfl rfl rfl rfl rfl rfl rfl rfl
/-! GraphReader.passUtf()I -/
theorem m30 : gm_mt[30]? = some (⟨"GraphReader", "passUtf", "()I"⟩, prog_1_method_21_code, 4, (some .int), [], 0, 1) := rfl
theorem f30_0 : gm_ft 30 0 = some (.aload_n 0, 1) := by decide +kernel
theorem r30_0 {E : Nat → Value} {d : Nat} {st : List Value} {h : gm_H} {r : gm_R × gm_H} {a1 a2 a3 : Value} {x : Nat} : gm_Go E d 30 0 [.ref x, a1, a2, a3] st h r ↔ gm_Go E d 30 1 [.ref x, a1, a2, a3] (.ref x :: st) h r := gr_loc m30 f30_0 rfl rfl
theorem r30_0n {E : Nat → Value} {d : Nat} {st : List Value} {h : gm_H} {r : gm_R × gm_H} {a1 a2 a3 : Value}  : gm_Go E d 30 0 [.null, a1, a2, a3] st h r ↔ gm_Go E d 30 1 [.null, a1, a2, a3] (.null :: st) h r := gr_loc m30 f30_0 rfl rfl
theorem f30_1 : gm_ft 30 1 = some (.iconst 2, 1) := by decide +kernel
theorem r30_1 {E : Nat → Value} {d : Nat} {st : List Value} {h : gm_H} {r : gm_R × gm_H} {lv : List Value} : gm_Go E d 30 1 lv st h r ↔ gm_Go E d 30 2 lv (.int (2 : Int32) :: st) h r := gr_pure m30 f30_1 rfl
theorem f30_2 : gm_ft 30 2 = some (.invokevirtual 163, 3) := by decide +kernel
theorem n30_2 {st : List Value} {h : gm_H} {E : Nat → Value} {lv : List Value} {b0 : Value} {a : Nat} (hs : (st.map fun v => v.category).sum ≤ 8) (he : (gm_en1 [.ref a, b0]).length ≤ 4) {vs : List Value} (hr : gm_rd h a = some (0, vs)) : gm_next E 30 2 lv (b0 :: .ref a :: st) h = some (.inr (.inl (0, 25, [.ref a, b0], st))) := gn_call m30 f30_2 rfl rfl rfl rfl rfl rfl rfl (gc_virt (bs := [b0]) (w := 278) rfl rfl rfl rfl hs he hr) (by decide)
theorem f30_5 : gm_ft 30 5 = some (.l2i, 1) := by decide +kernel
theorem r30_5 {E : Nat → Value} {d : Nat} {st : List Value} {h : gm_H} {r : gm_R × gm_H} {lv : List Value} {x : Int64} : gm_Go E d 30 5 lv (.long x :: st) h r ↔ gm_Go E d 30 6 lv (.int (x.toInt32) :: st) h r := gr_pure m30 f30_5 rfl
theorem f30_6 : gm_ft 30 6 = some (.istore_n 1, 1) := by decide +kernel
theorem r30_6 {E : Nat → Value} {d : Nat} {st : List Value} {h : gm_H} {r : gm_R × gm_H} {a0 a1 a2 a3 : Value} {x : Int32} : gm_Go E d 30 6 [a0, a1, a2, a3] (.int x :: st) h r ↔ gm_Go E d 30 7 [gm_k a0, .int x, a2, a3] st h r := gr_loc m30 f30_6 rfl rfl
theorem f30_7 : gm_ft 30 7 = some (.aload_n 0, 1) := by decide +kernel
theorem r30_7 {E : Nat → Value} {d : Nat} {st : List Value} {h : gm_H} {r : gm_R × gm_H} {a1 a2 a3 : Value} {x : Nat} : gm_Go E d 30 7 [.ref x, a1, a2, a3] st h r ↔ gm_Go E d 30 8 [.ref x, a1, a2, a3] (.ref x :: st) h r := gr_loc m30 f30_7 rfl rfl
theorem r30_7n {E : Nat → Value} {d : Nat} {st : List Value} {h : gm_H} {r : gm_R × gm_H} {a1 a2 a3 : Value}  : gm_Go E d 30 7 [.null, a1, a2, a3] st h r ↔ gm_Go E d 30 8 [.null, a1, a2, a3] (.null :: st) h r := gr_loc m30 f30_7 rfl rfl
theorem f30_8 : gm_ft 30 8 = some (.getfield 96, 3) := by decide +kernel
theorem r30_8 {E : Nat → Value} {d : Nat} {st : List Value} {h : gm_H} {r : gm_R × gm_H} {lv : List Value} {a : Nat} {vs : List Value} {v : Value} (hr : gm_rd h a = some (0, vs)) (hv : vs[7]? = some v) : gm_Go E d 30 8 lv (.ref a :: st) h r ↔ gm_Go E d 30 11 lv (v :: st) h r := gr_rd m30 f30_8 rfl rfl rfl rfl (gf_get k0_96 hr hv)
theorem f30_11 : gm_ft 30 11 = some (.istore_n 2, 1) := by decide +kernel
theorem r30_11 {E : Nat → Value} {d : Nat} {st : List Value} {h : gm_H} {r : gm_R × gm_H} {a0 a1 a2 a3 : Value} {x : Int32} : gm_Go E d 30 11 [a0, a1, a2, a3] (.int x :: st) h r ↔ gm_Go E d 30 12 [a0, gm_k a1, .int x, a3] st h r := gr_loc m30 f30_11 rfl rfl
theorem f30_12 : gm_ft 30 12 = some (.iconst 0, 1) := by decide +kernel
theorem r30_12 {E : Nat → Value} {d : Nat} {st : List Value} {h : gm_H} {r : gm_R × gm_H} {lv : List Value} : gm_Go E d 30 12 lv st h r ↔ gm_Go E d 30 13 lv (.int (0 : Int32) :: st) h r := gr_pure m30 f30_12 rfl
theorem f30_13 : gm_ft 30 13 = some (.istore_n 3, 1) := by decide +kernel
theorem r30_13 {E : Nat → Value} {d : Nat} {st : List Value} {h : gm_H} {r : gm_R × gm_H} {a0 a1 a2 a3 : Value} {x : Int32} : gm_Go E d 30 13 [a0, a1, a2, a3] (.int x :: st) h r ↔ gm_Go E d 30 14 [a0, a1, gm_k a2, .int x] st h r := gr_loc m30 f30_13 rfl rfl
theorem f30_14 : gm_ft 30 14 = some (.iload_n 3, 1) := by decide +kernel
theorem r30_14 {E : Nat → Value} {d : Nat} {st : List Value} {h : gm_H} {r : gm_R × gm_H} {a0 a1 a2 : Value} {x : Int32} : gm_Go E d 30 14 [a0, a1, a2, .int x] st h r ↔ gm_Go E d 30 15 [a0, a1, a2, .int x] (.int x :: st) h r := gr_loc m30 f30_14 rfl rfl
theorem f30_15 : gm_ft 30 15 = some (.iload_n 1, 1) := by decide +kernel
theorem r30_15 {E : Nat → Value} {d : Nat} {st : List Value} {h : gm_H} {r : gm_R × gm_H} {a0 a2 a3 : Value} {x : Int32} : gm_Go E d 30 15 [a0, .int x, a2, a3] st h r ↔ gm_Go E d 30 16 [a0, .int x, a2, a3] (.int x :: st) h r := gr_loc m30 f30_15 rfl rfl
theorem f30_16 : gm_ft 30 16 = some (.if_icmp .ge 56, 3) := by decide +kernel
theorem r30_16 {E : Nat → Value} {d : Nat} {st : List Value} {h : gm_H} {r : gm_R × gm_H} {lv : List Value} {x y : Int32} : gm_Go E d 30 16 lv (.int y :: .int x :: st) h r ↔ (if y ≤ x then gm_Go E d 30 72 lv st h r else gm_Go E d 30 19 lv st h r) := (gr_br m30 f30_16 rfl rfl rfl rfl).trans gr_if
theorem f30_19 : gm_ft 30 19 = some (.aload_n 0, 1) := by decide +kernel
theorem r30_19 {E : Nat → Value} {d : Nat} {st : List Value} {h : gm_H} {r : gm_R × gm_H} {a1 a2 a3 : Value} {x : Nat} : gm_Go E d 30 19 [.ref x, a1, a2, a3] st h r ↔ gm_Go E d 30 20 [.ref x, a1, a2, a3] (.ref x :: st) h r := gr_loc m30 f30_19 rfl rfl
theorem r30_19n {E : Nat → Value} {d : Nat} {st : List Value} {h : gm_H} {r : gm_R × gm_H} {a1 a2 a3 : Value}  : gm_Go E d 30 19 [.null, a1, a2, a3] st h r ↔ gm_Go E d 30 20 [.null, a1, a2, a3] (.null :: st) h r := gr_loc m30 f30_19 rfl rfl
theorem f30_20 : gm_ft 30 20 = some (.getfield 96, 3) := by decide +kernel
theorem r30_20 {E : Nat → Value} {d : Nat} {st : List Value} {h : gm_H} {r : gm_R × gm_H} {lv : List Value} {a : Nat} {vs : List Value} {v : Value} (hr : gm_rd h a = some (0, vs)) (hv : vs[7]? = some v) : gm_Go E d 30 20 lv (.ref a :: st) h r ↔ gm_Go E d 30 23 lv (v :: st) h r := gr_rd m30 f30_20 rfl rfl rfl rfl (gf_get k0_96 hr hv)
theorem f30_23 : gm_ft 30 23 = some (.aload_n 0, 1) := by decide +kernel
theorem r30_23 {E : Nat → Value} {d : Nat} {st : List Value} {h : gm_H} {r : gm_R × gm_H} {a1 a2 a3 : Value} {x : Nat} : gm_Go E d 30 23 [.ref x, a1, a2, a3] st h r ↔ gm_Go E d 30 24 [.ref x, a1, a2, a3] (.ref x :: st) h r := gr_loc m30 f30_23 rfl rfl
theorem r30_23n {E : Nat → Value} {d : Nat} {st : List Value} {h : gm_H} {r : gm_R × gm_H} {a1 a2 a3 : Value}  : gm_Go E d 30 23 [.null, a1, a2, a3] st h r ↔ gm_Go E d 30 24 [.null, a1, a2, a3] (.null :: st) h r := gr_loc m30 f30_23 rfl rfl
theorem f30_24 : gm_ft 30 24 = some (.getfield 93, 3) := by decide +kernel
theorem r30_24 {E : Nat → Value} {d : Nat} {st : List Value} {h : gm_H} {r : gm_R × gm_H} {lv : List Value} {a : Nat} {vs : List Value} {v : Value} (hr : gm_rd h a = some (0, vs)) (hv : vs[6]? = some v) : gm_Go E d 30 24 lv (.ref a :: st) h r ↔ gm_Go E d 30 27 lv (v :: st) h r := gr_rd m30 f30_24 rfl rfl rfl rfl (gf_get k0_93 hr hv)
theorem f30_27 : gm_ft 30 27 = some (.if_icmp .lt 10, 3) := by decide +kernel
theorem r30_27 {E : Nat → Value} {d : Nat} {st : List Value} {h : gm_H} {r : gm_R × gm_H} {lv : List Value} {x y : Int32} : gm_Go E d 30 27 lv (.int y :: .int x :: st) h r ↔ (if x < y then gm_Go E d 30 37 lv st h r else gm_Go E d 30 30 lv st h r) := (gr_br m30 f30_27 rfl rfl rfl rfl).trans gr_if
theorem f30_30 : gm_ft 30 30 = some (.aload_n 0, 1) := by decide +kernel
theorem r30_30 {E : Nat → Value} {d : Nat} {st : List Value} {h : gm_H} {r : gm_R × gm_H} {a1 a2 a3 : Value} {x : Nat} : gm_Go E d 30 30 [.ref x, a1, a2, a3] st h r ↔ gm_Go E d 30 31 [.ref x, a1, a2, a3] (.ref x :: st) h r := gr_loc m30 f30_30 rfl rfl
theorem r30_30n {E : Nat → Value} {d : Nat} {st : List Value} {h : gm_H} {r : gm_R × gm_H} {a1 a2 a3 : Value}  : gm_Go E d 30 30 [.null, a1, a2, a3] st h r ↔ gm_Go E d 30 31 [.null, a1, a2, a3] (.null :: st) h r := gr_loc m30 f30_30 rfl rfl
theorem f30_31 : gm_ft 30 31 = some (.bipush (-3), 2) := by decide +kernel
theorem r30_31 {E : Nat → Value} {d : Nat} {st : List Value} {h : gm_H} {r : gm_R × gm_H} {lv : List Value} : gm_Go E d 30 31 lv st h r ↔ gm_Go E d 30 33 lv (.int (-3 : Int32) :: st) h r := gr_pure m30 f30_31 rfl
theorem f30_33 : gm_ft 30 33 = some (.invokevirtual 160, 3) := by decide +kernel
theorem n30_33 {st : List Value} {h : gm_H} {E : Nat → Value} {lv : List Value} {b0 : Value} {a : Nat} (hs : (st.map fun v => v.category).sum ≤ 8) (he : (gm_en1 [.ref a, b0]).length ≤ 2) {vs : List Value} (hr : gm_rd h a = some (0, vs)) : gm_next E 30 33 lv (b0 :: .ref a :: st) h = some (.inr (.inl (0, 22, [.ref a, b0], st))) := gn_call m30 f30_33 rfl rfl rfl rfl rfl rfl rfl (gc_virt (bs := [b0]) (w := 206) rfl rfl rfl rfl hs he hr) (by decide)
theorem f30_36 : gm_ft 30 36 = some (.ireturn, 1) := by decide +kernel
theorem r30_36 {E : Nat → Value} {d : Nat} {h : gm_H} {r : gm_R × gm_H} {lv : List Value} {x : Int32} : gm_Go E d 30 36 lv [.int x] h r ↔ r = (.inl (some (.int x)), h) := gr_ret m30 f30_36 rfl rfl rfl rfl rfl rfl rfl rfl (by unfold gm_rt; dsimp only; rw [if_pos ⟨rfl, rfl⟩])
theorem f30_37 : gm_ft 30 37 = some (.aload_n 0, 1) := by decide +kernel
theorem r30_37 {E : Nat → Value} {d : Nat} {st : List Value} {h : gm_H} {r : gm_R × gm_H} {a1 a2 a3 : Value} {x : Nat} : gm_Go E d 30 37 [.ref x, a1, a2, a3] st h r ↔ gm_Go E d 30 38 [.ref x, a1, a2, a3] (.ref x :: st) h r := gr_loc m30 f30_37 rfl rfl
theorem r30_37n {E : Nat → Value} {d : Nat} {st : List Value} {h : gm_H} {r : gm_R × gm_H} {a1 a2 a3 : Value}  : gm_Go E d 30 37 [.null, a1, a2, a3] st h r ↔ gm_Go E d 30 38 [.null, a1, a2, a3] (.null :: st) h r := gr_loc m30 f30_37 rfl rfl
theorem f30_38 : gm_ft 30 38 = some (.getfield 15, 3) := by decide +kernel
theorem r30_38 {E : Nat → Value} {d : Nat} {st : List Value} {h : gm_H} {r : gm_R × gm_H} {lv : List Value} {a : Nat} {vs : List Value} {v : Value} (hr : gm_rd h a = some (0, vs)) (hv : vs[5]? = some v) : gm_Go E d 30 38 lv (.ref a :: st) h r ↔ gm_Go E d 30 41 lv (v :: st) h r := gr_rd m30 f30_38 rfl rfl rfl rfl (gf_get k0_15 hr hv)
theorem f30_41 : gm_ft 30 41 = some (.aload_n 0, 1) := by decide +kernel
theorem r30_41 {E : Nat → Value} {d : Nat} {st : List Value} {h : gm_H} {r : gm_R × gm_H} {a1 a2 a3 : Value} {x : Nat} : gm_Go E d 30 41 [.ref x, a1, a2, a3] st h r ↔ gm_Go E d 30 42 [.ref x, a1, a2, a3] (.ref x :: st) h r := gr_loc m30 f30_41 rfl rfl
theorem r30_41n {E : Nat → Value} {d : Nat} {st : List Value} {h : gm_H} {r : gm_R × gm_H} {a1 a2 a3 : Value}  : gm_Go E d 30 41 [.null, a1, a2, a3] st h r ↔ gm_Go E d 30 42 [.null, a1, a2, a3] (.null :: st) h r := gr_loc m30 f30_41 rfl rfl
theorem f30_42 : gm_ft 30 42 = some (.getfield 96, 3) := by decide +kernel
theorem r30_42 {E : Nat → Value} {d : Nat} {st : List Value} {h : gm_H} {r : gm_R × gm_H} {lv : List Value} {a : Nat} {vs : List Value} {v : Value} (hr : gm_rd h a = some (0, vs)) (hv : vs[7]? = some v) : gm_Go E d 30 42 lv (.ref a :: st) h r ↔ gm_Go E d 30 45 lv (v :: st) h r := gr_rd m30 f30_42 rfl rfl rfl rfl (gf_get k0_96 hr hv)
theorem f30_45 : gm_ft 30 45 = some (.baload, 1) := by decide +kernel
theorem r30_45 {E : Nat → Value} {d : Nat} {st : List Value} {h : gm_H} {r : gm_R × gm_H} {lv : List Value} {a k j : Nat} {vs : List Value} {v : Value} (hr : gm_rd h a = some (k, vs)) (hk : 100 ≤ k ∧ (fun t => t == 2 || t == 3) (k % 100) = true) (hj : j < 2 ^ 31) (hv : vs[j]? = some v) : gm_Go E d 30 45 lv (.int (nI j) :: .ref a :: st) h r ↔ gm_Go E d 30 46 lv (v :: st) h r := gr_rd m30 f30_45 rfl rfl rfl rfl (ga_ld (P := fun t => t == 2 || t == 3) hr hk hj hv)
theorem f30_46 : gm_ft 30 46 = some (.ifCond .gt 10, 3) := by decide +kernel
theorem r30_46 {E : Nat → Value} {d : Nat} {st : List Value} {h : gm_H} {r : gm_R × gm_H} {lv : List Value} {x : Int32} : gm_Go E d 30 46 lv (.int x :: st) h r ↔ (if 0 < x then gm_Go E d 30 56 lv st h r else gm_Go E d 30 49 lv st h r) := (gr_br m30 f30_46 rfl rfl rfl rfl).trans gr_if
theorem f30_49 : gm_ft 30 49 = some (.aload_n 0, 1) := by decide +kernel
theorem r30_49 {E : Nat → Value} {d : Nat} {st : List Value} {h : gm_H} {r : gm_R × gm_H} {a1 a2 a3 : Value} {x : Nat} : gm_Go E d 30 49 [.ref x, a1, a2, a3] st h r ↔ gm_Go E d 30 50 [.ref x, a1, a2, a3] (.ref x :: st) h r := gr_loc m30 f30_49 rfl rfl
theorem r30_49n {E : Nat → Value} {d : Nat} {st : List Value} {h : gm_H} {r : gm_R × gm_H} {a1 a2 a3 : Value}  : gm_Go E d 30 49 [.null, a1, a2, a3] st h r ↔ gm_Go E d 30 50 [.null, a1, a2, a3] (.null :: st) h r := gr_loc m30 f30_49 rfl rfl
theorem f30_50 : gm_ft 30 50 = some (.bipush (-4), 2) := by decide +kernel
theorem r30_50 {E : Nat → Value} {d : Nat} {st : List Value} {h : gm_H} {r : gm_R × gm_H} {lv : List Value} : gm_Go E d 30 50 lv st h r ↔ gm_Go E d 30 52 lv (.int (-4 : Int32) :: st) h r := gr_pure m30 f30_50 rfl
theorem f30_52 : gm_ft 30 52 = some (.invokevirtual 160, 3) := by decide +kernel
theorem n30_52 {st : List Value} {h : gm_H} {E : Nat → Value} {lv : List Value} {b0 : Value} {a : Nat} (hs : (st.map fun v => v.category).sum ≤ 8) (he : (gm_en1 [.ref a, b0]).length ≤ 2) {vs : List Value} (hr : gm_rd h a = some (0, vs)) : gm_next E 30 52 lv (b0 :: .ref a :: st) h = some (.inr (.inl (0, 22, [.ref a, b0], st))) := gn_call m30 f30_52 rfl rfl rfl rfl rfl rfl rfl (gc_virt (bs := [b0]) (w := 206) rfl rfl rfl rfl hs he hr) (by decide)
theorem f30_55 : gm_ft 30 55 = some (.ireturn, 1) := by decide +kernel
theorem r30_55 {E : Nat → Value} {d : Nat} {h : gm_H} {r : gm_R × gm_H} {lv : List Value} {x : Int32} : gm_Go E d 30 55 lv [.int x] h r ↔ r = (.inl (some (.int x)), h) := gr_ret m30 f30_55 rfl rfl rfl rfl rfl rfl rfl rfl (by unfold gm_rt; dsimp only; rw [if_pos ⟨rfl, rfl⟩])
theorem f30_56 : gm_ft 30 56 = some (.aload_n 0, 1) := by decide +kernel
theorem r30_56 {E : Nat → Value} {d : Nat} {st : List Value} {h : gm_H} {r : gm_R × gm_H} {a1 a2 a3 : Value} {x : Nat} : gm_Go E d 30 56 [.ref x, a1, a2, a3] st h r ↔ gm_Go E d 30 57 [.ref x, a1, a2, a3] (.ref x :: st) h r := gr_loc m30 f30_56 rfl rfl
theorem r30_56n {E : Nat → Value} {d : Nat} {st : List Value} {h : gm_H} {r : gm_R × gm_H} {a1 a2 a3 : Value}  : gm_Go E d 30 56 [.null, a1, a2, a3] st h r ↔ gm_Go E d 30 57 [.null, a1, a2, a3] (.null :: st) h r := gr_loc m30 f30_56 rfl rfl
theorem f30_57 : gm_ft 30 57 = some (.dup, 1) := by decide +kernel
theorem r30_57 {E : Nat → Value} {d : Nat} {st : List Value} {h : gm_H} {r : gm_R × gm_H} {lv : List Value} {a : Nat} : gm_Go E d 30 57 lv (.ref a :: st) h r ↔ gm_Go E d 30 58 lv (.ref a :: .ref a :: st) h r := gr_pure m30 f30_57 rfl
theorem r30_57i {E : Nat → Value} {d : Nat} {st : List Value} {h : gm_H} {r : gm_R × gm_H} {lv : List Value} {x : Int32} : gm_Go E d 30 57 lv (.int x :: st) h r ↔ gm_Go E d 30 58 lv (.int x :: .int x :: st) h r := gr_pure m30 f30_57 rfl
theorem f30_58 : gm_ft 30 58 = some (.getfield 96, 3) := by decide +kernel
theorem r30_58 {E : Nat → Value} {d : Nat} {st : List Value} {h : gm_H} {r : gm_R × gm_H} {lv : List Value} {a : Nat} {vs : List Value} {v : Value} (hr : gm_rd h a = some (0, vs)) (hv : vs[7]? = some v) : gm_Go E d 30 58 lv (.ref a :: st) h r ↔ gm_Go E d 30 61 lv (v :: st) h r := gr_rd m30 f30_58 rfl rfl rfl rfl (gf_get k0_96 hr hv)
theorem f30_61 : gm_ft 30 61 = some (.iconst 1, 1) := by decide +kernel
theorem r30_61 {E : Nat → Value} {d : Nat} {st : List Value} {h : gm_H} {r : gm_R × gm_H} {lv : List Value} : gm_Go E d 30 61 lv st h r ↔ gm_Go E d 30 62 lv (.int (1 : Int32) :: st) h r := gr_pure m30 f30_61 rfl
theorem f30_62 : gm_ft 30 62 = some (.iadd, 1) := by decide +kernel
theorem r30_62 {E : Nat → Value} {d : Nat} {st : List Value} {h : gm_H} {r : gm_R × gm_H} {lv : List Value} {x y : Int32} : gm_Go E d 30 62 lv (.int y :: .int x :: st) h r ↔ gm_Go E d 30 63 lv (.int (x + y) :: st) h r := gr_pure m30 f30_62 rfl
theorem f30_63 : gm_ft 30 63 = some (.putfield 96, 3) := by decide +kernel
theorem r30_63 {E : Nat → Value} {d : Nat} {st : List Value} {h : gm_H} {r : gm_R × gm_H} {lv : List Value} {a : Nat} {vs : List Value} {v : Value} (hr : gm_rd h a = some (0, vs)) (hk : 7 < vs.length) (hn : narrow (gm_ty 0 7) v = v ∧ fits (gm_ty 0 7) v = true) : gm_Go E d 30 63 lv (v :: .ref a :: st) h r ↔ gm_Go E d 30 66 lv st (gm_wr h a (0, vs.set 7 v)) r := gr_wr m30 f30_63 rfl rfl rfl rfl rfl (gf_put k0_96 hr (by decide) hk hn (by decide))
theorem f30_66 : gm_ft 30 66 = some (.iinc 3 1, 3) := by decide +kernel
theorem r30_66 {E : Nat → Value} {d : Nat} {st : List Value} {h : gm_H} {r : gm_R × gm_H} {a0 a1 a2 : Value} {x : Int32} : gm_Go E d 30 66 [a0, a1, a2, .int x] st h r ↔ gm_Go E d 30 69 [a0, a1, gm_k a2, .int (x + (1 : Int32))] st h r := gr_loc m30 f30_66 rfl rfl
theorem f30_69 : gm_ft 30 69 = some (.goto (-55), 3) := by decide +kernel
theorem r30_69 {E : Nat → Value} {d : Nat} {st : List Value} {h : gm_H} {r : gm_R × gm_H} {lv : List Value} : gm_Go E d 30 69 lv st h r ↔ gm_Go E d 30 14 lv st h r := gr_brT m30 f30_69 rfl rfl rfl rfl
theorem f30_72 : gm_ft 30 72 = some (.iload_n 2, 1) := by decide +kernel
theorem r30_72 {E : Nat → Value} {d : Nat} {st : List Value} {h : gm_H} {r : gm_R × gm_H} {a0 a1 a3 : Value} {x : Int32} : gm_Go E d 30 72 [a0, a1, .int x, a3] st h r ↔ gm_Go E d 30 73 [a0, a1, .int x, a3] (.int x :: st) h r := gr_loc m30 f30_72 rfl rfl
theorem f30_73 : gm_ft 30 73 = some (.ireturn, 1) := by decide +kernel
theorem r30_73 {E : Nat → Value} {d : Nat} {h : gm_H} {r : gm_R × gm_H} {lv : List Value} {x : Int32} : gm_Go E d 30 73 lv [.int x] h r ↔ r = (.inl (some (.int x)), h) := gr_ret m30 f30_73 rfl rfl rfl rfl rfl rfl rfl rfl (by unfold gm_rt; dsimp only; rw [if_pos ⟨rfl, rfl⟩])
/-! GraphReader$Descriptor.<init>(IIJ)V -/
theorem m31 : gm_mt[31]? = some (⟨"GraphReader$Descriptor", "<init>", "(IIJ)V"⟩, prog_2_method_1_code, 5, none, [], 1, 1) := rfl
theorem f31_0 : gm_ft 31 0 = some (.aload_n 0, 1) := by decide +kernel
theorem r31_0 {E : Nat → Value} {d : Nat} {st : List Value} {h : gm_H} {r : gm_R × gm_H} {a1 a2 a3 a4 : Value} {x : Nat} : gm_Go E d 31 0 [.ref x, a1, a2, a3, a4] st h r ↔ gm_Go E d 31 1 [.ref x, a1, a2, a3, a4] (.ref x :: st) h r := gr_loc m31 f31_0 rfl rfl
theorem r31_0n {E : Nat → Value} {d : Nat} {st : List Value} {h : gm_H} {r : gm_R × gm_H} {a1 a2 a3 a4 : Value}  : gm_Go E d 31 0 [.null, a1, a2, a3, a4] st h r ↔ gm_Go E d 31 1 [.null, a1, a2, a3, a4] (.null :: st) h r := gr_loc m31 f31_0 rfl rfl
theorem f31_1 : gm_ft 31 1 = some (.invokespecial 3, 3) := by decide +kernel
theorem r31_1 {E : Nat → Value} {d : Nat} {st : List Value} {h : gm_H} {r : gm_R × gm_H} {lv : List Value} {a : Nat} (hs : (st.map fun v => v.category).sum ≤ 8) : gm_Go E d 31 1 lv (.ref a :: st) h r ↔ gm_Go E d 31 4 lv st h r := gr_oi m31 f31_1 rfl rfl rfl rfl rfl rfl rfl (gc_spec (w := 308) rfl hs (by decide))
theorem f31_4 : gm_ft 31 4 = some (.aload_n 0, 1) := by decide +kernel
theorem r31_4 {E : Nat → Value} {d : Nat} {st : List Value} {h : gm_H} {r : gm_R × gm_H} {a1 a2 a3 a4 : Value} {x : Nat} : gm_Go E d 31 4 [.ref x, a1, a2, a3, a4] st h r ↔ gm_Go E d 31 5 [.ref x, a1, a2, a3, a4] (.ref x :: st) h r := gr_loc m31 f31_4 rfl rfl
theorem r31_4n {E : Nat → Value} {d : Nat} {st : List Value} {h : gm_H} {r : gm_R × gm_H} {a1 a2 a3 a4 : Value}  : gm_Go E d 31 4 [.null, a1, a2, a3, a4] st h r ↔ gm_Go E d 31 5 [.null, a1, a2, a3, a4] (.null :: st) h r := gr_loc m31 f31_4 rfl rfl
theorem f31_5 : gm_ft 31 5 = some (.iload_n 1, 1) := by decide +kernel
theorem r31_5 {E : Nat → Value} {d : Nat} {st : List Value} {h : gm_H} {r : gm_R × gm_H} {a0 a2 a3 a4 : Value} {x : Int32} : gm_Go E d 31 5 [a0, .int x, a2, a3, a4] st h r ↔ gm_Go E d 31 6 [a0, .int x, a2, a3, a4] (.int x :: st) h r := gr_loc m31 f31_5 rfl rfl
theorem f31_6 : gm_ft 31 6 = some (.putfield 9, 3) := by decide +kernel
theorem r31_6 {E : Nat → Value} {d : Nat} {st : List Value} {h : gm_H} {r : gm_R × gm_H} {lv : List Value} {a : Nat} {vs : List Value} {v : Value} (hr : gm_rd h a = some (1, vs)) (hk : 0 < vs.length) (hn : narrow (gm_ty 1 0) v = v ∧ fits (gm_ty 1 0) v = true) : gm_Go E d 31 6 lv (v :: .ref a :: st) h r ↔ gm_Go E d 31 9 lv st (gm_wr h a (1, vs.set 0 v)) r := gr_wr m31 f31_6 rfl rfl rfl rfl rfl (gf_put k1_9 hr (by decide) hk hn (by decide))
theorem f31_9 : gm_ft 31 9 = some (.aload_n 0, 1) := by decide +kernel
theorem r31_9 {E : Nat → Value} {d : Nat} {st : List Value} {h : gm_H} {r : gm_R × gm_H} {a1 a2 a3 a4 : Value} {x : Nat} : gm_Go E d 31 9 [.ref x, a1, a2, a3, a4] st h r ↔ gm_Go E d 31 10 [.ref x, a1, a2, a3, a4] (.ref x :: st) h r := gr_loc m31 f31_9 rfl rfl
theorem r31_9n {E : Nat → Value} {d : Nat} {st : List Value} {h : gm_H} {r : gm_R × gm_H} {a1 a2 a3 a4 : Value}  : gm_Go E d 31 9 [.null, a1, a2, a3, a4] st h r ↔ gm_Go E d 31 10 [.null, a1, a2, a3, a4] (.null :: st) h r := gr_loc m31 f31_9 rfl rfl
theorem f31_10 : gm_ft 31 10 = some (.iload_n 2, 1) := by decide +kernel
theorem r31_10 {E : Nat → Value} {d : Nat} {st : List Value} {h : gm_H} {r : gm_R × gm_H} {a0 a1 a3 a4 : Value} {x : Int32} : gm_Go E d 31 10 [a0, a1, .int x, a3, a4] st h r ↔ gm_Go E d 31 11 [a0, a1, .int x, a3, a4] (.int x :: st) h r := gr_loc m31 f31_10 rfl rfl
theorem f31_11 : gm_ft 31 11 = some (.putfield 15, 3) := by decide +kernel
theorem r31_11 {E : Nat → Value} {d : Nat} {st : List Value} {h : gm_H} {r : gm_R × gm_H} {lv : List Value} {a : Nat} {vs : List Value} {v : Value} (hr : gm_rd h a = some (1, vs)) (hk : 1 < vs.length) (hn : narrow (gm_ty 1 1) v = v ∧ fits (gm_ty 1 1) v = true) : gm_Go E d 31 11 lv (v :: .ref a :: st) h r ↔ gm_Go E d 31 14 lv st (gm_wr h a (1, vs.set 1 v)) r := gr_wr m31 f31_11 rfl rfl rfl rfl rfl (gf_put k1_15 hr (by decide) hk hn (by decide))
theorem f31_14 : gm_ft 31 14 = some (.aload_n 0, 1) := by decide +kernel
theorem r31_14 {E : Nat → Value} {d : Nat} {st : List Value} {h : gm_H} {r : gm_R × gm_H} {a1 a2 a3 a4 : Value} {x : Nat} : gm_Go E d 31 14 [.ref x, a1, a2, a3, a4] st h r ↔ gm_Go E d 31 15 [.ref x, a1, a2, a3, a4] (.ref x :: st) h r := gr_loc m31 f31_14 rfl rfl
theorem r31_14n {E : Nat → Value} {d : Nat} {st : List Value} {h : gm_H} {r : gm_R × gm_H} {a1 a2 a3 a4 : Value}  : gm_Go E d 31 14 [.null, a1, a2, a3, a4] st h r ↔ gm_Go E d 31 15 [.null, a1, a2, a3, a4] (.null :: st) h r := gr_loc m31 f31_14 rfl rfl
theorem f31_15 : gm_ft 31 15 = some (.lload_n 3, 1) := by decide +kernel
theorem r31_15 {E : Nat → Value} {d : Nat} {st : List Value} {h : gm_H} {r : gm_R × gm_H} {a0 a1 a2 a4 : Value} {x : Int64} : gm_Go E d 31 15 [a0, a1, a2, .long x, a4] st h r ↔ gm_Go E d 31 16 [a0, a1, a2, .long x, a4] (.long x :: st) h r := gr_loc m31 f31_15 rfl rfl
theorem f31_16 : gm_ft 31 16 = some (.putfield 18, 3) := by decide +kernel
theorem r31_16 {E : Nat → Value} {d : Nat} {st : List Value} {h : gm_H} {r : gm_R × gm_H} {lv : List Value} {a : Nat} {vs : List Value} {v : Value} (hr : gm_rd h a = some (1, vs)) (hk : 2 < vs.length) (hn : narrow (gm_ty 1 2) v = v ∧ fits (gm_ty 1 2) v = true) : gm_Go E d 31 16 lv (v :: .ref a :: st) h r ↔ gm_Go E d 31 19 lv st (gm_wr h a (1, vs.set 2 v)) r := gr_wr m31 f31_16 rfl rfl rfl rfl rfl (gf_put k1_18 hr (by decide) hk hn (by decide))
theorem f31_19 : gm_ft 31 19 = some (.return_, 1) := by decide +kernel
theorem r31_19 {E : Nat → Value} {d : Nat} {h : gm_H} {r : gm_R × gm_H} {lv : List Value} : gm_Go E d 31 19 lv [] h r ↔ r = (.inl none, h) := gr_ret m31 f31_19 rfl rfl rfl rfl rfl rfl rfl rfl rfl
/-! GraphReader.addEntry(I)I -/
theorem m32 : gm_mt[32]? = some (⟨"GraphReader", "addEntry", "(I)I"⟩, prog_1_method_28_code, 2, (some .int), [], 0, 1) := rfl
theorem f32_0 : gm_ft 32 0 = some (.aload_n 0, 1) := by decide +kernel
theorem r32_0 {E : Nat → Value} {d : Nat} {st : List Value} {h : gm_H} {r : gm_R × gm_H} {a1 : Value} {x : Nat} : gm_Go E d 32 0 [.ref x, a1] st h r ↔ gm_Go E d 32 1 [.ref x, a1] (.ref x :: st) h r := gr_loc m32 f32_0 rfl rfl
theorem r32_0n {E : Nat → Value} {d : Nat} {st : List Value} {h : gm_H} {r : gm_R × gm_H} {a1 : Value}  : gm_Go E d 32 0 [.null, a1] st h r ↔ gm_Go E d 32 1 [.null, a1] (.null :: st) h r := gr_loc m32 f32_0 rfl rfl
theorem f32_1 : gm_ft 32 1 = some (.getfield 28, 3) := by decide +kernel
theorem r32_1 {E : Nat → Value} {d : Nat} {st : List Value} {h : gm_H} {r : gm_R × gm_H} {lv : List Value} {a : Nat} {vs : List Value} {v : Value} (hr : gm_rd h a = some (0, vs)) (hv : vs[10]? = some v) : gm_Go E d 32 1 lv (.ref a :: st) h r ↔ gm_Go E d 32 4 lv (v :: st) h r := gr_rd m32 f32_1 rfl rfl rfl rfl (gf_get k0_28 hr hv)
theorem f32_4 : gm_ft 32 4 = some (.getfield 113, 3) := by decide +kernel
theorem r32_4 {E : Nat → Value} {d : Nat} {st : List Value} {h : gm_H} {r : gm_R × gm_H} {lv : List Value} {a : Nat} {vs : List Value} {v : Value} (hr : gm_rd h a = some (2, vs)) (hv : vs[3]? = some v) : gm_Go E d 32 4 lv (.ref a :: st) h r ↔ gm_Go E d 32 7 lv (v :: st) h r := gr_rd m32 f32_4 rfl rfl rfl rfl (gf_get k0_113 hr hv)
theorem f32_7 : gm_ft 32 7 = some (.sipush 234, 3) := by decide +kernel
theorem r32_7 {E : Nat → Value} {d : Nat} {st : List Value} {h : gm_H} {r : gm_R × gm_H} {lv : List Value} : gm_Go E d 32 7 lv st h r ↔ gm_Go E d 32 10 lv (.int (234 : Int32) :: st) h r := gr_pure m32 f32_7 rfl
theorem f32_10 : gm_ft 32 10 = some (.if_icmp .lt 10, 3) := by decide +kernel
theorem r32_10 {E : Nat → Value} {d : Nat} {st : List Value} {h : gm_H} {r : gm_R × gm_H} {lv : List Value} {x y : Int32} : gm_Go E d 32 10 lv (.int y :: .int x :: st) h r ↔ (if x < y then gm_Go E d 32 20 lv st h r else gm_Go E d 32 13 lv st h r) := (gr_br m32 f32_10 rfl rfl rfl rfl).trans gr_if
theorem f32_13 : gm_ft 32 13 = some (.aload_n 0, 1) := by decide +kernel
theorem r32_13 {E : Nat → Value} {d : Nat} {st : List Value} {h : gm_H} {r : gm_R × gm_H} {a1 : Value} {x : Nat} : gm_Go E d 32 13 [.ref x, a1] st h r ↔ gm_Go E d 32 14 [.ref x, a1] (.ref x :: st) h r := gr_loc m32 f32_13 rfl rfl
theorem r32_13n {E : Nat → Value} {d : Nat} {st : List Value} {h : gm_H} {r : gm_R × gm_H} {a1 : Value}  : gm_Go E d 32 13 [.null, a1] st h r ↔ gm_Go E d 32 14 [.null, a1] (.null :: st) h r := gr_loc m32 f32_13 rfl rfl
theorem f32_14 : gm_ft 32 14 = some (.bipush (-8), 2) := by decide +kernel
theorem r32_14 {E : Nat → Value} {d : Nat} {st : List Value} {h : gm_H} {r : gm_R × gm_H} {lv : List Value} : gm_Go E d 32 14 lv st h r ↔ gm_Go E d 32 16 lv (.int (-8 : Int32) :: st) h r := gr_pure m32 f32_14 rfl
theorem f32_16 : gm_ft 32 16 = some (.invokevirtual 160, 3) := by decide +kernel
theorem n32_16 {st : List Value} {h : gm_H} {E : Nat → Value} {lv : List Value} {b0 : Value} {a : Nat} (hs : (st.map fun v => v.category).sum ≤ 8) (he : (gm_en1 [.ref a, b0]).length ≤ 2) {vs : List Value} (hr : gm_rd h a = some (0, vs)) : gm_next E 32 16 lv (b0 :: .ref a :: st) h = some (.inr (.inl (0, 22, [.ref a, b0], st))) := gn_call m32 f32_16 rfl rfl rfl rfl rfl rfl rfl (gc_virt (bs := [b0]) (w := 206) rfl rfl rfl rfl hs he hr) (by decide)
theorem f32_19 : gm_ft 32 19 = some (.ireturn, 1) := by decide +kernel
theorem r32_19 {E : Nat → Value} {d : Nat} {h : gm_H} {r : gm_R × gm_H} {lv : List Value} {x : Int32} : gm_Go E d 32 19 lv [.int x] h r ↔ r = (.inl (some (.int x)), h) := gr_ret m32 f32_19 rfl rfl rfl rfl rfl rfl rfl rfl (by unfold gm_rt; dsimp only; rw [if_pos ⟨rfl, rfl⟩])
theorem f32_20 : gm_ft 32 20 = some (.aload_n 0, 1) := by decide +kernel
theorem r32_20 {E : Nat → Value} {d : Nat} {st : List Value} {h : gm_H} {r : gm_R × gm_H} {a1 : Value} {x : Nat} : gm_Go E d 32 20 [.ref x, a1] st h r ↔ gm_Go E d 32 21 [.ref x, a1] (.ref x :: st) h r := gr_loc m32 f32_20 rfl rfl
theorem r32_20n {E : Nat → Value} {d : Nat} {st : List Value} {h : gm_H} {r : gm_R × gm_H} {a1 : Value}  : gm_Go E d 32 20 [.null, a1] st h r ↔ gm_Go E d 32 21 [.null, a1] (.null :: st) h r := gr_loc m32 f32_20 rfl rfl
theorem f32_21 : gm_ft 32 21 = some (.getfield 28, 3) := by decide +kernel
theorem r32_21 {E : Nat → Value} {d : Nat} {st : List Value} {h : gm_H} {r : gm_R × gm_H} {lv : List Value} {a : Nat} {vs : List Value} {v : Value} (hr : gm_rd h a = some (0, vs)) (hv : vs[10]? = some v) : gm_Go E d 32 21 lv (.ref a :: st) h r ↔ gm_Go E d 32 24 lv (v :: st) h r := gr_rd m32 f32_21 rfl rfl rfl rfl (gf_get k0_28 hr hv)
theorem f32_24 : gm_ft 32 24 = some (.iload_n 1, 1) := by decide +kernel
theorem r32_24 {E : Nat → Value} {d : Nat} {st : List Value} {h : gm_H} {r : gm_R × gm_H} {a0 : Value} {x : Int32} : gm_Go E d 32 24 [a0, .int x] st h r ↔ gm_Go E d 32 25 [a0, .int x] (.int x :: st) h r := gr_loc m32 f32_24 rfl rfl
theorem f32_25 : gm_ft 32 25 = some (.invokevirtual 185, 3) := by decide +kernel
theorem n32_25 {st : List Value} {h : gm_H} {E : Nat → Value} {lv : List Value} {b0 : Value} {a : Nat} (hs : (st.map fun v => v.category).sum ≤ 8) (he : (gm_en1 [.ref a, b0]).length ≤ 2) {vs : List Value} (hr : gm_rd h a = some (2, vs)) : gm_next E 32 25 lv (b0 :: .ref a :: st) h = some (.inr (.inl (0, 33, [.ref a, b0], st))) := gn_call m32 f32_25 rfl rfl rfl rfl rfl rfl rfl (gc_virt (bs := [b0]) (w := 352) rfl rfl rfl rfl hs he hr) (by decide)
theorem f32_28 : gm_ft 32 28 = some (.ireturn, 1) := by decide +kernel
theorem r32_28 {E : Nat → Value} {d : Nat} {h : gm_H} {r : gm_R × gm_H} {lv : List Value} {x : Int32} : gm_Go E d 32 28 lv [.int x] h r ↔ r = (.inl (some (.int x)), h) := gr_ret m32 f32_28 rfl rfl rfl rfl rfl rfl rfl rfl (by unfold gm_rt; dsimp only; rw [if_pos ⟨rfl, rfl⟩])
/-! GraphReader$Handles.add(I)I -/
theorem m33 : gm_mt[33]? = some (⟨"GraphReader$Handles", "add", "(I)I"⟩, prog_3_method_4_code, 2, (some .int), [], 2, 1) := rfl
theorem f33_0 : gm_ft 33 0 = some (.aload_n 0, 1) := by decide +kernel
theorem r33_0 {E : Nat → Value} {d : Nat} {st : List Value} {h : gm_H} {r : gm_R × gm_H} {a1 : Value} {x : Nat} : gm_Go E d 33 0 [.ref x, a1] st h r ↔ gm_Go E d 33 1 [.ref x, a1] (.ref x :: st) h r := gr_loc m33 f33_0 rfl rfl
theorem r33_0n {E : Nat → Value} {d : Nat} {st : List Value} {h : gm_H} {r : gm_R × gm_H} {a1 : Value}  : gm_Go E d 33 0 [.null, a1] st h r ↔ gm_Go E d 33 1 [.null, a1] (.null :: st) h r := gr_loc m33 f33_0 rfl rfl
theorem f33_1 : gm_ft 33 1 = some (.getfield 9, 3) := by decide +kernel
theorem r33_1 {E : Nat → Value} {d : Nat} {st : List Value} {h : gm_H} {r : gm_R × gm_H} {lv : List Value} {a : Nat} {vs : List Value} {v : Value} (hr : gm_rd h a = some (2, vs)) (hv : vs[0]? = some v) : gm_Go E d 33 1 lv (.ref a :: st) h r ↔ gm_Go E d 33 4 lv (v :: st) h r := gr_rd m33 f33_1 rfl rfl rfl rfl (gf_get k2_9 hr hv)
theorem f33_4 : gm_ft 33 4 = some (.aload_n 0, 1) := by decide +kernel
theorem r33_4 {E : Nat → Value} {d : Nat} {st : List Value} {h : gm_H} {r : gm_R × gm_H} {a1 : Value} {x : Nat} : gm_Go E d 33 4 [.ref x, a1] st h r ↔ gm_Go E d 33 5 [.ref x, a1] (.ref x :: st) h r := gr_loc m33 f33_4 rfl rfl
theorem r33_4n {E : Nat → Value} {d : Nat} {st : List Value} {h : gm_H} {r : gm_R × gm_H} {a1 : Value}  : gm_Go E d 33 4 [.null, a1] st h r ↔ gm_Go E d 33 5 [.null, a1] (.null :: st) h r := gr_loc m33 f33_4 rfl rfl
theorem f33_5 : gm_ft 33 5 = some (.getfield 21, 3) := by decide +kernel
theorem r33_5 {E : Nat → Value} {d : Nat} {st : List Value} {h : gm_H} {r : gm_R × gm_H} {lv : List Value} {a : Nat} {vs : List Value} {v : Value} (hr : gm_rd h a = some (2, vs)) (hv : vs[3]? = some v) : gm_Go E d 33 5 lv (.ref a :: st) h r ↔ gm_Go E d 33 8 lv (v :: st) h r := gr_rd m33 f33_5 rfl rfl rfl rfl (gf_get k2_21 hr hv)
theorem f33_8 : gm_ft 33 8 = some (.iload_n 1, 1) := by decide +kernel
theorem r33_8 {E : Nat → Value} {d : Nat} {st : List Value} {h : gm_H} {r : gm_R × gm_H} {a0 : Value} {x : Int32} : gm_Go E d 33 8 [a0, .int x] st h r ↔ gm_Go E d 33 9 [a0, .int x] (.int x :: st) h r := gr_loc m33 f33_8 rfl rfl
theorem f33_9 : gm_ft 33 9 = some (.iastore, 1) := by decide +kernel
theorem r33_9 {E : Nat → Value} {d : Nat} {st : List Value} {h : gm_H} {r : gm_R × gm_H} {lv : List Value} {a k j : Nat} {vs : List Value} {x : Int32} (hr : gm_rd h a = some (k, vs)) (hk : 100 ≤ k ∧ k % 100 = 0 ∧ gm_ko k = 1 ∧ 1 < 3) (hj : j < 2 ^ 31) (hl : j < vs.length) : gm_Go E d 33 9 lv (.int x :: .int (nI j) :: .ref a :: st) h r ↔ gm_Go E d 33 10 lv st (gm_wr h a (k, vs.set j (.int x))) r := gr_wr m33 f33_9 rfl rfl rfl rfl rfl (ga_st hr hk hj hl)
theorem f33_10 : gm_ft 33 10 = some (.aload_n 0, 1) := by decide +kernel
theorem r33_10 {E : Nat → Value} {d : Nat} {st : List Value} {h : gm_H} {r : gm_R × gm_H} {a1 : Value} {x : Nat} : gm_Go E d 33 10 [.ref x, a1] st h r ↔ gm_Go E d 33 11 [.ref x, a1] (.ref x :: st) h r := gr_loc m33 f33_10 rfl rfl
theorem r33_10n {E : Nat → Value} {d : Nat} {st : List Value} {h : gm_H} {r : gm_R × gm_H} {a1 : Value}  : gm_Go E d 33 10 [.null, a1] st h r ↔ gm_Go E d 33 11 [.null, a1] (.null :: st) h r := gr_loc m33 f33_10 rfl rfl
theorem f33_11 : gm_ft 33 11 = some (.getfield 17, 3) := by decide +kernel
theorem r33_11 {E : Nat → Value} {d : Nat} {st : List Value} {h : gm_H} {r : gm_R × gm_H} {lv : List Value} {a : Nat} {vs : List Value} {v : Value} (hr : gm_rd h a = some (2, vs)) (hv : vs[1]? = some v) : gm_Go E d 33 11 lv (.ref a :: st) h r ↔ gm_Go E d 33 14 lv (v :: st) h r := gr_rd m33 f33_11 rfl rfl rfl rfl (gf_get k2_17 hr hv)
theorem f33_14 : gm_ft 33 14 = some (.aload_n 0, 1) := by decide +kernel
theorem r33_14 {E : Nat → Value} {d : Nat} {st : List Value} {h : gm_H} {r : gm_R × gm_H} {a1 : Value} {x : Nat} : gm_Go E d 33 14 [.ref x, a1] st h r ↔ gm_Go E d 33 15 [.ref x, a1] (.ref x :: st) h r := gr_loc m33 f33_14 rfl rfl
theorem r33_14n {E : Nat → Value} {d : Nat} {st : List Value} {h : gm_H} {r : gm_R × gm_H} {a1 : Value}  : gm_Go E d 33 14 [.null, a1] st h r ↔ gm_Go E d 33 15 [.null, a1] (.null :: st) h r := gr_loc m33 f33_14 rfl rfl
theorem f33_15 : gm_ft 33 15 = some (.getfield 21, 3) := by decide +kernel
theorem r33_15 {E : Nat → Value} {d : Nat} {st : List Value} {h : gm_H} {r : gm_R × gm_H} {lv : List Value} {a : Nat} {vs : List Value} {v : Value} (hr : gm_rd h a = some (2, vs)) (hv : vs[3]? = some v) : gm_Go E d 33 15 lv (.ref a :: st) h r ↔ gm_Go E d 33 18 lv (v :: st) h r := gr_rd m33 f33_15 rfl rfl rfl rfl (gf_get k2_21 hr hv)
theorem f33_18 : gm_ft 33 18 = some (.aconst_null, 1) := by decide +kernel
theorem r33_18 {E : Nat → Value} {d : Nat} {st : List Value} {h : gm_H} {r : gm_R × gm_H} {lv : List Value} : gm_Go E d 33 18 lv st h r ↔ gm_Go E d 33 19 lv (.null :: st) h r := gr_pure m33 f33_18 rfl
theorem f33_19 : gm_ft 33 19 = some (.aastore, 1) := by decide +kernel
theorem f33_20 : gm_ft 33 20 = some (.aload_n 0, 1) := by decide +kernel
theorem r33_20 {E : Nat → Value} {d : Nat} {st : List Value} {h : gm_H} {r : gm_R × gm_H} {a1 : Value} {x : Nat} : gm_Go E d 33 20 [.ref x, a1] st h r ↔ gm_Go E d 33 21 [.ref x, a1] (.ref x :: st) h r := gr_loc m33 f33_20 rfl rfl
theorem r33_20n {E : Nat → Value} {d : Nat} {st : List Value} {h : gm_H} {r : gm_R × gm_H} {a1 : Value}  : gm_Go E d 33 20 [.null, a1] st h r ↔ gm_Go E d 33 21 [.null, a1] (.null :: st) h r := gr_loc m33 f33_20 rfl rfl
theorem f33_21 : gm_ft 33 21 = some (.dup, 1) := by decide +kernel
theorem r33_21 {E : Nat → Value} {d : Nat} {st : List Value} {h : gm_H} {r : gm_R × gm_H} {lv : List Value} {a : Nat} : gm_Go E d 33 21 lv (.ref a :: st) h r ↔ gm_Go E d 33 22 lv (.ref a :: .ref a :: st) h r := gr_pure m33 f33_21 rfl
theorem r33_21i {E : Nat → Value} {d : Nat} {st : List Value} {h : gm_H} {r : gm_R × gm_H} {lv : List Value} {x : Int32} : gm_Go E d 33 21 lv (.int x :: st) h r ↔ gm_Go E d 33 22 lv (.int x :: .int x :: st) h r := gr_pure m33 f33_21 rfl
theorem f33_22 : gm_ft 33 22 = some (.getfield 21, 3) := by decide +kernel
theorem r33_22 {E : Nat → Value} {d : Nat} {st : List Value} {h : gm_H} {r : gm_R × gm_H} {lv : List Value} {a : Nat} {vs : List Value} {v : Value} (hr : gm_rd h a = some (2, vs)) (hv : vs[3]? = some v) : gm_Go E d 33 22 lv (.ref a :: st) h r ↔ gm_Go E d 33 25 lv (v :: st) h r := gr_rd m33 f33_22 rfl rfl rfl rfl (gf_get k2_21 hr hv)
theorem f33_25 : gm_ft 33 25 = some (.iconst 1, 1) := by decide +kernel
theorem r33_25 {E : Nat → Value} {d : Nat} {st : List Value} {h : gm_H} {r : gm_R × gm_H} {lv : List Value} : gm_Go E d 33 25 lv st h r ↔ gm_Go E d 33 26 lv (.int (1 : Int32) :: st) h r := gr_pure m33 f33_25 rfl
theorem f33_26 : gm_ft 33 26 = some (.iadd, 1) := by decide +kernel
theorem r33_26 {E : Nat → Value} {d : Nat} {st : List Value} {h : gm_H} {r : gm_R × gm_H} {lv : List Value} {x y : Int32} : gm_Go E d 33 26 lv (.int y :: .int x :: st) h r ↔ gm_Go E d 33 27 lv (.int (x + y) :: st) h r := gr_pure m33 f33_26 rfl
theorem f33_27 : gm_ft 33 27 = some (.putfield 21, 3) := by decide +kernel
theorem r33_27 {E : Nat → Value} {d : Nat} {st : List Value} {h : gm_H} {r : gm_R × gm_H} {lv : List Value} {a : Nat} {vs : List Value} {v : Value} (hr : gm_rd h a = some (2, vs)) (hk : 3 < vs.length) (hn : narrow (gm_ty 2 3) v = v ∧ fits (gm_ty 2 3) v = true) : gm_Go E d 33 27 lv (v :: .ref a :: st) h r ↔ gm_Go E d 33 30 lv st (gm_wr h a (2, vs.set 3 v)) r := gr_wr m33 f33_27 rfl rfl rfl rfl rfl (gf_put k2_21 hr (by decide) hk hn (by decide))
theorem f33_30 : gm_ft 33 30 = some (.aload_n 0, 1) := by decide +kernel
theorem r33_30 {E : Nat → Value} {d : Nat} {st : List Value} {h : gm_H} {r : gm_R × gm_H} {a1 : Value} {x : Nat} : gm_Go E d 33 30 [.ref x, a1] st h r ↔ gm_Go E d 33 31 [.ref x, a1] (.ref x :: st) h r := gr_loc m33 f33_30 rfl rfl
theorem r33_30n {E : Nat → Value} {d : Nat} {st : List Value} {h : gm_H} {r : gm_R × gm_H} {a1 : Value}  : gm_Go E d 33 30 [.null, a1] st h r ↔ gm_Go E d 33 31 [.null, a1] (.null :: st) h r := gr_loc m33 f33_30 rfl rfl
theorem f33_31 : gm_ft 33 31 = some (.getfield 21, 3) := by decide +kernel
theorem r33_31 {E : Nat → Value} {d : Nat} {st : List Value} {h : gm_H} {r : gm_R × gm_H} {lv : List Value} {a : Nat} {vs : List Value} {v : Value} (hr : gm_rd h a = some (2, vs)) (hv : vs[3]? = some v) : gm_Go E d 33 31 lv (.ref a :: st) h r ↔ gm_Go E d 33 34 lv (v :: st) h r := gr_rd m33 f33_31 rfl rfl rfl rfl (gf_get k2_21 hr hv)
theorem f33_34 : gm_ft 33 34 = some (.iconst 1, 1) := by decide +kernel
theorem r33_34 {E : Nat → Value} {d : Nat} {st : List Value} {h : gm_H} {r : gm_R × gm_H} {lv : List Value} : gm_Go E d 33 34 lv st h r ↔ gm_Go E d 33 35 lv (.int (1 : Int32) :: st) h r := gr_pure m33 f33_34 rfl
theorem f33_35 : gm_ft 33 35 = some (.isub, 1) := by decide +kernel
theorem r33_35 {E : Nat → Value} {d : Nat} {st : List Value} {h : gm_H} {r : gm_R × gm_H} {lv : List Value} {x y : Int32} : gm_Go E d 33 35 lv (.int y :: .int x :: st) h r ↔ gm_Go E d 33 36 lv (.int (x - y) :: st) h r := gr_pure m33 f33_35 rfl
theorem f33_36 : gm_ft 33 36 = some (.ireturn, 1) := by decide +kernel
theorem r33_36 {E : Nat → Value} {d : Nat} {h : gm_H} {r : gm_R × gm_H} {lv : List Value} {x : Int32} : gm_Go E d 33 36 lv [.int x] h r ↔ r = (.inl (some (.int x)), h) := gr_ret m33 f33_36 rfl rfl rfl rfl rfl rfl rfl rfl (by unfold gm_rt; dsimp only; rw [if_pos ⟨rfl, rfl⟩])
/-! GraphReader.readFlags(LGraphReader$Descriptor;)V -/
theorem m34 : gm_mt[34]? = some (⟨"GraphReader", "readFlags", "(LGraphReader$Descriptor;)V"⟩, prog_1_method_48_code, 2, none, [], 0, 1) := rfl
theorem f34_0 : gm_ft 34 0 = some (.aload_n 1, 1) := by decide +kernel
theorem r34_0 {E : Nat → Value} {d : Nat} {st : List Value} {h : gm_H} {r : gm_R × gm_H} {a0 : Value} {x : Nat} : gm_Go E d 34 0 [a0, .ref x] st h r ↔ gm_Go E d 34 1 [a0, .ref x] (.ref x :: st) h r := gr_loc m34 f34_0 rfl rfl
theorem r34_0n {E : Nat → Value} {d : Nat} {st : List Value} {h : gm_H} {r : gm_R × gm_H} {a0 : Value}  : gm_Go E d 34 0 [a0, .null] st h r ↔ gm_Go E d 34 1 [a0, .null] (.null :: st) h r := gr_loc m34 f34_0 rfl rfl
theorem f34_1 : gm_ft 34 1 = some (.aload_n 0, 1) := by decide +kernel
theorem r34_1 {E : Nat → Value} {d : Nat} {st : List Value} {h : gm_H} {r : gm_R × gm_H} {a1 : Value} {x : Nat} : gm_Go E d 34 1 [.ref x, a1] st h r ↔ gm_Go E d 34 2 [.ref x, a1] (.ref x :: st) h r := gr_loc m34 f34_1 rfl rfl
theorem r34_1n {E : Nat → Value} {d : Nat} {st : List Value} {h : gm_H} {r : gm_R × gm_H} {a1 : Value}  : gm_Go E d 34 1 [.null, a1] st h r ↔ gm_Go E d 34 2 [.null, a1] (.null :: st) h r := gr_loc m34 f34_1 rfl rfl
theorem f34_2 : gm_ft 34 2 = some (.invokevirtual 176, 3) := by decide +kernel
theorem n34_2 {st : List Value} {h : gm_H} {E : Nat → Value} {lv : List Value} {a : Nat} (hs : (st.map fun v => v.category).sum ≤ 8) (he : (gm_en1 [.ref a]).length ≤ 1) {vs : List Value} (hr : gm_rd h a = some (0, vs)) : gm_next E 34 2 lv (.ref a :: st) h = some (.inr (.inl (0, 24, [.ref a], st))) := gn_call m34 f34_2 rfl rfl rfl rfl rfl rfl rfl (gc_virt (bs := []) (w := 274) rfl rfl rfl rfl hs he hr) (by decide)
theorem f34_5 : gm_ft 34 5 = some (.putfield 343, 3) := by decide +kernel
theorem r34_5 {E : Nat → Value} {d : Nat} {st : List Value} {h : gm_H} {r : gm_R × gm_H} {lv : List Value} {a : Nat} {vs : List Value} {v : Value} (hr : gm_rd h a = some (1, vs)) (hk : 3 < vs.length) (hn : narrow (gm_ty 1 3) v = v ∧ fits (gm_ty 1 3) v = true) : gm_Go E d 34 5 lv (v :: .ref a :: st) h r ↔ gm_Go E d 34 8 lv st (gm_wr h a (1, vs.set 3 v)) r := gr_wr m34 f34_5 rfl rfl rfl rfl rfl (gf_put k0_343 hr (by decide) hk hn (by decide))
theorem f34_8 : gm_ft 34 8 = some (.aload_n 1, 1) := by decide +kernel
theorem r34_8 {E : Nat → Value} {d : Nat} {st : List Value} {h : gm_H} {r : gm_R × gm_H} {a0 : Value} {x : Nat} : gm_Go E d 34 8 [a0, .ref x] st h r ↔ gm_Go E d 34 9 [a0, .ref x] (.ref x :: st) h r := gr_loc m34 f34_8 rfl rfl
theorem r34_8n {E : Nat → Value} {d : Nat} {st : List Value} {h : gm_H} {r : gm_R × gm_H} {a0 : Value}  : gm_Go E d 34 8 [a0, .null] st h r ↔ gm_Go E d 34 9 [a0, .null] (.null :: st) h r := gr_loc m34 f34_8 rfl rfl
theorem f34_9 : gm_ft 34 9 = some (.iconst 2, 1) := by decide +kernel
theorem r34_9 {E : Nat → Value} {d : Nat} {st : List Value} {h : gm_H} {r : gm_R × gm_H} {lv : List Value} : gm_Go E d 34 9 lv st h r ↔ gm_Go E d 34 10 lv (.int (2 : Int32) :: st) h r := gr_pure m34 f34_9 rfl
theorem f34_10 : gm_ft 34 10 = some (.invokevirtual 309, 3) := by decide +kernel
theorem n34_10 {st : List Value} {h : gm_H} {E : Nat → Value} {lv : List Value} {b0 : Value} {a : Nat} (hs : (st.map fun v => v.category).sum ≤ 8) (he : (gm_en1 [.ref a, b0]).length ≤ 2) {vs : List Value} (hr : gm_rd h a = some (1, vs)) : gm_next E 34 10 lv (b0 :: .ref a :: st) h = some (.inr (.inl (0, 35, [.ref a, b0], st))) := gn_call m34 f34_10 rfl rfl rfl rfl rfl rfl rfl (gc_virt (bs := [b0]) (w := 360) rfl rfl rfl rfl hs he hr) (by decide)
theorem f34_13 : gm_ft 34 13 = some (.ifCond .eq 11, 3) := by decide +kernel
theorem r34_13 {E : Nat → Value} {d : Nat} {st : List Value} {h : gm_H} {r : gm_R × gm_H} {lv : List Value} {x : Int32} : gm_Go E d 34 13 lv (.int x :: st) h r ↔ (if x = 0 then gm_Go E d 34 24 lv st h r else gm_Go E d 34 16 lv st h r) := (gr_br m34 f34_13 rfl rfl rfl rfl).trans gr_if
theorem f34_16 : gm_ft 34 16 = some (.aload_n 1, 1) := by decide +kernel
theorem r34_16 {E : Nat → Value} {d : Nat} {st : List Value} {h : gm_H} {r : gm_R × gm_H} {a0 : Value} {x : Nat} : gm_Go E d 34 16 [a0, .ref x] st h r ↔ gm_Go E d 34 17 [a0, .ref x] (.ref x :: st) h r := gr_loc m34 f34_16 rfl rfl
theorem r34_16n {E : Nat → Value} {d : Nat} {st : List Value} {h : gm_H} {r : gm_R × gm_H} {a0 : Value}  : gm_Go E d 34 16 [a0, .null] st h r ↔ gm_Go E d 34 17 [a0, .null] (.null :: st) h r := gr_loc m34 f34_16 rfl rfl
theorem f34_17 : gm_ft 34 17 = some (.iconst 4, 1) := by decide +kernel
theorem r34_17 {E : Nat → Value} {d : Nat} {st : List Value} {h : gm_H} {r : gm_R × gm_H} {lv : List Value} : gm_Go E d 34 17 lv st h r ↔ gm_Go E d 34 18 lv (.int (4 : Int32) :: st) h r := gr_pure m34 f34_17 rfl
theorem f34_18 : gm_ft 34 18 = some (.invokevirtual 309, 3) := by decide +kernel
theorem n34_18 {st : List Value} {h : gm_H} {E : Nat → Value} {lv : List Value} {b0 : Value} {a : Nat} (hs : (st.map fun v => v.category).sum ≤ 8) (he : (gm_en1 [.ref a, b0]).length ≤ 2) {vs : List Value} (hr : gm_rd h a = some (1, vs)) : gm_next E 34 18 lv (b0 :: .ref a :: st) h = some (.inr (.inl (0, 35, [.ref a, b0], st))) := gn_call m34 f34_18 rfl rfl rfl rfl rfl rfl rfl (gc_virt (bs := [b0]) (w := 360) rfl rfl rfl rfl hs he hr) (by decide)
theorem f34_21 : gm_ft 34 21 = some (.ifCond .ne 19, 3) := by decide +kernel
theorem r34_21 {E : Nat → Value} {d : Nat} {st : List Value} {h : gm_H} {r : gm_R × gm_H} {lv : List Value} {x : Int32} : gm_Go E d 34 21 lv (.int x :: st) h r ↔ (if x = 0 then gm_Go E d 34 24 lv st h r else gm_Go E d 34 40 lv st h r) := (gr_br m34 f34_21 rfl rfl rfl rfl).trans gr_ifn
theorem f34_24 : gm_ft 34 24 = some (.aload_n 1, 1) := by decide +kernel
theorem r34_24 {E : Nat → Value} {d : Nat} {st : List Value} {h : gm_H} {r : gm_R × gm_H} {a0 : Value} {x : Nat} : gm_Go E d 34 24 [a0, .ref x] st h r ↔ gm_Go E d 34 25 [a0, .ref x] (.ref x :: st) h r := gr_loc m34 f34_24 rfl rfl
theorem r34_24n {E : Nat → Value} {d : Nat} {st : List Value} {h : gm_H} {r : gm_R × gm_H} {a0 : Value}  : gm_Go E d 34 24 [a0, .null] st h r ↔ gm_Go E d 34 25 [a0, .null] (.null :: st) h r := gr_loc m34 f34_24 rfl rfl
theorem f34_25 : gm_ft 34 25 = some (.invokevirtual 256, 3) := by decide +kernel
theorem n34_25 {st : List Value} {h : gm_H} {E : Nat → Value} {lv : List Value} {a : Nat} (hs : (st.map fun v => v.category).sum ≤ 8) (he : (gm_en1 [.ref a]).length ≤ 1) {vs : List Value} (hr : gm_rd h a = some (1, vs)) : gm_next E 34 25 lv (.ref a :: st) h = some (.inr (.inl (0, 36, [.ref a], st))) := gn_call m34 f34_25 rfl rfl rfl rfl rfl rfl rfl (gc_virt (bs := []) (w := 364) rfl rfl rfl rfl hs he hr) (by decide)
theorem f34_28 : gm_ft 34 28 = some (.ifCond .eq 19, 3) := by decide +kernel
theorem r34_28 {E : Nat → Value} {d : Nat} {st : List Value} {h : gm_H} {r : gm_R × gm_H} {lv : List Value} {x : Int32} : gm_Go E d 34 28 lv (.int x :: st) h r ↔ (if x = 0 then gm_Go E d 34 47 lv st h r else gm_Go E d 34 31 lv st h r) := (gr_br m34 f34_28 rfl rfl rfl rfl).trans gr_if
theorem f34_31 : gm_ft 34 31 = some (.aload_n 1, 1) := by decide +kernel
theorem r34_31 {E : Nat → Value} {d : Nat} {st : List Value} {h : gm_H} {r : gm_R × gm_H} {a0 : Value} {x : Nat} : gm_Go E d 34 31 [a0, .ref x] st h r ↔ gm_Go E d 34 32 [a0, .ref x] (.ref x :: st) h r := gr_loc m34 f34_31 rfl rfl
theorem r34_31n {E : Nat → Value} {d : Nat} {st : List Value} {h : gm_H} {r : gm_R × gm_H} {a0 : Value}  : gm_Go E d 34 31 [a0, .null] st h r ↔ gm_Go E d 34 32 [a0, .null] (.null :: st) h r := gr_loc m34 f34_31 rfl rfl
theorem f34_32 : gm_ft 34 32 = some (.getfield 346, 3) := by decide +kernel
theorem r34_32 {E : Nat → Value} {d : Nat} {st : List Value} {h : gm_H} {r : gm_R × gm_H} {lv : List Value} {a : Nat} {vs : List Value} {v : Value} (hr : gm_rd h a = some (1, vs)) (hv : vs[2]? = some v) : gm_Go E d 34 32 lv (.ref a :: st) h r ↔ gm_Go E d 34 35 lv (v :: st) h r := gr_rd m34 f34_32 rfl rfl rfl rfl (gf_get k0_346 hr hv)
theorem f34_35 : gm_ft 34 35 = some (.lconst 0, 1) := by decide +kernel
theorem r34_35 {E : Nat → Value} {d : Nat} {st : List Value} {h : gm_H} {r : gm_R × gm_H} {lv : List Value} : gm_Go E d 34 35 lv st h r ↔ gm_Go E d 34 36 lv (.long 0 :: st) h r := gr_pure m34 f34_35 rfl
theorem f34_36 : gm_ft 34 36 = some (.lcmp, 1) := by decide +kernel
theorem r34_36 {E : Nat → Value} {d : Nat} {st : List Value} {h : gm_H} {r : gm_R × gm_H} {lv : List Value} {x y : Int64} : gm_Go E d 34 36 lv (.long y :: .long x :: st) h r ↔ gm_Go E d 34 37 lv (.int (lg_cmp x y) :: st) h r := gr_pure m34 f34_36 rfl
theorem f34_37 : gm_ft 34 37 = some (.ifCond .eq 10, 3) := by decide +kernel
theorem r34_37 {E : Nat → Value} {d : Nat} {st : List Value} {h : gm_H} {r : gm_R × gm_H} {lv : List Value} {x : Int32} : gm_Go E d 34 37 lv (.int x :: st) h r ↔ (if x = 0 then gm_Go E d 34 47 lv st h r else gm_Go E d 34 40 lv st h r) := (gr_br m34 f34_37 rfl rfl rfl rfl).trans gr_if
theorem f34_40 : gm_ft 34 40 = some (.aload_n 0, 1) := by decide +kernel
theorem r34_40 {E : Nat → Value} {d : Nat} {st : List Value} {h : gm_H} {r : gm_R × gm_H} {a1 : Value} {x : Nat} : gm_Go E d 34 40 [.ref x, a1] st h r ↔ gm_Go E d 34 41 [.ref x, a1] (.ref x :: st) h r := gr_loc m34 f34_40 rfl rfl
theorem r34_40n {E : Nat → Value} {d : Nat} {st : List Value} {h : gm_H} {r : gm_R × gm_H} {a1 : Value}  : gm_Go E d 34 40 [.null, a1] st h r ↔ gm_Go E d 34 41 [.null, a1] (.null :: st) h r := gr_loc m34 f34_40 rfl rfl
theorem f34_41 : gm_ft 34 41 = some (.bipush (-5), 2) := by decide +kernel
theorem r34_41 {E : Nat → Value} {d : Nat} {st : List Value} {h : gm_H} {r : gm_R × gm_H} {lv : List Value} : gm_Go E d 34 41 lv st h r ↔ gm_Go E d 34 43 lv (.int (-5 : Int32) :: st) h r := gr_pure m34 f34_41 rfl
theorem f34_43 : gm_ft 34 43 = some (.invokevirtual 160, 3) := by decide +kernel
theorem n34_43 {st : List Value} {h : gm_H} {E : Nat → Value} {lv : List Value} {b0 : Value} {a : Nat} (hs : (st.map fun v => v.category).sum ≤ 8) (he : (gm_en1 [.ref a, b0]).length ≤ 2) {vs : List Value} (hr : gm_rd h a = some (0, vs)) : gm_next E 34 43 lv (b0 :: .ref a :: st) h = some (.inr (.inl (0, 22, [.ref a, b0], st))) := gn_call m34 f34_43 rfl rfl rfl rfl rfl rfl rfl (gc_virt (bs := [b0]) (w := 206) rfl rfl rfl rfl hs he hr) (by decide)
theorem f34_46 : gm_ft 34 46 = some (.pop, 1) := by decide +kernel
theorem r34_46 {E : Nat → Value} {d : Nat} {st : List Value} {h : gm_H} {r : gm_R × gm_H} {lv : List Value} {x : Int32} : gm_Go E d 34 46 lv (.int x :: st) h r ↔ gm_Go E d 34 47 lv st h r := gr_pure m34 f34_46 rfl
theorem r34_46a {E : Nat → Value} {d : Nat} {st : List Value} {h : gm_H} {r : gm_R × gm_H} {lv : List Value} {a : Nat} : gm_Go E d 34 46 lv (.ref a :: st) h r ↔ gm_Go E d 34 47 lv st h r := gr_pure m34 f34_46 rfl
theorem r34_46n {E : Nat → Value} {d : Nat} {st : List Value} {h : gm_H} {r : gm_R × gm_H} {lv : List Value} : gm_Go E d 34 46 lv (.null :: st) h r ↔ gm_Go E d 34 47 lv st h r := gr_pure m34 f34_46 rfl
theorem f34_47 : gm_ft 34 47 = some (.return_, 1) := by decide +kernel
theorem r34_47 {E : Nat → Value} {d : Nat} {h : gm_H} {r : gm_R × gm_H} {lv : List Value} : gm_Go E d 34 47 lv [] h r ↔ r = (.inl none, h) := gr_ret m34 f34_47 rfl rfl rfl rfl rfl rfl rfl rfl rfl
/-! GraphReader$Descriptor.has(I)Z -/
theorem m35 : gm_mt[35]? = some (⟨"GraphReader$Descriptor", "has", "(I)Z"⟩, prog_2_method_2_code, 2, (some .boolean), [], 1, 1) := rfl
theorem f35_0 : gm_ft 35 0 = some (.aload_n 0, 1) := by decide +kernel
theorem r35_0 {E : Nat → Value} {d : Nat} {st : List Value} {h : gm_H} {r : gm_R × gm_H} {a1 : Value} {x : Nat} : gm_Go E d 35 0 [.ref x, a1] st h r ↔ gm_Go E d 35 1 [.ref x, a1] (.ref x :: st) h r := gr_loc m35 f35_0 rfl rfl
theorem r35_0n {E : Nat → Value} {d : Nat} {st : List Value} {h : gm_H} {r : gm_R × gm_H} {a1 : Value}  : gm_Go E d 35 0 [.null, a1] st h r ↔ gm_Go E d 35 1 [.null, a1] (.null :: st) h r := gr_loc m35 f35_0 rfl rfl
theorem f35_1 : gm_ft 35 1 = some (.getfield 22, 3) := by decide +kernel
theorem r35_1 {E : Nat → Value} {d : Nat} {st : List Value} {h : gm_H} {r : gm_R × gm_H} {lv : List Value} {a : Nat} {vs : List Value} {v : Value} (hr : gm_rd h a = some (1, vs)) (hv : vs[3]? = some v) : gm_Go E d 35 1 lv (.ref a :: st) h r ↔ gm_Go E d 35 4 lv (v :: st) h r := gr_rd m35 f35_1 rfl rfl rfl rfl (gf_get k1_22 hr hv)
theorem f35_4 : gm_ft 35 4 = some (.iload_n 1, 1) := by decide +kernel
theorem r35_4 {E : Nat → Value} {d : Nat} {st : List Value} {h : gm_H} {r : gm_R × gm_H} {a0 : Value} {x : Int32} : gm_Go E d 35 4 [a0, .int x] st h r ↔ gm_Go E d 35 5 [a0, .int x] (.int x :: st) h r := gr_loc m35 f35_4 rfl rfl
theorem f35_5 : gm_ft 35 5 = some (.iand, 1) := by decide +kernel
theorem r35_5 {E : Nat → Value} {d : Nat} {st : List Value} {h : gm_H} {r : gm_R × gm_H} {lv : List Value} {x y : Int32} : gm_Go E d 35 5 lv (.int y :: .int x :: st) h r ↔ gm_Go E d 35 6 lv (.int (x &&& y) :: st) h r := gr_pure m35 f35_5 rfl
theorem f35_6 : gm_ft 35 6 = some (.ifCond .eq 7, 3) := by decide +kernel
theorem r35_6 {E : Nat → Value} {d : Nat} {st : List Value} {h : gm_H} {r : gm_R × gm_H} {lv : List Value} {x : Int32} : gm_Go E d 35 6 lv (.int x :: st) h r ↔ (if x = 0 then gm_Go E d 35 13 lv st h r else gm_Go E d 35 9 lv st h r) := (gr_br m35 f35_6 rfl rfl rfl rfl).trans gr_if
theorem f35_9 : gm_ft 35 9 = some (.iconst 1, 1) := by decide +kernel
theorem r35_9 {E : Nat → Value} {d : Nat} {st : List Value} {h : gm_H} {r : gm_R × gm_H} {lv : List Value} : gm_Go E d 35 9 lv st h r ↔ gm_Go E d 35 10 lv (.int (1 : Int32) :: st) h r := gr_pure m35 f35_9 rfl
theorem f35_10 : gm_ft 35 10 = some (.goto 4, 3) := by decide +kernel
theorem r35_10 {E : Nat → Value} {d : Nat} {st : List Value} {h : gm_H} {r : gm_R × gm_H} {lv : List Value} : gm_Go E d 35 10 lv st h r ↔ gm_Go E d 35 14 lv st h r := gr_brT m35 f35_10 rfl rfl rfl rfl
theorem f35_13 : gm_ft 35 13 = some (.iconst 0, 1) := by decide +kernel
theorem r35_13 {E : Nat → Value} {d : Nat} {st : List Value} {h : gm_H} {r : gm_R × gm_H} {lv : List Value} : gm_Go E d 35 13 lv st h r ↔ gm_Go E d 35 14 lv (.int (0 : Int32) :: st) h r := gr_pure m35 f35_13 rfl
theorem f35_14 : gm_ft 35 14 = some (.ireturn, 1) := by decide +kernel
theorem r35_14_0 {E : Nat → Value} {d : Nat} {h : gm_H} {r : gm_R × gm_H} {lv : List Value} : gm_Go E d 35 14 lv [.int (0 : Int32)] h r ↔ r = (.inl (some (.int (0 : Int32))), h) := gr_ret m35 f35_14 rfl rfl rfl rfl rfl rfl rfl rfl (by unfold gm_rt; dsimp only; rw [if_pos ⟨rfl, rfl⟩])
theorem r35_14_1 {E : Nat → Value} {d : Nat} {h : gm_H} {r : gm_R × gm_H} {lv : List Value} : gm_Go E d 35 14 lv [.int (1 : Int32)] h r ↔ r = (.inl (some (.int (1 : Int32))), h) := gr_ret m35 f35_14 rfl rfl rfl rfl rfl rfl rfl rfl (by unfold gm_rt; dsimp only; rw [if_pos ⟨rfl, rfl⟩])
/-! GraphReader$Descriptor.isConstant()Z -/
theorem m36 : gm_mt[36]? = some (⟨"GraphReader$Descriptor", "isConstant", "()Z"⟩, prog_2_method_3_code, 1, (some .boolean), [], 1, 1) := rfl
theorem f36_0 : gm_ft 36 0 = some (.aload_n 0, 1) := by decide +kernel
theorem r36_0 {E : Nat → Value} {d : Nat} {st : List Value} {h : gm_H} {r : gm_R × gm_H}  {x : Nat} : gm_Go E d 36 0 [.ref x] st h r ↔ gm_Go E d 36 1 [.ref x] (.ref x :: st) h r := gr_loc m36 f36_0 rfl rfl
theorem r36_0n {E : Nat → Value} {d : Nat} {st : List Value} {h : gm_H} {r : gm_R × gm_H}   : gm_Go E d 36 0 [.null] st h r ↔ gm_Go E d 36 1 [.null] (.null :: st) h r := gr_loc m36 f36_0 rfl rfl
theorem f36_1 : gm_ft 36 1 = some (.bipush 16, 2) := by decide +kernel
theorem r36_1 {E : Nat → Value} {d : Nat} {st : List Value} {h : gm_H} {r : gm_R × gm_H} {lv : List Value} : gm_Go E d 36 1 lv st h r ↔ gm_Go E d 36 3 lv (.int (16 : Int32) :: st) h r := gr_pure m36 f36_1 rfl
theorem f36_3 : gm_ft 36 3 = some (.invokevirtual 25, 3) := by decide +kernel
theorem n36_3 {st : List Value} {h : gm_H} {E : Nat → Value} {lv : List Value} {b0 : Value} {a : Nat} (hs : (st.map fun v => v.category).sum ≤ 8) (he : (gm_en1 [.ref a, b0]).length ≤ 2) {vs : List Value} (hr : gm_rd h a = some (1, vs)) : gm_next E 36 3 lv (b0 :: .ref a :: st) h = some (.inr (.inl (0, 35, [.ref a, b0], st))) := gn_call m36 f36_3 rfl rfl rfl rfl rfl rfl rfl (gc_virt (bs := [b0]) (w := 368) rfl rfl rfl rfl hs he hr) (by decide)
theorem f36_6 : gm_ft 36 6 = some (.ireturn, 1) := by decide +kernel
theorem r36_6_0 {E : Nat → Value} {d : Nat} {h : gm_H} {r : gm_R × gm_H} {lv : List Value} : gm_Go E d 36 6 lv [.int (0 : Int32)] h r ↔ r = (.inl (some (.int (0 : Int32))), h) := gr_ret m36 f36_6 rfl rfl rfl rfl rfl rfl rfl rfl (by unfold gm_rt; dsimp only; rw [if_pos ⟨rfl, rfl⟩])
theorem r36_6_1 {E : Nat → Value} {d : Nat} {h : gm_H} {r : gm_R × gm_H} {lv : List Value} : gm_Go E d 36 6 lv [.int (1 : Int32)] h r ↔ r = (.inl (some (.int (1 : Int32))), h) := gr_ret m36 f36_6 rfl rfl rfl rfl rfl rfl rfl rfl (by unfold gm_rt; dsimp only; rw [if_pos ⟨rfl, rfl⟩])
/-! GraphReader.readStreamFields(LGraphReader$Descriptor;I)V -/
theorem m37 : gm_mt[37]? = some (⟨"GraphReader", "readStreamFields", "(LGraphReader$Descriptor;I)V"⟩, prog_1_method_49_code, 7, none, [], 0, 1) := rfl
theorem f37_0 : gm_ft 37 0 = some (.aload_n 0, 1) := by decide +kernel
theorem r37_0 {E : Nat → Value} {d : Nat} {st : List Value} {h : gm_H} {r : gm_R × gm_H} {a1 a2 a3 a4 a5 a6 : Value} {x : Nat} : gm_Go E d 37 0 [.ref x, a1, a2, a3, a4, a5, a6] st h r ↔ gm_Go E d 37 1 [.ref x, a1, a2, a3, a4, a5, a6] (.ref x :: st) h r := gr_loc m37 f37_0 rfl rfl
theorem r37_0n {E : Nat → Value} {d : Nat} {st : List Value} {h : gm_H} {r : gm_R × gm_H} {a1 a2 a3 a4 a5 a6 : Value}  : gm_Go E d 37 0 [.null, a1, a2, a3, a4, a5, a6] st h r ↔ gm_Go E d 37 1 [.null, a1, a2, a3, a4, a5, a6] (.null :: st) h r := gr_loc m37 f37_0 rfl rfl
theorem f37_1 : gm_ft 37 1 = some (.iconst 2, 1) := by decide +kernel
theorem r37_1 {E : Nat → Value} {d : Nat} {st : List Value} {h : gm_H} {r : gm_R × gm_H} {lv : List Value} : gm_Go E d 37 1 lv st h r ↔ gm_Go E d 37 2 lv (.int (2 : Int32) :: st) h r := gr_pure m37 f37_1 rfl
theorem f37_2 : gm_ft 37 2 = some (.invokevirtual 163, 3) := by decide +kernel
theorem n37_2 {st : List Value} {h : gm_H} {E : Nat → Value} {lv : List Value} {b0 : Value} {a : Nat} (hs : (st.map fun v => v.category).sum ≤ 8) (he : (gm_en1 [.ref a, b0]).length ≤ 4) {vs : List Value} (hr : gm_rd h a = some (0, vs)) : gm_next E 37 2 lv (b0 :: .ref a :: st) h = some (.inr (.inl (0, 25, [.ref a, b0], st))) := gn_call m37 f37_2 rfl rfl rfl rfl rfl rfl rfl (gc_virt (bs := [b0]) (w := 278) rfl rfl rfl rfl hs he hr) (by decide)
theorem f37_5 : gm_ft 37 5 = some (.l2i, 1) := by decide +kernel
theorem r37_5 {E : Nat → Value} {d : Nat} {st : List Value} {h : gm_H} {r : gm_R × gm_H} {lv : List Value} {x : Int64} : gm_Go E d 37 5 lv (.long x :: st) h r ↔ gm_Go E d 37 6 lv (.int (x.toInt32) :: st) h r := gr_pure m37 f37_5 rfl
theorem f37_6 : gm_ft 37 6 = some (.istore_n 3, 1) := by decide +kernel
theorem r37_6 {E : Nat → Value} {d : Nat} {st : List Value} {h : gm_H} {r : gm_R × gm_H} {a0 a1 a2 a3 a4 a5 a6 : Value} {x : Int32} : gm_Go E d 37 6 [a0, a1, a2, a3, a4, a5, a6] (.int x :: st) h r ↔ gm_Go E d 37 7 [a0, a1, gm_k a2, .int x, a4, a5, a6] st h r := gr_loc m37 f37_6 rfl rfl
theorem f37_7 : gm_ft 37 7 = some (.iload_n 3, 1) := by decide +kernel
theorem r37_7 {E : Nat → Value} {d : Nat} {st : List Value} {h : gm_H} {r : gm_R × gm_H} {a0 a1 a2 a4 a5 a6 : Value} {x : Int32} : gm_Go E d 37 7 [a0, a1, a2, .int x, a4, a5, a6] st h r ↔ gm_Go E d 37 8 [a0, a1, a2, .int x, a4, a5, a6] (.int x :: st) h r := gr_loc m37 f37_7 rfl rfl
theorem f37_8 : gm_ft 37 8 = some (.bipush 8, 2) := by decide +kernel
theorem r37_8 {E : Nat → Value} {d : Nat} {st : List Value} {h : gm_H} {r : gm_R × gm_H} {lv : List Value} : gm_Go E d 37 8 lv st h r ↔ gm_Go E d 37 10 lv (.int (8 : Int32) :: st) h r := gr_pure m37 f37_8 rfl
theorem f37_10 : gm_ft 37 10 = some (.if_icmp .le 10, 3) := by decide +kernel
theorem r37_10 {E : Nat → Value} {d : Nat} {st : List Value} {h : gm_H} {r : gm_R × gm_H} {lv : List Value} {x y : Int32} : gm_Go E d 37 10 lv (.int y :: .int x :: st) h r ↔ (if x ≤ y then gm_Go E d 37 20 lv st h r else gm_Go E d 37 13 lv st h r) := (gr_br m37 f37_10 rfl rfl rfl rfl).trans gr_if
theorem f37_13 : gm_ft 37 13 = some (.aload_n 0, 1) := by decide +kernel
theorem r37_13 {E : Nat → Value} {d : Nat} {st : List Value} {h : gm_H} {r : gm_R × gm_H} {a1 a2 a3 a4 a5 a6 : Value} {x : Nat} : gm_Go E d 37 13 [.ref x, a1, a2, a3, a4, a5, a6] st h r ↔ gm_Go E d 37 14 [.ref x, a1, a2, a3, a4, a5, a6] (.ref x :: st) h r := gr_loc m37 f37_13 rfl rfl
theorem r37_13n {E : Nat → Value} {d : Nat} {st : List Value} {h : gm_H} {r : gm_R × gm_H} {a1 a2 a3 a4 a5 a6 : Value}  : gm_Go E d 37 13 [.null, a1, a2, a3, a4, a5, a6] st h r ↔ gm_Go E d 37 14 [.null, a1, a2, a3, a4, a5, a6] (.null :: st) h r := gr_loc m37 f37_13 rfl rfl
theorem f37_14 : gm_ft 37 14 = some (.bipush (-5), 2) := by decide +kernel
theorem r37_14 {E : Nat → Value} {d : Nat} {st : List Value} {h : gm_H} {r : gm_R × gm_H} {lv : List Value} : gm_Go E d 37 14 lv st h r ↔ gm_Go E d 37 16 lv (.int (-5 : Int32) :: st) h r := gr_pure m37 f37_14 rfl
theorem f37_16 : gm_ft 37 16 = some (.invokevirtual 160, 3) := by decide +kernel
theorem n37_16 {st : List Value} {h : gm_H} {E : Nat → Value} {lv : List Value} {b0 : Value} {a : Nat} (hs : (st.map fun v => v.category).sum ≤ 8) (he : (gm_en1 [.ref a, b0]).length ≤ 2) {vs : List Value} (hr : gm_rd h a = some (0, vs)) : gm_next E 37 16 lv (b0 :: .ref a :: st) h = some (.inr (.inl (0, 22, [.ref a, b0], st))) := gn_call m37 f37_16 rfl rfl rfl rfl rfl rfl rfl (gc_virt (bs := [b0]) (w := 206) rfl rfl rfl rfl hs he hr) (by decide)
theorem f37_19 : gm_ft 37 19 = some (.pop, 1) := by decide +kernel
theorem r37_19 {E : Nat → Value} {d : Nat} {st : List Value} {h : gm_H} {r : gm_R × gm_H} {lv : List Value} {x : Int32} : gm_Go E d 37 19 lv (.int x :: st) h r ↔ gm_Go E d 37 20 lv st h r := gr_pure m37 f37_19 rfl
theorem r37_19a {E : Nat → Value} {d : Nat} {st : List Value} {h : gm_H} {r : gm_R × gm_H} {lv : List Value} {a : Nat} : gm_Go E d 37 19 lv (.ref a :: st) h r ↔ gm_Go E d 37 20 lv st h r := gr_pure m37 f37_19 rfl
theorem r37_19n {E : Nat → Value} {d : Nat} {st : List Value} {h : gm_H} {r : gm_R × gm_H} {lv : List Value} : gm_Go E d 37 19 lv (.null :: st) h r ↔ gm_Go E d 37 20 lv st h r := gr_pure m37 f37_19 rfl
theorem f37_20 : gm_ft 37 20 = some (.aload_n 1, 1) := by decide +kernel
theorem r37_20 {E : Nat → Value} {d : Nat} {st : List Value} {h : gm_H} {r : gm_R × gm_H} {a0 a2 a3 a4 a5 a6 : Value} {x : Nat} : gm_Go E d 37 20 [a0, .ref x, a2, a3, a4, a5, a6] st h r ↔ gm_Go E d 37 21 [a0, .ref x, a2, a3, a4, a5, a6] (.ref x :: st) h r := gr_loc m37 f37_20 rfl rfl
theorem r37_20n {E : Nat → Value} {d : Nat} {st : List Value} {h : gm_H} {r : gm_R × gm_H} {a0 a2 a3 a4 a5 a6 : Value}  : gm_Go E d 37 20 [a0, .null, a2, a3, a4, a5, a6] st h r ↔ gm_Go E d 37 21 [a0, .null, a2, a3, a4, a5, a6] (.null :: st) h r := gr_loc m37 f37_20 rfl rfl
theorem f37_21 : gm_ft 37 21 = some (.iload_n 3, 1) := by decide +kernel
theorem r37_21 {E : Nat → Value} {d : Nat} {st : List Value} {h : gm_H} {r : gm_R × gm_H} {a0 a1 a2 a4 a5 a6 : Value} {x : Int32} : gm_Go E d 37 21 [a0, a1, a2, .int x, a4, a5, a6] st h r ↔ gm_Go E d 37 22 [a0, a1, a2, .int x, a4, a5, a6] (.int x :: st) h r := gr_loc m37 f37_21 rfl rfl
theorem f37_22 : gm_ft 37 22 = some (.invokevirtual 350, 3) := by decide +kernel
theorem n37_22 {st : List Value} {h : gm_H} {E : Nat → Value} {lv : List Value} {b0 : Value} {a : Nat} (hs : (st.map fun v => v.category).sum ≤ 8) (he : (gm_en1 [.ref a, b0]).length ≤ 2) {vs : List Value} (hr : gm_rd h a = some (1, vs)) : gm_next E 37 22 lv (b0 :: .ref a :: st) h = some (.inr (.inl (0, 38, [.ref a, b0], st))) := gn_call m37 f37_22 rfl rfl rfl rfl rfl rfl rfl (gc_virt (bs := [b0]) (w := 373) rfl rfl rfl rfl hs he hr) (by decide)
theorem f37_25 : gm_ft 37 25 = some (.iconst 0, 1) := by decide +kernel
theorem r37_25 {E : Nat → Value} {d : Nat} {st : List Value} {h : gm_H} {r : gm_R × gm_H} {lv : List Value} : gm_Go E d 37 25 lv st h r ↔ gm_Go E d 37 26 lv (.int (0 : Int32) :: st) h r := gr_pure m37 f37_25 rfl
theorem f37_26 : gm_ft 37 26 = some (.istore 4, 2) := by decide +kernel
theorem r37_26 {E : Nat → Value} {d : Nat} {st : List Value} {h : gm_H} {r : gm_R × gm_H} {a0 a1 a2 a3 a4 a5 a6 : Value} {x : Int32} : gm_Go E d 37 26 [a0, a1, a2, a3, a4, a5, a6] (.int x :: st) h r ↔ gm_Go E d 37 28 [a0, a1, a2, gm_k a3, .int x, a5, a6] st h r := gr_loc m37 f37_26 rfl rfl
theorem f37_28 : gm_ft 37 28 = some (.iload 4, 2) := by decide +kernel
theorem r37_28 {E : Nat → Value} {d : Nat} {st : List Value} {h : gm_H} {r : gm_R × gm_H} {a0 a1 a2 a3 a5 a6 : Value} {x : Int32} : gm_Go E d 37 28 [a0, a1, a2, a3, .int x, a5, a6] st h r ↔ gm_Go E d 37 30 [a0, a1, a2, a3, .int x, a5, a6] (.int x :: st) h r := gr_loc m37 f37_28 rfl rfl
theorem f37_30 : gm_ft 37 30 = some (.iload_n 3, 1) := by decide +kernel
theorem r37_30 {E : Nat → Value} {d : Nat} {st : List Value} {h : gm_H} {r : gm_R × gm_H} {a0 a1 a2 a4 a5 a6 : Value} {x : Int32} : gm_Go E d 37 30 [a0, a1, a2, .int x, a4, a5, a6] st h r ↔ gm_Go E d 37 31 [a0, a1, a2, .int x, a4, a5, a6] (.int x :: st) h r := gr_loc m37 f37_30 rfl rfl
theorem f37_31 : gm_ft 37 31 = some (.if_icmp .ge 101, 3) := by decide +kernel
theorem r37_31 {E : Nat → Value} {d : Nat} {st : List Value} {h : gm_H} {r : gm_R × gm_H} {lv : List Value} {x y : Int32} : gm_Go E d 37 31 lv (.int y :: .int x :: st) h r ↔ (if y ≤ x then gm_Go E d 37 132 lv st h r else gm_Go E d 37 34 lv st h r) := (gr_br m37 f37_31 rfl rfl rfl rfl).trans gr_if
theorem f37_34 : gm_ft 37 34 = some (.ldc_w 353, 3) := by decide +kernel
theorem r37_34 {E : Nat → Value} {d : Nat} {st : List Value} {h : gm_H} {r : gm_R × gm_H} {lv : List Value} : gm_Go E d 37 34 lv st h r ↔ gm_Go E d 37 37 lv (E 2 :: st) h r := gr_rd m37 f37_34 rfl rfl rfl rfl rfl
theorem f37_37 : gm_ft 37 37 = some (.aload_n 0, 1) := by decide +kernel
theorem r37_37 {E : Nat → Value} {d : Nat} {st : List Value} {h : gm_H} {r : gm_R × gm_H} {a1 a2 a3 a4 a5 a6 : Value} {x : Nat} : gm_Go E d 37 37 [.ref x, a1, a2, a3, a4, a5, a6] st h r ↔ gm_Go E d 37 38 [.ref x, a1, a2, a3, a4, a5, a6] (.ref x :: st) h r := gr_loc m37 f37_37 rfl rfl
theorem r37_37n {E : Nat → Value} {d : Nat} {st : List Value} {h : gm_H} {r : gm_R × gm_H} {a1 a2 a3 a4 a5 a6 : Value}  : gm_Go E d 37 37 [.null, a1, a2, a3, a4, a5, a6] st h r ↔ gm_Go E d 37 38 [.null, a1, a2, a3, a4, a5, a6] (.null :: st) h r := gr_loc m37 f37_37 rfl rfl
theorem f37_38 : gm_ft 37 38 = some (.invokevirtual 176, 3) := by decide +kernel
theorem n37_38 {st : List Value} {h : gm_H} {E : Nat → Value} {lv : List Value} {a : Nat} (hs : (st.map fun v => v.category).sum ≤ 8) (he : (gm_en1 [.ref a]).length ≤ 1) {vs : List Value} (hr : gm_rd h a = some (0, vs)) : gm_next E 37 38 lv (.ref a :: st) h = some (.inr (.inl (0, 24, [.ref a], st))) := gn_call m37 f37_38 rfl rfl rfl rfl rfl rfl rfl (gc_virt (bs := []) (w := 274) rfl rfl rfl rfl hs he hr) (by decide)
theorem f37_41 : gm_ft 37 41 = some (.i2c, 1) := by decide +kernel
theorem r37_41 {E : Nat → Value} {d : Nat} {st : List Value} {h : gm_H} {r : gm_R × gm_H} {lv : List Value} {x : Int32} : gm_Go E d 37 41 lv (.int x :: st) h r ↔ gm_Go E d 37 42 lv (.int ((x.toUInt32 % 65536).toInt32) :: st) h r := gr_pure m37 f37_41 rfl
theorem f37_42 : gm_ft 37 42 = some (.invokevirtual 355, 3) := by decide +kernel
theorem n37_42 {st : List Value} {h : gm_H} {E : Nat → Value} {lv : List Value} {b0 : Value} {a : Nat} (hs : (st.map fun v => v.category).sum ≤ 8) (he : (gm_en1 [.ref a, b0]).length ≤ 2) {vs : List Value} (hr : gm_rd h a = some (6, vs)) : gm_next E 37 42 lv (b0 :: .ref a :: st) h = some (.inr (.inl (0, 39, [.ref a, b0], st))) := gn_call m37 f37_42 rfl rfl rfl rfl rfl rfl rfl (gc_virt (bs := [b0]) (w := 378) rfl rfl rfl rfl hs he hr) (by decide)
theorem f37_45 : gm_ft 37 45 = some (.istore 5, 2) := by decide +kernel
theorem r37_45 {E : Nat → Value} {d : Nat} {st : List Value} {h : gm_H} {r : gm_R × gm_H} {a0 a1 a2 a3 a4 a5 a6 : Value} {x : Int32} : gm_Go E d 37 45 [a0, a1, a2, a3, a4, a5, a6] (.int x :: st) h r ↔ gm_Go E d 37 47 [a0, a1, a2, a3, gm_k a4, .int x, a6] st h r := gr_loc m37 f37_45 rfl rfl
theorem f37_47 : gm_ft 37 47 = some (.iload 5, 2) := by decide +kernel
theorem r37_47 {E : Nat → Value} {d : Nat} {st : List Value} {h : gm_H} {r : gm_R × gm_H} {a0 a1 a2 a3 a4 a6 : Value} {x : Int32} : gm_Go E d 37 47 [a0, a1, a2, a3, a4, .int x, a6] st h r ↔ gm_Go E d 37 49 [a0, a1, a2, a3, a4, .int x, a6] (.int x :: st) h r := gr_loc m37 f37_47 rfl rfl
theorem f37_49 : gm_ft 37 49 = some (.ifCond .ge 10, 3) := by decide +kernel
theorem r37_49 {E : Nat → Value} {d : Nat} {st : List Value} {h : gm_H} {r : gm_R × gm_H} {lv : List Value} {x : Int32} : gm_Go E d 37 49 lv (.int x :: st) h r ↔ (if 0 ≤ x then gm_Go E d 37 59 lv st h r else gm_Go E d 37 52 lv st h r) := (gr_br m37 f37_49 rfl rfl rfl rfl).trans gr_if
theorem f37_52 : gm_ft 37 52 = some (.aload_n 0, 1) := by decide +kernel
theorem r37_52 {E : Nat → Value} {d : Nat} {st : List Value} {h : gm_H} {r : gm_R × gm_H} {a1 a2 a3 a4 a5 a6 : Value} {x : Nat} : gm_Go E d 37 52 [.ref x, a1, a2, a3, a4, a5, a6] st h r ↔ gm_Go E d 37 53 [.ref x, a1, a2, a3, a4, a5, a6] (.ref x :: st) h r := gr_loc m37 f37_52 rfl rfl
theorem r37_52n {E : Nat → Value} {d : Nat} {st : List Value} {h : gm_H} {r : gm_R × gm_H} {a1 a2 a3 a4 a5 a6 : Value}  : gm_Go E d 37 52 [.null, a1, a2, a3, a4, a5, a6] st h r ↔ gm_Go E d 37 53 [.null, a1, a2, a3, a4, a5, a6] (.null :: st) h r := gr_loc m37 f37_52 rfl rfl
theorem f37_53 : gm_ft 37 53 = some (.bipush (-5), 2) := by decide +kernel
theorem r37_53 {E : Nat → Value} {d : Nat} {st : List Value} {h : gm_H} {r : gm_R × gm_H} {lv : List Value} : gm_Go E d 37 53 lv st h r ↔ gm_Go E d 37 55 lv (.int (-5 : Int32) :: st) h r := gr_pure m37 f37_53 rfl
theorem f37_55 : gm_ft 37 55 = some (.invokevirtual 160, 3) := by decide +kernel
theorem n37_55 {st : List Value} {h : gm_H} {E : Nat → Value} {lv : List Value} {b0 : Value} {a : Nat} (hs : (st.map fun v => v.category).sum ≤ 8) (he : (gm_en1 [.ref a, b0]).length ≤ 2) {vs : List Value} (hr : gm_rd h a = some (0, vs)) : gm_next E 37 55 lv (b0 :: .ref a :: st) h = some (.inr (.inl (0, 22, [.ref a, b0], st))) := gn_call m37 f37_55 rfl rfl rfl rfl rfl rfl rfl (gc_virt (bs := [b0]) (w := 206) rfl rfl rfl rfl hs he hr) (by decide)
theorem f37_58 : gm_ft 37 58 = some (.pop, 1) := by decide +kernel
theorem r37_58 {E : Nat → Value} {d : Nat} {st : List Value} {h : gm_H} {r : gm_R × gm_H} {lv : List Value} {x : Int32} : gm_Go E d 37 58 lv (.int x :: st) h r ↔ gm_Go E d 37 59 lv st h r := gr_pure m37 f37_58 rfl
theorem r37_58a {E : Nat → Value} {d : Nat} {st : List Value} {h : gm_H} {r : gm_R × gm_H} {lv : List Value} {a : Nat} : gm_Go E d 37 58 lv (.ref a :: st) h r ↔ gm_Go E d 37 59 lv st h r := gr_pure m37 f37_58 rfl
theorem r37_58n {E : Nat → Value} {d : Nat} {st : List Value} {h : gm_H} {r : gm_R × gm_H} {lv : List Value} : gm_Go E d 37 58 lv (.null :: st) h r ↔ gm_Go E d 37 59 lv st h r := gr_pure m37 f37_58 rfl
theorem f37_59 : gm_ft 37 59 = some (.aload_n 0, 1) := by decide +kernel
theorem r37_59 {E : Nat → Value} {d : Nat} {st : List Value} {h : gm_H} {r : gm_R × gm_H} {a1 a2 a3 a4 a5 a6 : Value} {x : Nat} : gm_Go E d 37 59 [.ref x, a1, a2, a3, a4, a5, a6] st h r ↔ gm_Go E d 37 60 [.ref x, a1, a2, a3, a4, a5, a6] (.ref x :: st) h r := gr_loc m37 f37_59 rfl rfl
theorem r37_59n {E : Nat → Value} {d : Nat} {st : List Value} {h : gm_H} {r : gm_R × gm_H} {a1 a2 a3 a4 a5 a6 : Value}  : gm_Go E d 37 59 [.null, a1, a2, a3, a4, a5, a6] st h r ↔ gm_Go E d 37 60 [.null, a1, a2, a3, a4, a5, a6] (.null :: st) h r := gr_loc m37 f37_59 rfl rfl
theorem f37_60 : gm_ft 37 60 = some (.invokevirtual 225, 3) := by decide +kernel
theorem n37_60 {st : List Value} {h : gm_H} {E : Nat → Value} {lv : List Value} {a : Nat} (hs : (st.map fun v => v.category).sum ≤ 8) (he : (gm_en1 [.ref a]).length ≤ 4) {vs : List Value} (hr : gm_rd h a = some (0, vs)) : gm_next E 37 60 lv (.ref a :: st) h = some (.inr (.inl (0, 30, [.ref a], st))) := gn_call m37 f37_60 rfl rfl rfl rfl rfl rfl rfl (gc_virt (bs := []) (w := 299) rfl rfl rfl rfl hs he hr) (by decide)
theorem f37_63 : gm_ft 37 63 = some (.istore 6, 2) := by decide +kernel
theorem r37_63 {E : Nat → Value} {d : Nat} {st : List Value} {h : gm_H} {r : gm_R × gm_H} {a0 a1 a2 a3 a4 a5 a6 : Value} {x : Int32} : gm_Go E d 37 63 [a0, a1, a2, a3, a4, a5, a6] (.int x :: st) h r ↔ gm_Go E d 37 65 [a0, a1, a2, a3, a4, gm_k a5, .int x] st h r := gr_loc m37 f37_63 rfl rfl
theorem f37_65 : gm_ft 37 65 = some (.aload_n 1, 1) := by decide +kernel
theorem r37_65 {E : Nat → Value} {d : Nat} {st : List Value} {h : gm_H} {r : gm_R × gm_H} {a0 a2 a3 a4 a5 a6 : Value} {x : Nat} : gm_Go E d 37 65 [a0, .ref x, a2, a3, a4, a5, a6] st h r ↔ gm_Go E d 37 66 [a0, .ref x, a2, a3, a4, a5, a6] (.ref x :: st) h r := gr_loc m37 f37_65 rfl rfl
theorem r37_65n {E : Nat → Value} {d : Nat} {st : List Value} {h : gm_H} {r : gm_R × gm_H} {a0 a2 a3 a4 a5 a6 : Value}  : gm_Go E d 37 65 [a0, .null, a2, a3, a4, a5, a6] st h r ↔ gm_Go E d 37 66 [a0, .null, a2, a3, a4, a5, a6] (.null :: st) h r := gr_loc m37 f37_65 rfl rfl
theorem f37_66 : gm_ft 37 66 = some (.getfield 296, 3) := by decide +kernel
theorem r37_66 {E : Nat → Value} {d : Nat} {st : List Value} {h : gm_H} {r : gm_R × gm_H} {lv : List Value} {a : Nat} {vs : List Value} {v : Value} (hr : gm_rd h a = some (1, vs)) (hv : vs[6]? = some v) : gm_Go E d 37 66 lv (.ref a :: st) h r ↔ gm_Go E d 37 69 lv (v :: st) h r := gr_rd m37 f37_66 rfl rfl rfl rfl (gf_get k0_296 hr hv)
theorem f37_69 : gm_ft 37 69 = some (.iload 4, 2) := by decide +kernel
theorem r37_69 {E : Nat → Value} {d : Nat} {st : List Value} {h : gm_H} {r : gm_R × gm_H} {a0 a1 a2 a3 a5 a6 : Value} {x : Int32} : gm_Go E d 37 69 [a0, a1, a2, a3, .int x, a5, a6] st h r ↔ gm_Go E d 37 71 [a0, a1, a2, a3, .int x, a5, a6] (.int x :: st) h r := gr_loc m37 f37_69 rfl rfl
theorem f37_71 : gm_ft 37 71 = some (.iload 5, 2) := by decide +kernel
theorem r37_71 {E : Nat → Value} {d : Nat} {st : List Value} {h : gm_H} {r : gm_R × gm_H} {a0 a1 a2 a3 a4 a6 : Value} {x : Int32} : gm_Go E d 37 71 [a0, a1, a2, a3, a4, .int x, a6] st h r ↔ gm_Go E d 37 73 [a0, a1, a2, a3, a4, .int x, a6] (.int x :: st) h r := gr_loc m37 f37_71 rfl rfl
theorem f37_73 : gm_ft 37 73 = some (.iastore, 1) := by decide +kernel
theorem r37_73 {E : Nat → Value} {d : Nat} {st : List Value} {h : gm_H} {r : gm_R × gm_H} {lv : List Value} {a k j : Nat} {vs : List Value} {x : Int32} (hr : gm_rd h a = some (k, vs)) (hk : 100 ≤ k ∧ k % 100 = 0 ∧ gm_ko k = 1 ∧ 1 < 3) (hj : j < 2 ^ 31) (hl : j < vs.length) : gm_Go E d 37 73 lv (.int x :: .int (nI j) :: .ref a :: st) h r ↔ gm_Go E d 37 74 lv st (gm_wr h a (k, vs.set j (.int x))) r := gr_wr m37 f37_73 rfl rfl rfl rfl rfl (ga_st hr hk hj hl)
theorem f37_74 : gm_ft 37 74 = some (.aload_n 1, 1) := by decide +kernel
theorem r37_74 {E : Nat → Value} {d : Nat} {st : List Value} {h : gm_H} {r : gm_R × gm_H} {a0 a2 a3 a4 a5 a6 : Value} {x : Nat} : gm_Go E d 37 74 [a0, .ref x, a2, a3, a4, a5, a6] st h r ↔ gm_Go E d 37 75 [a0, .ref x, a2, a3, a4, a5, a6] (.ref x :: st) h r := gr_loc m37 f37_74 rfl rfl
theorem r37_74n {E : Nat → Value} {d : Nat} {st : List Value} {h : gm_H} {r : gm_R × gm_H} {a0 a2 a3 a4 a5 a6 : Value}  : gm_Go E d 37 74 [a0, .null, a2, a3, a4, a5, a6] st h r ↔ gm_Go E d 37 75 [a0, .null, a2, a3, a4, a5, a6] (.null :: st) h r := gr_loc m37 f37_74 rfl rfl
theorem f37_75 : gm_ft 37 75 = some (.getfield 300, 3) := by decide +kernel
theorem r37_75 {E : Nat → Value} {d : Nat} {st : List Value} {h : gm_H} {r : gm_R × gm_H} {lv : List Value} {a : Nat} {vs : List Value} {v : Value} (hr : gm_rd h a = some (1, vs)) (hv : vs[5]? = some v) : gm_Go E d 37 75 lv (.ref a :: st) h r ↔ gm_Go E d 37 78 lv (v :: st) h r := gr_rd m37 f37_75 rfl rfl rfl rfl (gf_get k0_300 hr hv)
theorem f37_78 : gm_ft 37 78 = some (.iload 4, 2) := by decide +kernel
theorem r37_78 {E : Nat → Value} {d : Nat} {st : List Value} {h : gm_H} {r : gm_R × gm_H} {a0 a1 a2 a3 a5 a6 : Value} {x : Int32} : gm_Go E d 37 78 [a0, a1, a2, a3, .int x, a5, a6] st h r ↔ gm_Go E d 37 80 [a0, a1, a2, a3, .int x, a5, a6] (.int x :: st) h r := gr_loc m37 f37_78 rfl rfl
theorem f37_80 : gm_ft 37 80 = some (.aload_n 0, 1) := by decide +kernel
theorem r37_80 {E : Nat → Value} {d : Nat} {st : List Value} {h : gm_H} {r : gm_R × gm_H} {a1 a2 a3 a4 a5 a6 : Value} {x : Nat} : gm_Go E d 37 80 [.ref x, a1, a2, a3, a4, a5, a6] st h r ↔ gm_Go E d 37 81 [.ref x, a1, a2, a3, a4, a5, a6] (.ref x :: st) h r := gr_loc m37 f37_80 rfl rfl
theorem r37_80n {E : Nat → Value} {d : Nat} {st : List Value} {h : gm_H} {r : gm_R × gm_H} {a1 a2 a3 a4 a5 a6 : Value}  : gm_Go E d 37 80 [.null, a1, a2, a3, a4, a5, a6] st h r ↔ gm_Go E d 37 81 [.null, a1, a2, a3, a4, a5, a6] (.null :: st) h r := gr_loc m37 f37_80 rfl rfl
theorem f37_81 : gm_ft 37 81 = some (.iload 6, 2) := by decide +kernel
theorem r37_81 {E : Nat → Value} {d : Nat} {st : List Value} {h : gm_H} {r : gm_R × gm_H} {a0 a1 a2 a3 a4 a5 : Value} {x : Int32} : gm_Go E d 37 81 [a0, a1, a2, a3, a4, a5, .int x] st h r ↔ gm_Go E d 37 83 [a0, a1, a2, a3, a4, a5, .int x] (.int x :: st) h r := gr_loc m37 f37_81 rfl rfl
theorem f37_83 : gm_ft 37 83 = some (.aload_n 0, 1) := by decide +kernel
theorem r37_83 {E : Nat → Value} {d : Nat} {st : List Value} {h : gm_H} {r : gm_R × gm_H} {a1 a2 a3 a4 a5 a6 : Value} {x : Nat} : gm_Go E d 37 83 [.ref x, a1, a2, a3, a4, a5, a6] st h r ↔ gm_Go E d 37 84 [.ref x, a1, a2, a3, a4, a5, a6] (.ref x :: st) h r := gr_loc m37 f37_83 rfl rfl
theorem r37_83n {E : Nat → Value} {d : Nat} {st : List Value} {h : gm_H} {r : gm_R × gm_H} {a1 a2 a3 a4 a5 a6 : Value}  : gm_Go E d 37 83 [.null, a1, a2, a3, a4, a5, a6] st h r ↔ gm_Go E d 37 84 [.null, a1, a2, a3, a4, a5, a6] (.null :: st) h r := gr_loc m37 f37_83 rfl rfl
theorem f37_84 : gm_ft 37 84 = some (.getfield 96, 3) := by decide +kernel
theorem r37_84 {E : Nat → Value} {d : Nat} {st : List Value} {h : gm_H} {r : gm_R × gm_H} {lv : List Value} {a : Nat} {vs : List Value} {v : Value} (hr : gm_rd h a = some (0, vs)) (hv : vs[7]? = some v) : gm_Go E d 37 84 lv (.ref a :: st) h r ↔ gm_Go E d 37 87 lv (v :: st) h r := gr_rd m37 f37_84 rfl rfl rfl rfl (gf_get k0_96 hr hv)
theorem f37_87 : gm_ft 37 87 = some (.iload 6, 2) := by decide +kernel
theorem r37_87 {E : Nat → Value} {d : Nat} {st : List Value} {h : gm_H} {r : gm_R × gm_H} {a0 a1 a2 a3 a4 a5 : Value} {x : Int32} : gm_Go E d 37 87 [a0, a1, a2, a3, a4, a5, .int x] st h r ↔ gm_Go E d 37 89 [a0, a1, a2, a3, a4, a5, .int x] (.int x :: st) h r := gr_loc m37 f37_87 rfl rfl
theorem f37_89 : gm_ft 37 89 = some (.isub, 1) := by decide +kernel
theorem r37_89 {E : Nat → Value} {d : Nat} {st : List Value} {h : gm_H} {r : gm_R × gm_H} {lv : List Value} {x y : Int32} : gm_Go E d 37 89 lv (.int y :: .int x :: st) h r ↔ gm_Go E d 37 90 lv (.int (x - y) :: st) h r := gr_pure m37 f37_89 rfl
theorem f37_90 : gm_ft 37 90 = some (.bipush 97, 2) := by decide +kernel
theorem r37_90 {E : Nat → Value} {d : Nat} {st : List Value} {h : gm_H} {r : gm_R × gm_H} {lv : List Value} : gm_Go E d 37 90 lv st h r ↔ gm_Go E d 37 92 lv (.int (97 : Int32) :: st) h r := gr_pure m37 f37_90 rfl
theorem f37_92 : gm_ft 37 92 = some (.bipush 26, 2) := by decide +kernel
theorem r37_92 {E : Nat → Value} {d : Nat} {st : List Value} {h : gm_H} {r : gm_R × gm_H} {lv : List Value} : gm_Go E d 37 92 lv st h r ↔ gm_Go E d 37 94 lv (.int (26 : Int32) :: st) h r := gr_pure m37 f37_92 rfl
theorem f37_94 : gm_ft 37 94 = some (.invokevirtual 356, 3) := by decide +kernel
theorem n37_94 {st : List Value} {h : gm_H} {E : Nat → Value} {lv : List Value} {b0 b1 b2 b3 : Value} {a : Nat} (hs : (st.map fun v => v.category).sum ≤ 8) (he : (gm_en1 [.ref a, b0, b1, b2, b3]).length ≤ 6) {vs : List Value} (hr : gm_rd h a = some (0, vs)) : gm_next E 37 94 lv (b3 :: b2 :: b1 :: b0 :: .ref a :: st) h = some (.inr (.inl (0, 47, [.ref a, b0, b1, b2, b3], st))) := gn_call m37 f37_94 rfl rfl rfl rfl rfl rfl rfl (gc_virt (bs := [b3, b2, b1, b0]) (w := 460) rfl rfl rfl rfl hs he hr) (by decide)
theorem f37_97 : gm_ft 37 97 = some (.iastore, 1) := by decide +kernel
theorem r37_97 {E : Nat → Value} {d : Nat} {st : List Value} {h : gm_H} {r : gm_R × gm_H} {lv : List Value} {a k j : Nat} {vs : List Value} {x : Int32} (hr : gm_rd h a = some (k, vs)) (hk : 100 ≤ k ∧ k % 100 = 0 ∧ gm_ko k = 1 ∧ 1 < 3) (hj : j < 2 ^ 31) (hl : j < vs.length) : gm_Go E d 37 97 lv (.int x :: .int (nI j) :: .ref a :: st) h r ↔ gm_Go E d 37 98 lv st (gm_wr h a (k, vs.set j (.int x))) r := gr_wr m37 f37_97 rfl rfl rfl rfl rfl (ga_st hr hk hj hl)
theorem f37_98 : gm_ft 37 98 = some (.iload 5, 2) := by decide +kernel
theorem r37_98 {E : Nat → Value} {d : Nat} {st : List Value} {h : gm_H} {r : gm_R × gm_H} {a0 a1 a2 a3 a4 a6 : Value} {x : Int32} : gm_Go E d 37 98 [a0, a1, a2, a3, a4, .int x, a6] st h r ↔ gm_Go E d 37 100 [a0, a1, a2, a3, a4, .int x, a6] (.int x :: st) h r := gr_loc m37 f37_98 rfl rfl
theorem f37_100 : gm_ft 37 100 = some (.bipush 6, 2) := by decide +kernel
theorem r37_100 {E : Nat → Value} {d : Nat} {st : List Value} {h : gm_H} {r : gm_R × gm_H} {lv : List Value} : gm_Go E d 37 100 lv st h r ↔ gm_Go E d 37 102 lv (.int (6 : Int32) :: st) h r := gr_pure m37 f37_100 rfl
theorem f37_102 : gm_ft 37 102 = some (.if_icmp .lt 24, 3) := by decide +kernel
theorem r37_102 {E : Nat → Value} {d : Nat} {st : List Value} {h : gm_H} {r : gm_R × gm_H} {lv : List Value} {x y : Int32} : gm_Go E d 37 102 lv (.int y :: .int x :: st) h r ↔ (if x < y then gm_Go E d 37 126 lv st h r else gm_Go E d 37 105 lv st h r) := (gr_br m37 f37_102 rfl rfl rfl rfl).trans gr_if
theorem f37_105 : gm_ft 37 105 = some (.aload_n 0, 1) := by decide +kernel
theorem r37_105 {E : Nat → Value} {d : Nat} {st : List Value} {h : gm_H} {r : gm_R × gm_H} {a1 a2 a3 a4 a5 a6 : Value} {x : Nat} : gm_Go E d 37 105 [.ref x, a1, a2, a3, a4, a5, a6] st h r ↔ gm_Go E d 37 106 [.ref x, a1, a2, a3, a4, a5, a6] (.ref x :: st) h r := gr_loc m37 f37_105 rfl rfl
theorem r37_105n {E : Nat → Value} {d : Nat} {st : List Value} {h : gm_H} {r : gm_R × gm_H} {a1 a2 a3 a4 a5 a6 : Value}  : gm_Go E d 37 105 [.null, a1, a2, a3, a4, a5, a6] st h r ↔ gm_Go E d 37 106 [.null, a1, a2, a3, a4, a5, a6] (.null :: st) h r := gr_loc m37 f37_105 rfl rfl
theorem f37_106 : gm_ft 37 106 = some (.aload_n 0, 1) := by decide +kernel
theorem r37_106 {E : Nat → Value} {d : Nat} {st : List Value} {h : gm_H} {r : gm_R × gm_H} {a1 a2 a3 a4 a5 a6 : Value} {x : Nat} : gm_Go E d 37 106 [.ref x, a1, a2, a3, a4, a5, a6] st h r ↔ gm_Go E d 37 107 [.ref x, a1, a2, a3, a4, a5, a6] (.ref x :: st) h r := gr_loc m37 f37_106 rfl rfl
theorem r37_106n {E : Nat → Value} {d : Nat} {st : List Value} {h : gm_H} {r : gm_R × gm_H} {a1 a2 a3 a4 a5 a6 : Value}  : gm_Go E d 37 106 [.null, a1, a2, a3, a4, a5, a6] st h r ↔ gm_Go E d 37 107 [.null, a1, a2, a3, a4, a5, a6] (.null :: st) h r := gr_loc m37 f37_106 rfl rfl
theorem f37_107 : gm_ft 37 107 = some (.iload_n 2, 1) := by decide +kernel
theorem r37_107 {E : Nat → Value} {d : Nat} {st : List Value} {h : gm_H} {r : gm_R × gm_H} {a0 a1 a3 a4 a5 a6 : Value} {x : Int32} : gm_Go E d 37 107 [a0, a1, .int x, a3, a4, a5, a6] st h r ↔ gm_Go E d 37 108 [a0, a1, .int x, a3, a4, a5, a6] (.int x :: st) h r := gr_loc m37 f37_107 rfl rfl
theorem f37_108 : gm_ft 37 108 = some (.iconst 1, 1) := by decide +kernel
theorem r37_108 {E : Nat → Value} {d : Nat} {st : List Value} {h : gm_H} {r : gm_R × gm_H} {lv : List Value} : gm_Go E d 37 108 lv st h r ↔ gm_Go E d 37 109 lv (.int (1 : Int32) :: st) h r := gr_pure m37 f37_108 rfl
theorem f37_109 : gm_ft 37 109 = some (.iadd, 1) := by decide +kernel
theorem r37_109 {E : Nat → Value} {d : Nat} {st : List Value} {h : gm_H} {r : gm_R × gm_H} {lv : List Value} {x y : Int32} : gm_Go E d 37 109 lv (.int y :: .int x :: st) h r ↔ gm_Go E d 37 110 lv (.int (x + y) :: st) h r := gr_pure m37 f37_109 rfl
theorem f37_110 : gm_ft 37 110 = some (.invokevirtual 182, 3) := by decide +kernel
theorem n37_110 {st : List Value} {h : gm_H} {E : Nat → Value} {lv : List Value} {b0 : Value} {a : Nat} (hs : (st.map fun v => v.category).sum ≤ 8) (he : (gm_en1 [.ref a, b0]).length ≤ 2) {vs : List Value} (hr : gm_rd h a = some (0, vs)) : gm_next E 37 110 lv (b0 :: .ref a :: st) h = some (.inr (.inl (0, 23, [.ref a, b0], st))) := gn_call m37 f37_110 rfl rfl rfl rfl rfl rfl rfl (gc_virt (bs := [b0]) (w := 270) rfl rfl rfl rfl hs he hr) (by decide)
theorem f37_113 : gm_ft 37 113 = some (.invokevirtual 360, 3) := by decide +kernel
theorem n37_113 {st : List Value} {h : gm_H} {E : Nat → Value} {lv : List Value} {b0 : Value} {a : Nat} (hs : (st.map fun v => v.category).sum ≤ 8) (he : (gm_en1 [.ref a, b0]).length ≤ 2) {vs : List Value} (hr : gm_rd h a = some (0, vs)) : gm_next E 37 113 lv (b0 :: .ref a :: st) h = some (.inr (.inl (0, 48, [.ref a, b0], st))) := gn_call m37 f37_113 rfl rfl rfl rfl rfl rfl rfl (gc_virt (bs := [b0]) (w := 464) rfl rfl rfl rfl hs he hr) (by decide)
theorem f37_116 : gm_ft 37 116 = some (.ifCond .ne 10, 3) := by decide +kernel
theorem r37_116 {E : Nat → Value} {d : Nat} {st : List Value} {h : gm_H} {r : gm_R × gm_H} {lv : List Value} {x : Int32} : gm_Go E d 37 116 lv (.int x :: st) h r ↔ (if x = 0 then gm_Go E d 37 119 lv st h r else gm_Go E d 37 126 lv st h r) := (gr_br m37 f37_116 rfl rfl rfl rfl).trans gr_ifn
theorem f37_119 : gm_ft 37 119 = some (.aload_n 0, 1) := by decide +kernel
theorem r37_119 {E : Nat → Value} {d : Nat} {st : List Value} {h : gm_H} {r : gm_R × gm_H} {a1 a2 a3 a4 a5 a6 : Value} {x : Nat} : gm_Go E d 37 119 [.ref x, a1, a2, a3, a4, a5, a6] st h r ↔ gm_Go E d 37 120 [.ref x, a1, a2, a3, a4, a5, a6] (.ref x :: st) h r := gr_loc m37 f37_119 rfl rfl
theorem r37_119n {E : Nat → Value} {d : Nat} {st : List Value} {h : gm_H} {r : gm_R × gm_H} {a1 a2 a3 a4 a5 a6 : Value}  : gm_Go E d 37 119 [.null, a1, a2, a3, a4, a5, a6] st h r ↔ gm_Go E d 37 120 [.null, a1, a2, a3, a4, a5, a6] (.null :: st) h r := gr_loc m37 f37_119 rfl rfl
theorem f37_120 : gm_ft 37 120 = some (.bipush (-4), 2) := by decide +kernel
theorem r37_120 {E : Nat → Value} {d : Nat} {st : List Value} {h : gm_H} {r : gm_R × gm_H} {lv : List Value} : gm_Go E d 37 120 lv st h r ↔ gm_Go E d 37 122 lv (.int (-4 : Int32) :: st) h r := gr_pure m37 f37_120 rfl
theorem f37_122 : gm_ft 37 122 = some (.invokevirtual 160, 3) := by decide +kernel
theorem n37_122 {st : List Value} {h : gm_H} {E : Nat → Value} {lv : List Value} {b0 : Value} {a : Nat} (hs : (st.map fun v => v.category).sum ≤ 8) (he : (gm_en1 [.ref a, b0]).length ≤ 2) {vs : List Value} (hr : gm_rd h a = some (0, vs)) : gm_next E 37 122 lv (b0 :: .ref a :: st) h = some (.inr (.inl (0, 22, [.ref a, b0], st))) := gn_call m37 f37_122 rfl rfl rfl rfl rfl rfl rfl (gc_virt (bs := [b0]) (w := 206) rfl rfl rfl rfl hs he hr) (by decide)
theorem f37_125 : gm_ft 37 125 = some (.pop, 1) := by decide +kernel
theorem r37_125 {E : Nat → Value} {d : Nat} {st : List Value} {h : gm_H} {r : gm_R × gm_H} {lv : List Value} {x : Int32} : gm_Go E d 37 125 lv (.int x :: st) h r ↔ gm_Go E d 37 126 lv st h r := gr_pure m37 f37_125 rfl
theorem r37_125a {E : Nat → Value} {d : Nat} {st : List Value} {h : gm_H} {r : gm_R × gm_H} {lv : List Value} {a : Nat} : gm_Go E d 37 125 lv (.ref a :: st) h r ↔ gm_Go E d 37 126 lv st h r := gr_pure m37 f37_125 rfl
theorem r37_125n {E : Nat → Value} {d : Nat} {st : List Value} {h : gm_H} {r : gm_R × gm_H} {lv : List Value} : gm_Go E d 37 125 lv (.null :: st) h r ↔ gm_Go E d 37 126 lv st h r := gr_pure m37 f37_125 rfl
theorem f37_126 : gm_ft 37 126 = some (.iinc 4 1, 3) := by decide +kernel
theorem r37_126 {E : Nat → Value} {d : Nat} {st : List Value} {h : gm_H} {r : gm_R × gm_H} {a0 a1 a2 a3 a5 a6 : Value} {x : Int32} : gm_Go E d 37 126 [a0, a1, a2, a3, .int x, a5, a6] st h r ↔ gm_Go E d 37 129 [a0, a1, a2, gm_k a3, .int (x + (1 : Int32)), a5, a6] st h r := gr_loc m37 f37_126 rfl rfl
theorem f37_129 : gm_ft 37 129 = some (.goto (-101), 3) := by decide +kernel
theorem r37_129 {E : Nat → Value} {d : Nat} {st : List Value} {h : gm_H} {r : gm_R × gm_H} {lv : List Value} : gm_Go E d 37 129 lv st h r ↔ gm_Go E d 37 28 lv st h r := gr_brT m37 f37_129 rfl rfl rfl rfl
theorem f37_132 : gm_ft 37 132 = some (.aload_n 1, 1) := by decide +kernel
theorem r37_132 {E : Nat → Value} {d : Nat} {st : List Value} {h : gm_H} {r : gm_R × gm_H} {a0 a2 a3 a4 a5 a6 : Value} {x : Nat} : gm_Go E d 37 132 [a0, .ref x, a2, a3, a4, a5, a6] st h r ↔ gm_Go E d 37 133 [a0, .ref x, a2, a3, a4, a5, a6] (.ref x :: st) h r := gr_loc m37 f37_132 rfl rfl
theorem r37_132n {E : Nat → Value} {d : Nat} {st : List Value} {h : gm_H} {r : gm_R × gm_H} {a0 a2 a3 a4 a5 a6 : Value}  : gm_Go E d 37 132 [a0, .null, a2, a3, a4, a5, a6] st h r ↔ gm_Go E d 37 133 [a0, .null, a2, a3, a4, a5, a6] (.null :: st) h r := gr_loc m37 f37_132 rfl rfl
theorem f37_133 : gm_ft 37 133 = some (.invokevirtual 256, 3) := by decide +kernel
theorem n37_133 {st : List Value} {h : gm_H} {E : Nat → Value} {lv : List Value} {a : Nat} (hs : (st.map fun v => v.category).sum ≤ 8) (he : (gm_en1 [.ref a]).length ≤ 1) {vs : List Value} (hr : gm_rd h a = some (1, vs)) : gm_next E 37 133 lv (.ref a :: st) h = some (.inr (.inl (0, 36, [.ref a], st))) := gn_call m37 f37_133 rfl rfl rfl rfl rfl rfl rfl (gc_virt (bs := []) (w := 364) rfl rfl rfl rfl hs he hr) (by decide)
theorem f37_136 : gm_ft 37 136 = some (.ifCond .eq 14, 3) := by decide +kernel
theorem r37_136 {E : Nat → Value} {d : Nat} {st : List Value} {h : gm_H} {r : gm_R × gm_H} {lv : List Value} {x : Int32} : gm_Go E d 37 136 lv (.int x :: st) h r ↔ (if x = 0 then gm_Go E d 37 150 lv st h r else gm_Go E d 37 139 lv st h r) := (gr_br m37 f37_136 rfl rfl rfl rfl).trans gr_if
theorem f37_139 : gm_ft 37 139 = some (.iload_n 3, 1) := by decide +kernel
theorem r37_139 {E : Nat → Value} {d : Nat} {st : List Value} {h : gm_H} {r : gm_R × gm_H} {a0 a1 a2 a4 a5 a6 : Value} {x : Int32} : gm_Go E d 37 139 [a0, a1, a2, .int x, a4, a5, a6] st h r ↔ gm_Go E d 37 140 [a0, a1, a2, .int x, a4, a5, a6] (.int x :: st) h r := gr_loc m37 f37_139 rfl rfl
theorem f37_140 : gm_ft 37 140 = some (.ifCond .le 10, 3) := by decide +kernel
theorem r37_140 {E : Nat → Value} {d : Nat} {st : List Value} {h : gm_H} {r : gm_R × gm_H} {lv : List Value} {x : Int32} : gm_Go E d 37 140 lv (.int x :: st) h r ↔ (if x ≤ 0 then gm_Go E d 37 150 lv st h r else gm_Go E d 37 143 lv st h r) := (gr_br m37 f37_140 rfl rfl rfl rfl).trans gr_if
theorem f37_143 : gm_ft 37 143 = some (.aload_n 0, 1) := by decide +kernel
theorem r37_143 {E : Nat → Value} {d : Nat} {st : List Value} {h : gm_H} {r : gm_R × gm_H} {a1 a2 a3 a4 a5 a6 : Value} {x : Nat} : gm_Go E d 37 143 [.ref x, a1, a2, a3, a4, a5, a6] st h r ↔ gm_Go E d 37 144 [.ref x, a1, a2, a3, a4, a5, a6] (.ref x :: st) h r := gr_loc m37 f37_143 rfl rfl
theorem r37_143n {E : Nat → Value} {d : Nat} {st : List Value} {h : gm_H} {r : gm_R × gm_H} {a1 a2 a3 a4 a5 a6 : Value}  : gm_Go E d 37 143 [.null, a1, a2, a3, a4, a5, a6] st h r ↔ gm_Go E d 37 144 [.null, a1, a2, a3, a4, a5, a6] (.null :: st) h r := gr_loc m37 f37_143 rfl rfl
theorem f37_144 : gm_ft 37 144 = some (.bipush (-5), 2) := by decide +kernel
theorem r37_144 {E : Nat → Value} {d : Nat} {st : List Value} {h : gm_H} {r : gm_R × gm_H} {lv : List Value} : gm_Go E d 37 144 lv st h r ↔ gm_Go E d 37 146 lv (.int (-5 : Int32) :: st) h r := gr_pure m37 f37_144 rfl
theorem f37_146 : gm_ft 37 146 = some (.invokevirtual 160, 3) := by decide +kernel
theorem n37_146 {st : List Value} {h : gm_H} {E : Nat → Value} {lv : List Value} {b0 : Value} {a : Nat} (hs : (st.map fun v => v.category).sum ≤ 8) (he : (gm_en1 [.ref a, b0]).length ≤ 2) {vs : List Value} (hr : gm_rd h a = some (0, vs)) : gm_next E 37 146 lv (b0 :: .ref a :: st) h = some (.inr (.inl (0, 22, [.ref a, b0], st))) := gn_call m37 f37_146 rfl rfl rfl rfl rfl rfl rfl (gc_virt (bs := [b0]) (w := 206) rfl rfl rfl rfl hs he hr) (by decide)
theorem f37_149 : gm_ft 37 149 = some (.pop, 1) := by decide +kernel
theorem r37_149 {E : Nat → Value} {d : Nat} {st : List Value} {h : gm_H} {r : gm_R × gm_H} {lv : List Value} {x : Int32} : gm_Go E d 37 149 lv (.int x :: st) h r ↔ gm_Go E d 37 150 lv st h r := gr_pure m37 f37_149 rfl
theorem r37_149a {E : Nat → Value} {d : Nat} {st : List Value} {h : gm_H} {r : gm_R × gm_H} {lv : List Value} {a : Nat} : gm_Go E d 37 149 lv (.ref a :: st) h r ↔ gm_Go E d 37 150 lv st h r := gr_pure m37 f37_149 rfl
theorem r37_149n {E : Nat → Value} {d : Nat} {st : List Value} {h : gm_H} {r : gm_R × gm_H} {lv : List Value} : gm_Go E d 37 149 lv (.null :: st) h r ↔ gm_Go E d 37 150 lv st h r := gr_pure m37 f37_149 rfl
theorem f37_150 : gm_ft 37 150 = some (.return_, 1) := by decide +kernel
theorem r37_150 {E : Nat → Value} {d : Nat} {h : gm_H} {r : gm_R × gm_H} {lv : List Value} : gm_Go E d 37 150 lv [] h r ↔ r = (.inl none, h) := gr_ret m37 f37_150 rfl rfl rfl rfl rfl rfl rfl rfl rfl
/-! GraphReader$Descriptor.makeFields(I)V -/
theorem m38 : gm_mt[38]? = some (⟨"GraphReader$Descriptor", "makeFields", "(I)V"⟩, prog_2_method_4_code, 2, none, [], 1, 1) := rfl
theorem f38_0 : gm_ft 38 0 = some (.aload_n 0, 1) := by decide +kernel
theorem r38_0 {E : Nat → Value} {d : Nat} {st : List Value} {h : gm_H} {r : gm_R × gm_H} {a1 : Value} {x : Nat} : gm_Go E d 38 0 [.ref x, a1] st h r ↔ gm_Go E d 38 1 [.ref x, a1] (.ref x :: st) h r := gr_loc m38 f38_0 rfl rfl
theorem r38_0n {E : Nat → Value} {d : Nat} {st : List Value} {h : gm_H} {r : gm_R × gm_H} {a1 : Value}  : gm_Go E d 38 0 [.null, a1] st h r ↔ gm_Go E d 38 1 [.null, a1] (.null :: st) h r := gr_loc m38 f38_0 rfl rfl
theorem f38_1 : gm_ft 38 1 = some (.iload_n 1, 1) := by decide +kernel
theorem r38_1 {E : Nat → Value} {d : Nat} {st : List Value} {h : gm_H} {r : gm_R × gm_H} {a0 : Value} {x : Int32} : gm_Go E d 38 1 [a0, .int x] st h r ↔ gm_Go E d 38 2 [a0, .int x] (.int x :: st) h r := gr_loc m38 f38_1 rfl rfl
theorem f38_2 : gm_ft 38 2 = some (.putfield 29, 3) := by decide +kernel
theorem r38_2 {E : Nat → Value} {d : Nat} {st : List Value} {h : gm_H} {r : gm_R × gm_H} {lv : List Value} {a : Nat} {vs : List Value} {v : Value} (hr : gm_rd h a = some (1, vs)) (hk : 4 < vs.length) (hn : narrow (gm_ty 1 4) v = v ∧ fits (gm_ty 1 4) v = true) : gm_Go E d 38 2 lv (v :: .ref a :: st) h r ↔ gm_Go E d 38 5 lv st (gm_wr h a (1, vs.set 4 v)) r := gr_wr m38 f38_2 rfl rfl rfl rfl rfl (gf_put k1_29 hr (by decide) hk hn (by decide))
theorem f38_5 : gm_ft 38 5 = some (.aload_n 0, 1) := by decide +kernel
theorem r38_5 {E : Nat → Value} {d : Nat} {st : List Value} {h : gm_H} {r : gm_R × gm_H} {a1 : Value} {x : Nat} : gm_Go E d 38 5 [.ref x, a1] st h r ↔ gm_Go E d 38 6 [.ref x, a1] (.ref x :: st) h r := gr_loc m38 f38_5 rfl rfl
theorem r38_5n {E : Nat → Value} {d : Nat} {st : List Value} {h : gm_H} {r : gm_R × gm_H} {a1 : Value}  : gm_Go E d 38 5 [.null, a1] st h r ↔ gm_Go E d 38 6 [.null, a1] (.null :: st) h r := gr_loc m38 f38_5 rfl rfl
theorem f38_6 : gm_ft 38 6 = some (.iload_n 1, 1) := by decide +kernel
theorem r38_6 {E : Nat → Value} {d : Nat} {st : List Value} {h : gm_H} {r : gm_R × gm_H} {a0 : Value} {x : Int32} : gm_Go E d 38 6 [a0, .int x] st h r ↔ gm_Go E d 38 7 [a0, .int x] (.int x :: st) h r := gr_loc m38 f38_6 rfl rfl
theorem f38_7 : gm_ft 38 7 = some (.newarray .int, 2) := by decide +kernel
theorem f38_9 : gm_ft 38 9 = some (.putfield 32, 3) := by decide +kernel
theorem r38_9 {E : Nat → Value} {d : Nat} {st : List Value} {h : gm_H} {r : gm_R × gm_H} {lv : List Value} {a : Nat} {vs : List Value} {v : Value} (hr : gm_rd h a = some (1, vs)) (hk : 5 < vs.length) (hn : narrow (gm_ty 1 5) v = v ∧ fits (gm_ty 1 5) v = true) : gm_Go E d 38 9 lv (v :: .ref a :: st) h r ↔ gm_Go E d 38 12 lv st (gm_wr h a (1, vs.set 5 v)) r := gr_wr m38 f38_9 rfl rfl rfl rfl rfl (gf_put k1_32 hr (by decide) hk hn (by decide))
theorem f38_12 : gm_ft 38 12 = some (.aload_n 0, 1) := by decide +kernel
theorem r38_12 {E : Nat → Value} {d : Nat} {st : List Value} {h : gm_H} {r : gm_R × gm_H} {a1 : Value} {x : Nat} : gm_Go E d 38 12 [.ref x, a1] st h r ↔ gm_Go E d 38 13 [.ref x, a1] (.ref x :: st) h r := gr_loc m38 f38_12 rfl rfl
theorem r38_12n {E : Nat → Value} {d : Nat} {st : List Value} {h : gm_H} {r : gm_R × gm_H} {a1 : Value}  : gm_Go E d 38 12 [.null, a1] st h r ↔ gm_Go E d 38 13 [.null, a1] (.null :: st) h r := gr_loc m38 f38_12 rfl rfl
theorem f38_13 : gm_ft 38 13 = some (.iload_n 1, 1) := by decide +kernel
theorem r38_13 {E : Nat → Value} {d : Nat} {st : List Value} {h : gm_H} {r : gm_R × gm_H} {a0 : Value} {x : Int32} : gm_Go E d 38 13 [a0, .int x] st h r ↔ gm_Go E d 38 14 [a0, .int x] (.int x :: st) h r := gr_loc m38 f38_13 rfl rfl
theorem f38_14 : gm_ft 38 14 = some (.newarray .int, 2) := by decide +kernel
theorem f38_16 : gm_ft 38 16 = some (.putfield 36, 3) := by decide +kernel
theorem r38_16 {E : Nat → Value} {d : Nat} {st : List Value} {h : gm_H} {r : gm_R × gm_H} {lv : List Value} {a : Nat} {vs : List Value} {v : Value} (hr : gm_rd h a = some (1, vs)) (hk : 6 < vs.length) (hn : narrow (gm_ty 1 6) v = v ∧ fits (gm_ty 1 6) v = true) : gm_Go E d 38 16 lv (v :: .ref a :: st) h r ↔ gm_Go E d 38 19 lv st (gm_wr h a (1, vs.set 6 v)) r := gr_wr m38 f38_16 rfl rfl rfl rfl rfl (gf_put k1_36 hr (by decide) hk hn (by decide))
theorem f38_19 : gm_ft 38 19 = some (.return_, 1) := by decide +kernel
theorem r38_19 {E : Nat → Value} {d : Nat} {h : gm_H} {r : gm_R × gm_H} {lv : List Value} : gm_Go E d 38 19 lv [] h r ↔ r = (.inl none, h) := gr_ret m38 f38_19 rfl rfl rfl rfl rfl rfl rfl rfl rfl
/-! java/lang/String.indexOf(I)I -/
theorem m39 : gm_mt[39]? = some (⟨"java/lang/String", "indexOf", "(I)I"⟩, prog_13_method_79_code, 2, (some .int), [], 6, 3) := rfl
theorem f39_0 : gm_ft 39 0 = some (.aload_n 0, 1) := by decide +kernel
theorem r39_0 {E : Nat → Value} {d : Nat} {st : List Value} {h : gm_H} {r : gm_R × gm_H} {a1 : Value} {x : Nat} : gm_Go E d 39 0 [.ref x, a1] st h r ↔ gm_Go E d 39 1 [.ref x, a1] (.ref x :: st) h r := gr_loc m39 f39_0 rfl rfl
theorem r39_0n {E : Nat → Value} {d : Nat} {st : List Value} {h : gm_H} {r : gm_R × gm_H} {a1 : Value}  : gm_Go E d 39 0 [.null, a1] st h r ↔ gm_Go E d 39 1 [.null, a1] (.null :: st) h r := gr_loc m39 f39_0 rfl rfl
theorem f39_1 : gm_ft 39 1 = some (.iload_n 1, 1) := by decide +kernel
theorem r39_1 {E : Nat → Value} {d : Nat} {st : List Value} {h : gm_H} {r : gm_R × gm_H} {a0 : Value} {x : Int32} : gm_Go E d 39 1 [a0, .int x] st h r ↔ gm_Go E d 39 2 [a0, .int x] (.int x :: st) h r := gr_loc m39 f39_1 rfl rfl
theorem f39_2 : gm_ft 39 2 = some (.iconst 0, 1) := by decide +kernel
theorem r39_2 {E : Nat → Value} {d : Nat} {st : List Value} {h : gm_H} {r : gm_R × gm_H} {lv : List Value} : gm_Go E d 39 2 lv st h r ↔ gm_Go E d 39 3 lv (.int (0 : Int32) :: st) h r := gr_pure m39 f39_2 rfl
theorem f39_3 : gm_ft 39 3 = some (.invokevirtual 633, 3) := by decide +kernel
theorem n39_3 {st : List Value} {h : gm_H} {E : Nat → Value} {lv : List Value} {b0 b1 : Value} {a : Nat} (hs : (st.map fun v => v.category).sum ≤ 8) (he : (gm_en1 [.ref a, b0, b1]).length ≤ 3) {vs : List Value} (hr : gm_rd h a = some (6, vs)) : gm_next E 39 3 lv (b1 :: b0 :: .ref a :: st) h = some (.inr (.inl (0, 40, [.ref a, b0, b1], st))) := gn_call m39 f39_3 rfl rfl rfl rfl rfl rfl rfl (gc_virt (bs := [b1, b0]) (w := 382) rfl rfl rfl rfl hs he hr) (by decide)
theorem f39_6 : gm_ft 39 6 = some (.ireturn, 1) := by decide +kernel
theorem r39_6 {E : Nat → Value} {d : Nat} {h : gm_H} {r : gm_R × gm_H} {lv : List Value} {x : Int32} : gm_Go E d 39 6 lv [.int x] h r ↔ r = (.inl (some (.int x)), h) := gr_ret m39 f39_6 rfl rfl rfl rfl rfl rfl rfl rfl (by unfold gm_rt; dsimp only; rw [if_pos ⟨rfl, rfl⟩])
/-! java/lang/String.indexOf(II)I -/
theorem m40 : gm_mt[40]? = some (⟨"java/lang/String", "indexOf", "(II)I"⟩, prog_13_method_80_code, 3, (some .int), [], 6, 3) := rfl
theorem f40_0 : gm_ft 40 0 = some (.aload_n 0, 1) := by decide +kernel
theorem r40_0 {E : Nat → Value} {d : Nat} {st : List Value} {h : gm_H} {r : gm_R × gm_H} {a1 a2 : Value} {x : Nat} : gm_Go E d 40 0 [.ref x, a1, a2] st h r ↔ gm_Go E d 40 1 [.ref x, a1, a2] (.ref x :: st) h r := gr_loc m40 f40_0 rfl rfl
theorem r40_0n {E : Nat → Value} {d : Nat} {st : List Value} {h : gm_H} {r : gm_R × gm_H} {a1 a2 : Value}  : gm_Go E d 40 0 [.null, a1, a2] st h r ↔ gm_Go E d 40 1 [.null, a1, a2] (.null :: st) h r := gr_loc m40 f40_0 rfl rfl
theorem f40_1 : gm_ft 40 1 = some (.invokevirtual 492, 3) := by decide +kernel
theorem n40_1 {st : List Value} {h : gm_H} {E : Nat → Value} {lv : List Value} {a : Nat} (hs : (st.map fun v => v.category).sum ≤ 8) (he : (gm_en1 [.ref a]).length ≤ 1) {vs : List Value} (hr : gm_rd h a = some (6, vs)) : gm_next E 40 1 lv (.ref a :: st) h = some (.inr (.inl (0, 41, [.ref a], st))) := gn_call m40 f40_1 rfl rfl rfl rfl rfl rfl rfl (gc_virt (bs := []) (w := 386) rfl rfl rfl rfl hs he hr) (by decide)
theorem f40_4 : gm_ft 40 4 = some (.ifCond .eq 19, 3) := by decide +kernel
theorem r40_4 {E : Nat → Value} {d : Nat} {st : List Value} {h : gm_H} {r : gm_R × gm_H} {lv : List Value} {x : Int32} : gm_Go E d 40 4 lv (.int x :: st) h r ↔ (if x = 0 then gm_Go E d 40 23 lv st h r else gm_Go E d 40 7 lv st h r) := (gr_br m40 f40_4 rfl rfl rfl rfl).trans gr_if
theorem f40_7 : gm_ft 40 7 = some (.aload_n 0, 1) := by decide +kernel
theorem r40_7 {E : Nat → Value} {d : Nat} {st : List Value} {h : gm_H} {r : gm_R × gm_H} {a1 a2 : Value} {x : Nat} : gm_Go E d 40 7 [.ref x, a1, a2] st h r ↔ gm_Go E d 40 8 [.ref x, a1, a2] (.ref x :: st) h r := gr_loc m40 f40_7 rfl rfl
theorem r40_7n {E : Nat → Value} {d : Nat} {st : List Value} {h : gm_H} {r : gm_R × gm_H} {a1 a2 : Value}  : gm_Go E d 40 7 [.null, a1, a2] st h r ↔ gm_Go E d 40 8 [.null, a1, a2] (.null :: st) h r := gr_loc m40 f40_7 rfl rfl
theorem f40_8 : gm_ft 40 8 = some (.getfield 9, 3) := by decide +kernel
theorem r40_8 {E : Nat → Value} {d : Nat} {st : List Value} {h : gm_H} {r : gm_R × gm_H} {lv : List Value} {a : Nat} {vs : List Value} {v : Value} (hr : gm_rd h a = some (6, vs)) (hv : vs[0]? = some v) : gm_Go E d 40 8 lv (.ref a :: st) h r ↔ gm_Go E d 40 11 lv (v :: st) h r := gr_rd m40 f40_8 rfl rfl rfl rfl (gf_get k6_9 hr hv)
theorem f40_11 : gm_ft 40 11 = some (.iload_n 1, 1) := by decide +kernel
theorem r40_11 {E : Nat → Value} {d : Nat} {st : List Value} {h : gm_H} {r : gm_R × gm_H} {a0 a2 : Value} {x : Int32} : gm_Go E d 40 11 [a0, .int x, a2] st h r ↔ gm_Go E d 40 12 [a0, .int x, a2] (.int x :: st) h r := gr_loc m40 f40_11 rfl rfl
theorem f40_12 : gm_ft 40 12 = some (.iload_n 2, 1) := by decide +kernel
theorem r40_12 {E : Nat → Value} {d : Nat} {st : List Value} {h : gm_H} {r : gm_R × gm_H} {a0 a1 : Value} {x : Int32} : gm_Go E d 40 12 [a0, a1, .int x] st h r ↔ gm_Go E d 40 13 [a0, a1, .int x] (.int x :: st) h r := gr_loc m40 f40_12 rfl rfl
theorem f40_13 : gm_ft 40 13 = some (.aload_n 0, 1) := by decide +kernel
theorem r40_13 {E : Nat → Value} {d : Nat} {st : List Value} {h : gm_H} {r : gm_R × gm_H} {a1 a2 : Value} {x : Nat} : gm_Go E d 40 13 [.ref x, a1, a2] st h r ↔ gm_Go E d 40 14 [.ref x, a1, a2] (.ref x :: st) h r := gr_loc m40 f40_13 rfl rfl
theorem r40_13n {E : Nat → Value} {d : Nat} {st : List Value} {h : gm_H} {r : gm_R × gm_H} {a1 a2 : Value}  : gm_Go E d 40 13 [.null, a1, a2] st h r ↔ gm_Go E d 40 14 [.null, a1, a2] (.null :: st) h r := gr_loc m40 f40_13 rfl rfl
theorem f40_14 : gm_ft 40 14 = some (.invokevirtual 505, 3) := by decide +kernel
theorem n40_14 {st : List Value} {h : gm_H} {E : Nat → Value} {lv : List Value} {a : Nat} (hs : (st.map fun v => v.category).sum ≤ 8) (he : (gm_en1 [.ref a]).length ≤ 1) {vs : List Value} (hr : gm_rd h a = some (6, vs)) : gm_next E 40 14 lv (.ref a :: st) h = some (.inr (.inl (0, 42, [.ref a], st))) := gn_call m40 f40_14 rfl rfl rfl rfl rfl rfl rfl (gc_virt (bs := []) (w := 392) rfl rfl rfl rfl hs he hr) (by decide)
theorem f40_17 : gm_ft 40 17 = some (.invokestatic 637, 3) := by decide +kernel
theorem n40_17 {st : List Value} {h : gm_H} {E : Nat → Value} {lv : List Value} {b0 b1 b2 b3 : Value} (hs : (st.map fun v => v.category).sum ≤ 8) (he : (gm_en1 [b0, b1, b2, b3]).length ≤ 4) : gm_next E 40 17 lv (b3 :: b2 :: b1 :: b0 :: st) h = some (.inr (.inl (1, 44, [b0, b1, b2, b3], st))) := gn_call m40 f40_17 rfl rfl rfl rfl rfl rfl rfl (gc_stat (bs := [b3, b2, b1, b0]) (w := 400) rfl rfl rfl hs he) (by decide)
theorem f40_20 : gm_ft 40 20 = some (.goto 16, 3) := by decide +kernel
theorem r40_20 {E : Nat → Value} {d : Nat} {st : List Value} {h : gm_H} {r : gm_R × gm_H} {lv : List Value} : gm_Go E d 40 20 lv st h r ↔ gm_Go E d 40 36 lv st h r := gr_brT m40 f40_20 rfl rfl rfl rfl
theorem f40_23 : gm_ft 40 23 = some (.aload_n 0, 1) := by decide +kernel
theorem r40_23 {E : Nat → Value} {d : Nat} {st : List Value} {h : gm_H} {r : gm_R × gm_H} {a1 a2 : Value} {x : Nat} : gm_Go E d 40 23 [.ref x, a1, a2] st h r ↔ gm_Go E d 40 24 [.ref x, a1, a2] (.ref x :: st) h r := gr_loc m40 f40_23 rfl rfl
theorem r40_23n {E : Nat → Value} {d : Nat} {st : List Value} {h : gm_H} {r : gm_R × gm_H} {a1 a2 : Value}  : gm_Go E d 40 23 [.null, a1, a2] st h r ↔ gm_Go E d 40 24 [.null, a1, a2] (.null :: st) h r := gr_loc m40 f40_23 rfl rfl
theorem f40_24 : gm_ft 40 24 = some (.getfield 9, 3) := by decide +kernel
theorem r40_24 {E : Nat → Value} {d : Nat} {st : List Value} {h : gm_H} {r : gm_R × gm_H} {lv : List Value} {a : Nat} {vs : List Value} {v : Value} (hr : gm_rd h a = some (6, vs)) (hv : vs[0]? = some v) : gm_Go E d 40 24 lv (.ref a :: st) h r ↔ gm_Go E d 40 27 lv (v :: st) h r := gr_rd m40 f40_24 rfl rfl rfl rfl (gf_get k6_9 hr hv)
theorem f40_27 : gm_ft 40 27 = some (.iload_n 1, 1) := by decide +kernel
theorem r40_27 {E : Nat → Value} {d : Nat} {st : List Value} {h : gm_H} {r : gm_R × gm_H} {a0 a2 : Value} {x : Int32} : gm_Go E d 40 27 [a0, .int x, a2] st h r ↔ gm_Go E d 40 28 [a0, .int x, a2] (.int x :: st) h r := gr_loc m40 f40_27 rfl rfl
theorem f40_28 : gm_ft 40 28 = some (.iload_n 2, 1) := by decide +kernel
theorem r40_28 {E : Nat → Value} {d : Nat} {st : List Value} {h : gm_H} {r : gm_R × gm_H} {a0 a1 : Value} {x : Int32} : gm_Go E d 40 28 [a0, a1, .int x] st h r ↔ gm_Go E d 40 29 [a0, a1, .int x] (.int x :: st) h r := gr_loc m40 f40_28 rfl rfl
theorem f40_29 : gm_ft 40 29 = some (.aload_n 0, 1) := by decide +kernel
theorem r40_29 {E : Nat → Value} {d : Nat} {st : List Value} {h : gm_H} {r : gm_R × gm_H} {a1 a2 : Value} {x : Nat} : gm_Go E d 40 29 [.ref x, a1, a2] st h r ↔ gm_Go E d 40 30 [.ref x, a1, a2] (.ref x :: st) h r := gr_loc m40 f40_29 rfl rfl
theorem r40_29n {E : Nat → Value} {d : Nat} {st : List Value} {h : gm_H} {r : gm_R × gm_H} {a1 a2 : Value}  : gm_Go E d 40 29 [.null, a1, a2] st h r ↔ gm_Go E d 40 30 [.null, a1, a2] (.null :: st) h r := gr_loc m40 f40_29 rfl rfl
theorem f40_30 : gm_ft 40 30 = some (.invokevirtual 505, 3) := by decide +kernel
theorem n40_30 {st : List Value} {h : gm_H} {E : Nat → Value} {lv : List Value} {a : Nat} (hs : (st.map fun v => v.category).sum ≤ 8) (he : (gm_en1 [.ref a]).length ≤ 1) {vs : List Value} (hr : gm_rd h a = some (6, vs)) : gm_next E 40 30 lv (.ref a :: st) h = some (.inr (.inl (0, 42, [.ref a], st))) := gn_call m40 f40_30 rfl rfl rfl rfl rfl rfl rfl (gc_virt (bs := []) (w := 392) rfl rfl rfl rfl hs he hr) (by decide)
theorem f40_33 : gm_ft 40 33 = some (.invokestatic 640, 3) := by decide +kernel
theorem f40_36 : gm_ft 40 36 = some (.ireturn, 1) := by decide +kernel
theorem r40_36 {E : Nat → Value} {d : Nat} {h : gm_H} {r : gm_R × gm_H} {lv : List Value} {x : Int32} : gm_Go E d 40 36 lv [.int x] h r ↔ r = (.inl (some (.int x)), h) := gr_ret m40 f40_36 rfl rfl rfl rfl rfl rfl rfl rfl (by unfold gm_rt; dsimp only; rw [if_pos ⟨rfl, rfl⟩])
/-! java/lang/String.isLatin1()Z -/
theorem m41 : gm_mt[41]? = some (⟨"java/lang/String", "isLatin1", "()Z"⟩, prog_13_method_154_code, 1, (some .boolean), [], 6, 3) := rfl
theorem f41_0 : gm_ft 41 0 = some (.getstatic 38, 3) := by decide +kernel
theorem r41_0 {E : Nat → Value} {d : Nat} {st : List Value} {h : gm_H} {r : gm_R × gm_H} {lv : List Value} : gm_Go E d 41 0 lv st h r ↔ gm_Go E d 41 3 lv (E 5 :: st) h r := gr_rd m41 f41_0 rfl rfl rfl rfl rfl
theorem f41_3 : gm_ft 41 3 = some (.ifCond .eq 14, 3) := by decide +kernel
theorem r41_3 {E : Nat → Value} {d : Nat} {st : List Value} {h : gm_H} {r : gm_R × gm_H} {lv : List Value} {x : Int32} : gm_Go E d 41 3 lv (.int x :: st) h r ↔ (if x = 0 then gm_Go E d 41 17 lv st h r else gm_Go E d 41 6 lv st h r) := (gr_br m41 f41_3 rfl rfl rfl rfl).trans gr_if
theorem f41_6 : gm_ft 41 6 = some (.aload_n 0, 1) := by decide +kernel
theorem r41_6 {E : Nat → Value} {d : Nat} {st : List Value} {h : gm_H} {r : gm_R × gm_H}  {x : Nat} : gm_Go E d 41 6 [.ref x] st h r ↔ gm_Go E d 41 7 [.ref x] (.ref x :: st) h r := gr_loc m41 f41_6 rfl rfl
theorem r41_6n {E : Nat → Value} {d : Nat} {st : List Value} {h : gm_H} {r : gm_R × gm_H}   : gm_Go E d 41 6 [.null] st h r ↔ gm_Go E d 41 7 [.null] (.null :: st) h r := gr_loc m41 f41_6 rfl rfl
theorem f41_7 : gm_ft 41 7 = some (.getfield 15, 3) := by decide +kernel
theorem r41_7 {E : Nat → Value} {d : Nat} {st : List Value} {h : gm_H} {r : gm_R × gm_H} {lv : List Value} {a : Nat} {vs : List Value} {v : Value} (hr : gm_rd h a = some (6, vs)) (hv : vs[1]? = some v) : gm_Go E d 41 7 lv (.ref a :: st) h r ↔ gm_Go E d 41 10 lv (v :: st) h r := gr_rd m41 f41_7 rfl rfl rfl rfl (gf_get k6_15 hr hv)
theorem f41_10 : gm_ft 41 10 = some (.ifCond .ne 7, 3) := by decide +kernel
theorem r41_10 {E : Nat → Value} {d : Nat} {st : List Value} {h : gm_H} {r : gm_R × gm_H} {lv : List Value} {x : Int32} : gm_Go E d 41 10 lv (.int x :: st) h r ↔ (if x = 0 then gm_Go E d 41 13 lv st h r else gm_Go E d 41 17 lv st h r) := (gr_br m41 f41_10 rfl rfl rfl rfl).trans gr_ifn
theorem f41_13 : gm_ft 41 13 = some (.iconst 1, 1) := by decide +kernel
theorem r41_13 {E : Nat → Value} {d : Nat} {st : List Value} {h : gm_H} {r : gm_R × gm_H} {lv : List Value} : gm_Go E d 41 13 lv st h r ↔ gm_Go E d 41 14 lv (.int (1 : Int32) :: st) h r := gr_pure m41 f41_13 rfl
theorem f41_14 : gm_ft 41 14 = some (.goto 4, 3) := by decide +kernel
theorem r41_14 {E : Nat → Value} {d : Nat} {st : List Value} {h : gm_H} {r : gm_R × gm_H} {lv : List Value} : gm_Go E d 41 14 lv st h r ↔ gm_Go E d 41 18 lv st h r := gr_brT m41 f41_14 rfl rfl rfl rfl
theorem f41_17 : gm_ft 41 17 = some (.iconst 0, 1) := by decide +kernel
theorem r41_17 {E : Nat → Value} {d : Nat} {st : List Value} {h : gm_H} {r : gm_R × gm_H} {lv : List Value} : gm_Go E d 41 17 lv st h r ↔ gm_Go E d 41 18 lv (.int (0 : Int32) :: st) h r := gr_pure m41 f41_17 rfl
theorem f41_18 : gm_ft 41 18 = some (.ireturn, 1) := by decide +kernel
theorem r41_18_0 {E : Nat → Value} {d : Nat} {h : gm_H} {r : gm_R × gm_H} {lv : List Value} : gm_Go E d 41 18 lv [.int (0 : Int32)] h r ↔ r = (.inl (some (.int (0 : Int32))), h) := gr_ret m41 f41_18 rfl rfl rfl rfl rfl rfl rfl rfl (by unfold gm_rt; dsimp only; rw [if_pos ⟨rfl, rfl⟩])
theorem r41_18_1 {E : Nat → Value} {d : Nat} {h : gm_H} {r : gm_R × gm_H} {lv : List Value} : gm_Go E d 41 18 lv [.int (1 : Int32)] h r ↔ r = (.inl (some (.int (1 : Int32))), h) := gr_ret m41 f41_18 rfl rfl rfl rfl rfl rfl rfl rfl (by unfold gm_rt; dsimp only; rw [if_pos ⟨rfl, rfl⟩])
/-! java/lang/String.length()I -/
theorem m42 : gm_mt[42]? = some (⟨"java/lang/String", "length", "()I"⟩, prog_13_method_54_code, 1, (some .int), [], 6, 3) := rfl
theorem f42_0 : gm_ft 42 0 = some (.aload_n 0, 1) := by decide +kernel
theorem r42_0 {E : Nat → Value} {d : Nat} {st : List Value} {h : gm_H} {r : gm_R × gm_H}  {x : Nat} : gm_Go E d 42 0 [.ref x] st h r ↔ gm_Go E d 42 1 [.ref x] (.ref x :: st) h r := gr_loc m42 f42_0 rfl rfl
theorem r42_0n {E : Nat → Value} {d : Nat} {st : List Value} {h : gm_H} {r : gm_R × gm_H}   : gm_Go E d 42 0 [.null] st h r ↔ gm_Go E d 42 1 [.null] (.null :: st) h r := gr_loc m42 f42_0 rfl rfl
theorem f42_1 : gm_ft 42 1 = some (.getfield 9, 3) := by decide +kernel
theorem r42_1 {E : Nat → Value} {d : Nat} {st : List Value} {h : gm_H} {r : gm_R × gm_H} {lv : List Value} {a : Nat} {vs : List Value} {v : Value} (hr : gm_rd h a = some (6, vs)) (hv : vs[0]? = some v) : gm_Go E d 42 1 lv (.ref a :: st) h r ↔ gm_Go E d 42 4 lv (v :: st) h r := gr_rd m42 f42_1 rfl rfl rfl rfl (gf_get k6_9 hr hv)
theorem f42_4 : gm_ft 42 4 = some (.arraylength, 1) := by decide +kernel
theorem r42_4 {E : Nat → Value} {d : Nat} {st : List Value} {h : gm_H} {r : gm_R × gm_H} {lv : List Value} {a k : Nat} {vs : List Value} (hr : gm_rd h a = some (k, vs)) (hk : 100 ≤ k) : gm_Go E d 42 4 lv (.ref a :: st) h r ↔ gm_Go E d 42 5 lv (.int (nI vs.length) :: st) h r := gr_rd m42 f42_4 rfl rfl rfl rfl (ga_len hr hk)
theorem f42_5 : gm_ft 42 5 = some (.aload_n 0, 1) := by decide +kernel
theorem r42_5 {E : Nat → Value} {d : Nat} {st : List Value} {h : gm_H} {r : gm_R × gm_H}  {x : Nat} : gm_Go E d 42 5 [.ref x] st h r ↔ gm_Go E d 42 6 [.ref x] (.ref x :: st) h r := gr_loc m42 f42_5 rfl rfl
theorem r42_5n {E : Nat → Value} {d : Nat} {st : List Value} {h : gm_H} {r : gm_R × gm_H}   : gm_Go E d 42 5 [.null] st h r ↔ gm_Go E d 42 6 [.null] (.null :: st) h r := gr_loc m42 f42_5 rfl rfl
theorem f42_6 : gm_ft 42 6 = some (.invokevirtual 335, 3) := by decide +kernel
theorem n42_6 {st : List Value} {h : gm_H} {E : Nat → Value} {lv : List Value} {a : Nat} (hs : (st.map fun v => v.category).sum ≤ 8) (he : (gm_en1 [.ref a]).length ≤ 1) {vs : List Value} (hr : gm_rd h a = some (6, vs)) : gm_next E 42 6 lv (.ref a :: st) h = some (.inr (.inl (0, 43, [.ref a], st))) := gn_call m42 f42_6 rfl rfl rfl rfl rfl rfl rfl (gc_virt (bs := []) (w := 396) rfl rfl rfl rfl hs he hr) (by decide)
theorem f42_9 : gm_ft 42 9 = some (.ishr, 1) := by decide +kernel
theorem r42_9 {E : Nat → Value} {d : Nat} {st : List Value} {h : gm_H} {r : gm_R × gm_H} {lv : List Value} {x y : Int32} : gm_Go E d 42 9 lv (.int y :: .int x :: st) h r ↔ gm_Go E d 42 10 lv (.int (x >>> (y &&& 31)) :: st) h r := gr_pure m42 f42_9 rfl
theorem f42_10 : gm_ft 42 10 = some (.ireturn, 1) := by decide +kernel
theorem r42_10 {E : Nat → Value} {d : Nat} {h : gm_H} {r : gm_R × gm_H} {lv : List Value} {x : Int32} : gm_Go E d 42 10 lv [.int x] h r ↔ r = (.inl (some (.int x)), h) := gr_ret m42 f42_10 rfl rfl rfl rfl rfl rfl rfl rfl (by unfold gm_rt; dsimp only; rw [if_pos ⟨rfl, rfl⟩])
/-! java/lang/String.coder()B -/
theorem m43 : gm_mt[43]? = some (⟨"java/lang/String", "coder", "()B"⟩, prog_13_method_152_code, 1, (some .byte), [], 6, 3) := rfl
theorem f43_0 : gm_ft 43 0 = some (.getstatic 38, 3) := by decide +kernel
theorem r43_0 {E : Nat → Value} {d : Nat} {st : List Value} {h : gm_H} {r : gm_R × gm_H} {lv : List Value} : gm_Go E d 43 0 lv st h r ↔ gm_Go E d 43 3 lv (E 5 :: st) h r := gr_rd m43 f43_0 rfl rfl rfl rfl rfl
theorem f43_3 : gm_ft 43 3 = some (.ifCond .eq 10, 3) := by decide +kernel
theorem r43_3 {E : Nat → Value} {d : Nat} {st : List Value} {h : gm_H} {r : gm_R × gm_H} {lv : List Value} {x : Int32} : gm_Go E d 43 3 lv (.int x :: st) h r ↔ (if x = 0 then gm_Go E d 43 13 lv st h r else gm_Go E d 43 6 lv st h r) := (gr_br m43 f43_3 rfl rfl rfl rfl).trans gr_if
theorem f43_6 : gm_ft 43 6 = some (.aload_n 0, 1) := by decide +kernel
theorem r43_6 {E : Nat → Value} {d : Nat} {st : List Value} {h : gm_H} {r : gm_R × gm_H}  {x : Nat} : gm_Go E d 43 6 [.ref x] st h r ↔ gm_Go E d 43 7 [.ref x] (.ref x :: st) h r := gr_loc m43 f43_6 rfl rfl
theorem r43_6n {E : Nat → Value} {d : Nat} {st : List Value} {h : gm_H} {r : gm_R × gm_H}   : gm_Go E d 43 6 [.null] st h r ↔ gm_Go E d 43 7 [.null] (.null :: st) h r := gr_loc m43 f43_6 rfl rfl
theorem f43_7 : gm_ft 43 7 = some (.getfield 15, 3) := by decide +kernel
theorem r43_7 {E : Nat → Value} {d : Nat} {st : List Value} {h : gm_H} {r : gm_R × gm_H} {lv : List Value} {a : Nat} {vs : List Value} {v : Value} (hr : gm_rd h a = some (6, vs)) (hv : vs[1]? = some v) : gm_Go E d 43 7 lv (.ref a :: st) h r ↔ gm_Go E d 43 10 lv (v :: st) h r := gr_rd m43 f43_7 rfl rfl rfl rfl (gf_get k6_15 hr hv)
theorem f43_10 : gm_ft 43 10 = some (.goto 4, 3) := by decide +kernel
theorem r43_10 {E : Nat → Value} {d : Nat} {st : List Value} {h : gm_H} {r : gm_R × gm_H} {lv : List Value} : gm_Go E d 43 10 lv st h r ↔ gm_Go E d 43 14 lv st h r := gr_brT m43 f43_10 rfl rfl rfl rfl
theorem f43_13 : gm_ft 43 13 = some (.iconst 1, 1) := by decide +kernel
theorem r43_13 {E : Nat → Value} {d : Nat} {st : List Value} {h : gm_H} {r : gm_R × gm_H} {lv : List Value} : gm_Go E d 43 13 lv st h r ↔ gm_Go E d 43 14 lv (.int (1 : Int32) :: st) h r := gr_pure m43 f43_13 rfl
theorem f43_14 : gm_ft 43 14 = some (.ireturn, 1) := by decide +kernel
theorem r43_14 {E : Nat → Value} {d : Nat} {h : gm_H} {r : gm_R × gm_H} {lv : List Value} {x : Int32} (hx : narrow .byte (.int x) = .int x) : gm_Go E d 43 14 lv [.int x] h r ↔ r = (.inl (some (.int x)), h) := gr_ret m43 f43_14 rfl rfl rfl rfl rfl rfl rfl rfl (by unfold gm_rt; dsimp only; rw [if_pos ⟨rfl, hx⟩])
/-! java/lang/StringLatin1.indexOf([BIII)I -/
theorem m44 : gm_mt[44]? = some (⟨"java/lang/StringLatin1", "indexOf", "([BIII)I"⟩, prog_14_method_22_code, 4, (some .int), [], 9, 3) := rfl
theorem f44_0 : gm_ft 44 0 = some (.iload_n 1, 1) := by decide +kernel
theorem r44_0 {E : Nat → Value} {d : Nat} {st : List Value} {h : gm_H} {r : gm_R × gm_H} {a0 a2 a3 : Value} {x : Int32} : gm_Go E d 44 0 [a0, .int x, a2, a3] st h r ↔ gm_Go E d 44 1 [a0, .int x, a2, a3] (.int x :: st) h r := gr_loc m44 f44_0 rfl rfl
theorem f44_1 : gm_ft 44 1 = some (.invokestatic 88, 3) := by decide +kernel
theorem n44_1 {st : List Value} {h : gm_H} {E : Nat → Value} {lv : List Value} {b0 : Value} (hs : (st.map fun v => v.category).sum ≤ 8) (he : (gm_en1 [b0]).length ≤ 1) : gm_next E 44 1 lv (b0 :: st) h = some (.inr (.inl (1, 45, [b0], st))) := gn_call m44 f44_1 rfl rfl rfl rfl rfl rfl rfl (gc_stat (bs := [b0]) (w := 403) rfl rfl rfl hs he) (by decide)
theorem f44_4 : gm_ft 44 4 = some (.ifCond .ne 5, 3) := by decide +kernel
theorem r44_4 {E : Nat → Value} {d : Nat} {st : List Value} {h : gm_H} {r : gm_R × gm_H} {lv : List Value} {x : Int32} : gm_Go E d 44 4 lv (.int x :: st) h r ↔ (if x = 0 then gm_Go E d 44 7 lv st h r else gm_Go E d 44 9 lv st h r) := (gr_br m44 f44_4 rfl rfl rfl rfl).trans gr_ifn
theorem f44_7 : gm_ft 44 7 = some (.iconst (-1), 1) := by decide +kernel
theorem r44_7 {E : Nat → Value} {d : Nat} {st : List Value} {h : gm_H} {r : gm_R × gm_H} {lv : List Value} : gm_Go E d 44 7 lv st h r ↔ gm_Go E d 44 8 lv (.int (-1 : Int32) :: st) h r := gr_pure m44 f44_7 rfl
theorem f44_8 : gm_ft 44 8 = some (.ireturn, 1) := by decide +kernel
theorem r44_8 {E : Nat → Value} {d : Nat} {h : gm_H} {r : gm_R × gm_H} {lv : List Value} {x : Int32} : gm_Go E d 44 8 lv [.int x] h r ↔ r = (.inl (some (.int x)), h) := gr_ret m44 f44_8 rfl rfl rfl rfl rfl rfl rfl rfl (by unfold gm_rt; dsimp only; rw [if_pos ⟨rfl, rfl⟩])
theorem f44_9 : gm_ft 44 9 = some (.iload_n 2, 1) := by decide +kernel
theorem r44_9 {E : Nat → Value} {d : Nat} {st : List Value} {h : gm_H} {r : gm_R × gm_H} {a0 a1 a3 : Value} {x : Int32} : gm_Go E d 44 9 [a0, a1, .int x, a3] st h r ↔ gm_Go E d 44 10 [a0, a1, .int x, a3] (.int x :: st) h r := gr_loc m44 f44_9 rfl rfl
theorem f44_10 : gm_ft 44 10 = some (.iconst 0, 1) := by decide +kernel
theorem r44_10 {E : Nat → Value} {d : Nat} {st : List Value} {h : gm_H} {r : gm_R × gm_H} {lv : List Value} : gm_Go E d 44 10 lv st h r ↔ gm_Go E d 44 11 lv (.int (0 : Int32) :: st) h r := gr_pure m44 f44_10 rfl
theorem f44_11 : gm_ft 44 11 = some (.invokestatic 92, 3) := by decide +kernel
theorem n44_11 {st : List Value} {h : gm_H} {E : Nat → Value} {lv : List Value} {b0 b1 : Value} (hs : (st.map fun v => v.category).sum ≤ 8) (he : (gm_en1 [b0, b1]).length ≤ 2) : gm_next E 44 11 lv (b1 :: b0 :: st) h = some (.inr (.inl (1, 4, [b0, b1], st))) := gn_call m44 f44_11 rfl rfl rfl rfl rfl rfl rfl (gc_stat (bs := [b1, b0]) (w := 406) rfl rfl rfl hs he) (by decide)
theorem f44_14 : gm_ft 44 14 = some (.istore_n 2, 1) := by decide +kernel
theorem r44_14 {E : Nat → Value} {d : Nat} {st : List Value} {h : gm_H} {r : gm_R × gm_H} {a0 a1 a2 a3 : Value} {x : Int32} : gm_Go E d 44 14 [a0, a1, a2, a3] (.int x :: st) h r ↔ gm_Go E d 44 15 [a0, gm_k a1, .int x, a3] st h r := gr_loc m44 f44_14 rfl rfl
theorem f44_15 : gm_ft 44 15 = some (.iload_n 3, 1) := by decide +kernel
theorem r44_15 {E : Nat → Value} {d : Nat} {st : List Value} {h : gm_H} {r : gm_R × gm_H} {a0 a1 a2 : Value} {x : Int32} : gm_Go E d 44 15 [a0, a1, a2, .int x] st h r ↔ gm_Go E d 44 16 [a0, a1, a2, .int x] (.int x :: st) h r := gr_loc m44 f44_15 rfl rfl
theorem f44_16 : gm_ft 44 16 = some (.aload_n 0, 1) := by decide +kernel
theorem r44_16 {E : Nat → Value} {d : Nat} {st : List Value} {h : gm_H} {r : gm_R × gm_H} {a1 a2 a3 : Value} {x : Nat} : gm_Go E d 44 16 [.ref x, a1, a2, a3] st h r ↔ gm_Go E d 44 17 [.ref x, a1, a2, a3] (.ref x :: st) h r := gr_loc m44 f44_16 rfl rfl
theorem r44_16n {E : Nat → Value} {d : Nat} {st : List Value} {h : gm_H} {r : gm_R × gm_H} {a1 a2 a3 : Value}  : gm_Go E d 44 16 [.null, a1, a2, a3] st h r ↔ gm_Go E d 44 17 [.null, a1, a2, a3] (.null :: st) h r := gr_loc m44 f44_16 rfl rfl
theorem f44_17 : gm_ft 44 17 = some (.arraylength, 1) := by decide +kernel
theorem r44_17 {E : Nat → Value} {d : Nat} {st : List Value} {h : gm_H} {r : gm_R × gm_H} {lv : List Value} {a k : Nat} {vs : List Value} (hr : gm_rd h a = some (k, vs)) (hk : 100 ≤ k) : gm_Go E d 44 17 lv (.ref a :: st) h r ↔ gm_Go E d 44 18 lv (.int (nI vs.length) :: st) h r := gr_rd m44 f44_17 rfl rfl rfl rfl (ga_len hr hk)
theorem f44_18 : gm_ft 44 18 = some (.invokestatic 38, 3) := by decide +kernel
theorem n44_18 {st : List Value} {h : gm_H} {E : Nat → Value} {lv : List Value} {b0 b1 : Value} (hs : (st.map fun v => v.category).sum ≤ 8) (he : (gm_en1 [b0, b1]).length ≤ 2) : gm_next E 44 18 lv (b1 :: b0 :: st) h = some (.inr (.inl (1, 3, [b0, b1], st))) := gn_call m44 f44_18 rfl rfl rfl rfl rfl rfl rfl (gc_stat (bs := [b1, b0]) (w := 407) rfl rfl rfl hs he) (by decide)
theorem f44_21 : gm_ft 44 21 = some (.istore_n 3, 1) := by decide +kernel
theorem r44_21 {E : Nat → Value} {d : Nat} {st : List Value} {h : gm_H} {r : gm_R × gm_H} {a0 a1 a2 a3 : Value} {x : Int32} : gm_Go E d 44 21 [a0, a1, a2, a3] (.int x :: st) h r ↔ gm_Go E d 44 22 [a0, a1, gm_k a2, .int x] st h r := gr_loc m44 f44_21 rfl rfl
theorem f44_22 : gm_ft 44 22 = some (.iload_n 2, 1) := by decide +kernel
theorem r44_22 {E : Nat → Value} {d : Nat} {st : List Value} {h : gm_H} {r : gm_R × gm_H} {a0 a1 a3 : Value} {x : Int32} : gm_Go E d 44 22 [a0, a1, .int x, a3] st h r ↔ gm_Go E d 44 23 [a0, a1, .int x, a3] (.int x :: st) h r := gr_loc m44 f44_22 rfl rfl
theorem f44_23 : gm_ft 44 23 = some (.iload_n 3, 1) := by decide +kernel
theorem r44_23 {E : Nat → Value} {d : Nat} {st : List Value} {h : gm_H} {r : gm_R × gm_H} {a0 a1 a2 : Value} {x : Int32} : gm_Go E d 44 23 [a0, a1, a2, .int x] st h r ↔ gm_Go E d 44 24 [a0, a1, a2, .int x] (.int x :: st) h r := gr_loc m44 f44_23 rfl rfl
theorem f44_24 : gm_ft 44 24 = some (.if_icmp .lt 5, 3) := by decide +kernel
theorem r44_24 {E : Nat → Value} {d : Nat} {st : List Value} {h : gm_H} {r : gm_R × gm_H} {lv : List Value} {x y : Int32} : gm_Go E d 44 24 lv (.int y :: .int x :: st) h r ↔ (if x < y then gm_Go E d 44 29 lv st h r else gm_Go E d 44 27 lv st h r) := (gr_br m44 f44_24 rfl rfl rfl rfl).trans gr_if
theorem f44_27 : gm_ft 44 27 = some (.iconst (-1), 1) := by decide +kernel
theorem r44_27 {E : Nat → Value} {d : Nat} {st : List Value} {h : gm_H} {r : gm_R × gm_H} {lv : List Value} : gm_Go E d 44 27 lv st h r ↔ gm_Go E d 44 28 lv (.int (-1 : Int32) :: st) h r := gr_pure m44 f44_27 rfl
theorem f44_28 : gm_ft 44 28 = some (.ireturn, 1) := by decide +kernel
theorem r44_28 {E : Nat → Value} {d : Nat} {h : gm_H} {r : gm_R × gm_H} {lv : List Value} {x : Int32} : gm_Go E d 44 28 lv [.int x] h r ↔ r = (.inl (some (.int x)), h) := gr_ret m44 f44_28 rfl rfl rfl rfl rfl rfl rfl rfl (by unfold gm_rt; dsimp only; rw [if_pos ⟨rfl, rfl⟩])
theorem f44_29 : gm_ft 44 29 = some (.aload_n 0, 1) := by decide +kernel
theorem r44_29 {E : Nat → Value} {d : Nat} {st : List Value} {h : gm_H} {r : gm_R × gm_H} {a1 a2 a3 : Value} {x : Nat} : gm_Go E d 44 29 [.ref x, a1, a2, a3] st h r ↔ gm_Go E d 44 30 [.ref x, a1, a2, a3] (.ref x :: st) h r := gr_loc m44 f44_29 rfl rfl
theorem r44_29n {E : Nat → Value} {d : Nat} {st : List Value} {h : gm_H} {r : gm_R × gm_H} {a1 a2 a3 : Value}  : gm_Go E d 44 29 [.null, a1, a2, a3] st h r ↔ gm_Go E d 44 30 [.null, a1, a2, a3] (.null :: st) h r := gr_loc m44 f44_29 rfl rfl
theorem f44_30 : gm_ft 44 30 = some (.iload_n 1, 1) := by decide +kernel
theorem r44_30 {E : Nat → Value} {d : Nat} {st : List Value} {h : gm_H} {r : gm_R × gm_H} {a0 a2 a3 : Value} {x : Int32} : gm_Go E d 44 30 [a0, .int x, a2, a3] st h r ↔ gm_Go E d 44 31 [a0, .int x, a2, a3] (.int x :: st) h r := gr_loc m44 f44_30 rfl rfl
theorem f44_31 : gm_ft 44 31 = some (.iload_n 2, 1) := by decide +kernel
theorem r44_31 {E : Nat → Value} {d : Nat} {st : List Value} {h : gm_H} {r : gm_R × gm_H} {a0 a1 a3 : Value} {x : Int32} : gm_Go E d 44 31 [a0, a1, .int x, a3] st h r ↔ gm_Go E d 44 32 [a0, a1, .int x, a3] (.int x :: st) h r := gr_loc m44 f44_31 rfl rfl
theorem f44_32 : gm_ft 44 32 = some (.iload_n 3, 1) := by decide +kernel
theorem r44_32 {E : Nat → Value} {d : Nat} {st : List Value} {h : gm_H} {r : gm_R × gm_H} {a0 a1 a2 : Value} {x : Int32} : gm_Go E d 44 32 [a0, a1, a2, .int x] st h r ↔ gm_Go E d 44 33 [a0, a1, a2, .int x] (.int x :: st) h r := gr_loc m44 f44_32 rfl rfl
theorem f44_33 : gm_ft 44 33 = some (.invokestatic 95, 3) := by decide +kernel
theorem n44_33 {st : List Value} {h : gm_H} {E : Nat → Value} {lv : List Value} {b0 b1 b2 b3 : Value} (hs : (st.map fun v => v.category).sum ≤ 8) (he : (gm_en1 [b0, b1, b2, b3]).length ≤ 6) : gm_next E 44 33 lv (b3 :: b2 :: b1 :: b0 :: st) h = some (.inr (.inl (1, 46, [b0, b1, b2, b3], st))) := gn_call m44 f44_33 rfl rfl rfl rfl rfl rfl rfl (gc_stat (bs := [b3, b2, b1, b0]) (w := 408) rfl rfl rfl hs he) (by decide)
theorem f44_36 : gm_ft 44 36 = some (.ireturn, 1) := by decide +kernel
theorem r44_36 {E : Nat → Value} {d : Nat} {h : gm_H} {r : gm_R × gm_H} {lv : List Value} {x : Int32} : gm_Go E d 44 36 lv [.int x] h r ↔ r = (.inl (some (.int x)), h) := gr_ret m44 f44_36 rfl rfl rfl rfl rfl rfl rfl rfl (by unfold gm_rt; dsimp only; rw [if_pos ⟨rfl, rfl⟩])
/-! java/lang/StringLatin1.canEncode(I)Z -/
theorem m45 : gm_mt[45]? = some (⟨"java/lang/StringLatin1", "canEncode", "(I)Z"⟩, prog_14_method_4_code, 1, (some .boolean), [], 9, 3) := rfl
theorem f45_0 : gm_ft 45 0 = some (.iload_n 0, 1) := by decide +kernel
theorem r45_0 {E : Nat → Value} {d : Nat} {st : List Value} {h : gm_H} {r : gm_R × gm_H}  {x : Int32} : gm_Go E d 45 0 [.int x] st h r ↔ gm_Go E d 45 1 [.int x] (.int x :: st) h r := gr_loc m45 f45_0 rfl rfl
theorem f45_1 : gm_ft 45 1 = some (.ifCond .lt 14, 3) := by decide +kernel
theorem r45_1 {E : Nat → Value} {d : Nat} {st : List Value} {h : gm_H} {r : gm_R × gm_H} {lv : List Value} {x : Int32} : gm_Go E d 45 1 lv (.int x :: st) h r ↔ (if x < 0 then gm_Go E d 45 15 lv st h r else gm_Go E d 45 4 lv st h r) := (gr_br m45 f45_1 rfl rfl rfl rfl).trans gr_if
theorem f45_4 : gm_ft 45 4 = some (.iload_n 0, 1) := by decide +kernel
theorem r45_4 {E : Nat → Value} {d : Nat} {st : List Value} {h : gm_H} {r : gm_R × gm_H}  {x : Int32} : gm_Go E d 45 4 [.int x] st h r ↔ gm_Go E d 45 5 [.int x] (.int x :: st) h r := gr_loc m45 f45_4 rfl rfl
theorem f45_5 : gm_ft 45 5 = some (.sipush 255, 3) := by decide +kernel
theorem r45_5 {E : Nat → Value} {d : Nat} {st : List Value} {h : gm_H} {r : gm_R × gm_H} {lv : List Value} : gm_Go E d 45 5 lv st h r ↔ gm_Go E d 45 8 lv (.int (255 : Int32) :: st) h r := gr_pure m45 f45_5 rfl
theorem f45_8 : gm_ft 45 8 = some (.if_icmp .gt 7, 3) := by decide +kernel
theorem r45_8 {E : Nat → Value} {d : Nat} {st : List Value} {h : gm_H} {r : gm_R × gm_H} {lv : List Value} {x y : Int32} : gm_Go E d 45 8 lv (.int y :: .int x :: st) h r ↔ (if y < x then gm_Go E d 45 15 lv st h r else gm_Go E d 45 11 lv st h r) := (gr_br m45 f45_8 rfl rfl rfl rfl).trans gr_if
theorem f45_11 : gm_ft 45 11 = some (.iconst 1, 1) := by decide +kernel
theorem r45_11 {E : Nat → Value} {d : Nat} {st : List Value} {h : gm_H} {r : gm_R × gm_H} {lv : List Value} : gm_Go E d 45 11 lv st h r ↔ gm_Go E d 45 12 lv (.int (1 : Int32) :: st) h r := gr_pure m45 f45_11 rfl
theorem f45_12 : gm_ft 45 12 = some (.goto 4, 3) := by decide +kernel
theorem r45_12 {E : Nat → Value} {d : Nat} {st : List Value} {h : gm_H} {r : gm_R × gm_H} {lv : List Value} : gm_Go E d 45 12 lv st h r ↔ gm_Go E d 45 16 lv st h r := gr_brT m45 f45_12 rfl rfl rfl rfl
theorem f45_15 : gm_ft 45 15 = some (.iconst 0, 1) := by decide +kernel
theorem r45_15 {E : Nat → Value} {d : Nat} {st : List Value} {h : gm_H} {r : gm_R × gm_H} {lv : List Value} : gm_Go E d 45 15 lv st h r ↔ gm_Go E d 45 16 lv (.int (0 : Int32) :: st) h r := gr_pure m45 f45_15 rfl
theorem f45_16 : gm_ft 45 16 = some (.ireturn, 1) := by decide +kernel
theorem r45_16_0 {E : Nat → Value} {d : Nat} {h : gm_H} {r : gm_R × gm_H} {lv : List Value} : gm_Go E d 45 16 lv [.int (0 : Int32)] h r ↔ r = (.inl (some (.int (0 : Int32))), h) := gr_ret m45 f45_16 rfl rfl rfl rfl rfl rfl rfl rfl (by unfold gm_rt; dsimp only; rw [if_pos ⟨rfl, rfl⟩])
theorem r45_16_1 {E : Nat → Value} {d : Nat} {h : gm_H} {r : gm_R × gm_H} {lv : List Value} : gm_Go E d 45 16 lv [.int (1 : Int32)] h r ↔ r = (.inl (some (.int (1 : Int32))), h) := gr_ret m45 f45_16 rfl rfl rfl rfl rfl rfl rfl rfl (by unfold gm_rt; dsimp only; rw [if_pos ⟨rfl, rfl⟩])
