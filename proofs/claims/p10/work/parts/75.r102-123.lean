/-! GraphReader$Descriptor.<init>(IIJ)V -/
theorem m102 : gm_mt[102]? = some (⟨"GraphReader$Descriptor", "<init>", "(IIJ)V"⟩, prog_2_method_1_code, 5, none, [], 1, 1) := rfl
theorem f102_0 : gm_ft 102 0 = some (.aload_n 0, 1) := by decide +kernel
theorem r102_0 {E : Nat → Value} {d : Nat} {st : List Value} {h : gm_H} {Q : gm_R → gm_H → Prop} {a1 a2 a3 a4 : Value} {x : Nat} : gm_W E d 102 0 [.ref x, a1, a2, a3, a4] st h Q ↔ gm_W E d 102 1 [.ref x, a1, a2, a3, a4] (.ref x :: st) h Q := gw_loc m102 f102_0 rfl rfl
theorem r102_0n {E : Nat → Value} {d : Nat} {st : List Value} {h : gm_H} {Q : gm_R → gm_H → Prop} {a1 a2 a3 a4 : Value}  : gm_W E d 102 0 [.null, a1, a2, a3, a4] st h Q ↔ gm_W E d 102 1 [.null, a1, a2, a3, a4] (.null :: st) h Q := gw_loc m102 f102_0 rfl rfl
theorem f102_1 : gm_ft 102 1 = some (.invokespecial 3, 3) := by decide +kernel
theorem r102_1 {E : Nat → Value} {d : Nat} {st : List Value} {h : gm_H} {Q : gm_R → gm_H → Prop} {lv : List Value} {a : Nat} (hs : (st.map fun v => v.category).sum ≤ 8) : gm_W E d 102 1 lv (.ref a :: st) h Q ↔ gm_W E d 102 4 lv st h Q := gw_oi m102 f102_1 rfl rfl rfl rfl rfl rfl rfl (gc_spec (w := 308) rfl hs (by decide))
theorem f102_4 : gm_ft 102 4 = some (.aload_n 0, 1) := by decide +kernel
theorem r102_4 {E : Nat → Value} {d : Nat} {st : List Value} {h : gm_H} {Q : gm_R → gm_H → Prop} {a1 a2 a3 a4 : Value} {x : Nat} : gm_W E d 102 4 [.ref x, a1, a2, a3, a4] st h Q ↔ gm_W E d 102 5 [.ref x, a1, a2, a3, a4] (.ref x :: st) h Q := gw_loc m102 f102_4 rfl rfl
theorem r102_4n {E : Nat → Value} {d : Nat} {st : List Value} {h : gm_H} {Q : gm_R → gm_H → Prop} {a1 a2 a3 a4 : Value}  : gm_W E d 102 4 [.null, a1, a2, a3, a4] st h Q ↔ gm_W E d 102 5 [.null, a1, a2, a3, a4] (.null :: st) h Q := gw_loc m102 f102_4 rfl rfl
theorem f102_5 : gm_ft 102 5 = some (.iload_n 1, 1) := by decide +kernel
theorem r102_5 {E : Nat → Value} {d : Nat} {st : List Value} {h : gm_H} {Q : gm_R → gm_H → Prop} {a0 a2 a3 a4 : Value} {x : Int32} : gm_W E d 102 5 [a0, .int x, a2, a3, a4] st h Q ↔ gm_W E d 102 6 [a0, .int x, a2, a3, a4] (.int x :: st) h Q := gw_loc m102 f102_5 rfl rfl
theorem f102_6 : gm_ft 102 6 = some (.putfield 9, 3) := by decide +kernel
theorem r102_6 {E : Nat → Value} {d : Nat} {st : List Value} {h : gm_H} {Q : gm_R → gm_H → Prop} {lv : List Value} {a : Nat} {x : Int32} (hk : gm_kd h a = 1) : gm_W E d 102 6 lv (.int x :: .ref a :: st) h Q ↔ gm_W E d 102 9 lv st (gm_sf h a 0 (.int x)) Q := gw_wr m102 f102_6 rfl rfl rfl rfl rfl (gs_put k1_9 hk (by decide) (by decide) ⟨rfl, rfl⟩ (by decide))
theorem f102_9 : gm_ft 102 9 = some (.aload_n 0, 1) := by decide +kernel
theorem r102_9 {E : Nat → Value} {d : Nat} {st : List Value} {h : gm_H} {Q : gm_R → gm_H → Prop} {a1 a2 a3 a4 : Value} {x : Nat} : gm_W E d 102 9 [.ref x, a1, a2, a3, a4] st h Q ↔ gm_W E d 102 10 [.ref x, a1, a2, a3, a4] (.ref x :: st) h Q := gw_loc m102 f102_9 rfl rfl
theorem r102_9n {E : Nat → Value} {d : Nat} {st : List Value} {h : gm_H} {Q : gm_R → gm_H → Prop} {a1 a2 a3 a4 : Value}  : gm_W E d 102 9 [.null, a1, a2, a3, a4] st h Q ↔ gm_W E d 102 10 [.null, a1, a2, a3, a4] (.null :: st) h Q := gw_loc m102 f102_9 rfl rfl
theorem f102_10 : gm_ft 102 10 = some (.iload_n 2, 1) := by decide +kernel
theorem r102_10 {E : Nat → Value} {d : Nat} {st : List Value} {h : gm_H} {Q : gm_R → gm_H → Prop} {a0 a1 a3 a4 : Value} {x : Int32} : gm_W E d 102 10 [a0, a1, .int x, a3, a4] st h Q ↔ gm_W E d 102 11 [a0, a1, .int x, a3, a4] (.int x :: st) h Q := gw_loc m102 f102_10 rfl rfl
theorem f102_11 : gm_ft 102 11 = some (.putfield 15, 3) := by decide +kernel
theorem r102_11 {E : Nat → Value} {d : Nat} {st : List Value} {h : gm_H} {Q : gm_R → gm_H → Prop} {lv : List Value} {a : Nat} {x : Int32} (hk : gm_kd h a = 1) : gm_W E d 102 11 lv (.int x :: .ref a :: st) h Q ↔ gm_W E d 102 14 lv st (gm_sf h a 1 (.int x)) Q := gw_wr m102 f102_11 rfl rfl rfl rfl rfl (gs_put k1_15 hk (by decide) (by decide) ⟨rfl, rfl⟩ (by decide))
theorem f102_14 : gm_ft 102 14 = some (.aload_n 0, 1) := by decide +kernel
theorem r102_14 {E : Nat → Value} {d : Nat} {st : List Value} {h : gm_H} {Q : gm_R → gm_H → Prop} {a1 a2 a3 a4 : Value} {x : Nat} : gm_W E d 102 14 [.ref x, a1, a2, a3, a4] st h Q ↔ gm_W E d 102 15 [.ref x, a1, a2, a3, a4] (.ref x :: st) h Q := gw_loc m102 f102_14 rfl rfl
theorem r102_14n {E : Nat → Value} {d : Nat} {st : List Value} {h : gm_H} {Q : gm_R → gm_H → Prop} {a1 a2 a3 a4 : Value}  : gm_W E d 102 14 [.null, a1, a2, a3, a4] st h Q ↔ gm_W E d 102 15 [.null, a1, a2, a3, a4] (.null :: st) h Q := gw_loc m102 f102_14 rfl rfl
theorem f102_15 : gm_ft 102 15 = some (.lload_n 3, 1) := by decide +kernel
theorem r102_15 {E : Nat → Value} {d : Nat} {st : List Value} {h : gm_H} {Q : gm_R → gm_H → Prop} {a0 a1 a2 a4 : Value} {x : Int64} : gm_W E d 102 15 [a0, a1, a2, .long x, a4] st h Q ↔ gm_W E d 102 16 [a0, a1, a2, .long x, a4] (.long x :: st) h Q := gw_loc m102 f102_15 rfl rfl
theorem f102_16 : gm_ft 102 16 = some (.putfield 18, 3) := by decide +kernel
theorem r102_16 {E : Nat → Value} {d : Nat} {st : List Value} {h : gm_H} {Q : gm_R → gm_H → Prop} {lv : List Value} {a : Nat} {x : Int64} (hk : gm_kd h a = 1) : gm_W E d 102 16 lv (.long x :: .ref a :: st) h Q ↔ gm_W E d 102 19 lv st (gm_sf h a 2 (.long x)) Q := gw_wr m102 f102_16 rfl rfl rfl rfl rfl (gs_put k1_18 hk (by decide) (by decide) ⟨rfl, rfl⟩ (by decide))
theorem f102_19 : gm_ft 102 19 = some (.return_, 1) := by decide +kernel
theorem r102_19 {E : Nat → Value} {d : Nat} {h : gm_H} {Q : gm_R → gm_H → Prop} {lv : List Value} : gm_W E d 102 19 lv [] h Q ↔ Q (.inl none) h := gw_ret m102 f102_19 rfl rfl rfl rfl rfl rfl rfl rfl rfl
/-! GraphReader$Descriptor.has(I)Z -/
theorem m103 : gm_mt[103]? = some (⟨"GraphReader$Descriptor", "has", "(I)Z"⟩, prog_2_method_2_code, 2, (some .boolean), [], 1, 1) := rfl
theorem f103_0 : gm_ft 103 0 = some (.aload_n 0, 1) := by decide +kernel
theorem r103_0 {E : Nat → Value} {d : Nat} {st : List Value} {h : gm_H} {Q : gm_R → gm_H → Prop} {a1 : Value} {x : Nat} : gm_W E d 103 0 [.ref x, a1] st h Q ↔ gm_W E d 103 1 [.ref x, a1] (.ref x :: st) h Q := gw_loc m103 f103_0 rfl rfl
theorem r103_0n {E : Nat → Value} {d : Nat} {st : List Value} {h : gm_H} {Q : gm_R → gm_H → Prop} {a1 : Value}  : gm_W E d 103 0 [.null, a1] st h Q ↔ gm_W E d 103 1 [.null, a1] (.null :: st) h Q := gw_loc m103 f103_0 rfl rfl
theorem f103_1 : gm_ft 103 1 = some (.getfield 22, 3) := by decide +kernel
theorem r103_1 {E : Nat → Value} {d : Nat} {st : List Value} {h : gm_H} {Q : gm_R → gm_H → Prop} {lv : List Value} {a : Nat} (hk : gm_kd h a = 1) : gm_W E d 103 1 lv (.ref a :: st) h Q ↔ gm_W E d 103 4 lv (gm_fv h a 3 :: st) h Q := gw_rd m103 f103_1 rfl rfl rfl rfl (gs_get k1_22 hk (by decide))
theorem f103_4 : gm_ft 103 4 = some (.iload_n 1, 1) := by decide +kernel
theorem r103_4 {E : Nat → Value} {d : Nat} {st : List Value} {h : gm_H} {Q : gm_R → gm_H → Prop} {a0 : Value} {x : Int32} : gm_W E d 103 4 [a0, .int x] st h Q ↔ gm_W E d 103 5 [a0, .int x] (.int x :: st) h Q := gw_loc m103 f103_4 rfl rfl
theorem f103_5 : gm_ft 103 5 = some (.iand, 1) := by decide +kernel
theorem r103_5 {E : Nat → Value} {d : Nat} {st : List Value} {h : gm_H} {Q : gm_R → gm_H → Prop} {lv : List Value} {x y : Int32} : gm_W E d 103 5 lv (.int y :: .int x :: st) h Q ↔ gm_W E d 103 6 lv (.int (x &&& y) :: st) h Q := gw_pure m103 f103_5 rfl
theorem f103_6 : gm_ft 103 6 = some (.ifCond .eq 7, 3) := by decide +kernel
theorem r103_6 {E : Nat → Value} {d : Nat} {st : List Value} {h : gm_H} {Q : gm_R → gm_H → Prop} {lv : List Value} {x : Int32} : gm_W E d 103 6 lv (.int x :: st) h Q ↔ (if x = 0 then gm_W E d 103 13 lv st h Q else gm_W E d 103 9 lv st h Q) := (gw_br m103 f103_6 rfl rfl rfl rfl).trans gw_if
theorem f103_9 : gm_ft 103 9 = some (.iconst 1, 1) := by decide +kernel
theorem r103_9 {E : Nat → Value} {d : Nat} {st : List Value} {h : gm_H} {Q : gm_R → gm_H → Prop} {lv : List Value} : gm_W E d 103 9 lv st h Q ↔ gm_W E d 103 10 lv (.int (1 : Int32) :: st) h Q := gw_pure m103 f103_9 rfl
theorem f103_10 : gm_ft 103 10 = some (.goto 4, 3) := by decide +kernel
theorem r103_10 {E : Nat → Value} {d : Nat} {st : List Value} {h : gm_H} {Q : gm_R → gm_H → Prop} {lv : List Value} : gm_W E d 103 10 lv st h Q ↔ gm_W E d 103 14 lv st h Q := gw_brT m103 f103_10 rfl rfl rfl rfl
theorem f103_13 : gm_ft 103 13 = some (.iconst 0, 1) := by decide +kernel
theorem r103_13 {E : Nat → Value} {d : Nat} {st : List Value} {h : gm_H} {Q : gm_R → gm_H → Prop} {lv : List Value} : gm_W E d 103 13 lv st h Q ↔ gm_W E d 103 14 lv (.int (0 : Int32) :: st) h Q := gw_pure m103 f103_13 rfl
theorem f103_14 : gm_ft 103 14 = some (.ireturn, 1) := by decide +kernel
theorem r103_14 {E : Nat → Value} {d : Nat} {h : gm_H} {Q : gm_R → gm_H → Prop} {lv : List Value} {x : Int32} (hx : x = 0 ∨ x = 1) : gm_W E d 103 14 lv [.int x] h Q ↔ Q (.inl (some (.int x))) h := gw_ret m103 f103_14 rfl rfl rfl rfl rfl rfl rfl rfl (by unfold gm_rt; dsimp only; rw [if_pos ⟨rfl, (gs_nb hx).1⟩])
/-! GraphReader$Descriptor.isConstant()Z -/
theorem m104 : gm_mt[104]? = some (⟨"GraphReader$Descriptor", "isConstant", "()Z"⟩, prog_2_method_3_code, 1, (some .boolean), [], 1, 1) := rfl
theorem f104_0 : gm_ft 104 0 = some (.aload_n 0, 1) := by decide +kernel
theorem r104_0 {E : Nat → Value} {d : Nat} {st : List Value} {h : gm_H} {Q : gm_R → gm_H → Prop}  {x : Nat} : gm_W E d 104 0 [.ref x] st h Q ↔ gm_W E d 104 1 [.ref x] (.ref x :: st) h Q := gw_loc m104 f104_0 rfl rfl
theorem r104_0n {E : Nat → Value} {d : Nat} {st : List Value} {h : gm_H} {Q : gm_R → gm_H → Prop}   : gm_W E d 104 0 [.null] st h Q ↔ gm_W E d 104 1 [.null] (.null :: st) h Q := gw_loc m104 f104_0 rfl rfl
theorem f104_1 : gm_ft 104 1 = some (.bipush 16, 2) := by decide +kernel
theorem r104_1 {E : Nat → Value} {d : Nat} {st : List Value} {h : gm_H} {Q : gm_R → gm_H → Prop} {lv : List Value} : gm_W E d 104 1 lv st h Q ↔ gm_W E d 104 3 lv (.int (16 : Int32) :: st) h Q := gw_pure m104 f104_1 rfl
theorem f104_3 : gm_ft 104 3 = some (.invokevirtual 25, 3) := by decide +kernel
theorem c104_3 {E : Nat → Value} {d : Nat} {st : List Value} {h : gm_H} {Q : gm_R → gm_H → Prop} {lv : List Value} {b0 : Int32} {a : Nat} {Qc : gm_R → gm_H → Prop} (hs : (st.map fun v => v.category).sum ≤ 8) (hr : gm_kd h a = 1) (hd : 1 ≤ d) (hc : gm_Ca E (d - 1) 103 [.ref a, .int b0] h Qc) (kn : ∀ (v9 : Option Value) (h9 : gm_H), Qc (.inl v9) h9 → gm_W E d 104 6 lv (v9.toList ++ st) h9 Q) (kx : ∀ (x9 : Nat) (h9 : gm_H), Qc (.inr x9) h9 → Q (.inr x9) h9) : gm_W E d 104 3 lv (.int b0 :: .ref a :: st) h Q := gw_call (gn_call m104 f104_3 rfl rfl rfl rfl rfl rfl rfl (gs_virt (bs := [.int b0]) (w := 368) (L := 2) rfl rfl rfl rfl hs (by simp [gm_en1]) hr (by decide)) (by decide)) m104 rfl rfl hd hc kn kx
theorem f104_6 : gm_ft 104 6 = some (.ireturn, 1) := by decide +kernel
theorem r104_6 {E : Nat → Value} {d : Nat} {h : gm_H} {Q : gm_R → gm_H → Prop} {lv : List Value} {x : Int32} (hx : x = 0 ∨ x = 1) : gm_W E d 104 6 lv [.int x] h Q ↔ Q (.inl (some (.int x))) h := gw_ret m104 f104_6 rfl rfl rfl rfl rfl rfl rfl rfl (by unfold gm_rt; dsimp only; rw [if_pos ⟨rfl, (gs_nb hx).1⟩])
/-! GraphReader$Descriptor.makeFields(I)V -/
theorem m105 : gm_mt[105]? = some (⟨"GraphReader$Descriptor", "makeFields", "(I)V"⟩, prog_2_method_4_code, 2, none, [], 1, 1) := rfl
theorem f105_0 : gm_ft 105 0 = some (.aload_n 0, 1) := by decide +kernel
theorem r105_0 {E : Nat → Value} {d : Nat} {st : List Value} {h : gm_H} {Q : gm_R → gm_H → Prop} {a1 : Value} {x : Nat} : gm_W E d 105 0 [.ref x, a1] st h Q ↔ gm_W E d 105 1 [.ref x, a1] (.ref x :: st) h Q := gw_loc m105 f105_0 rfl rfl
theorem r105_0n {E : Nat → Value} {d : Nat} {st : List Value} {h : gm_H} {Q : gm_R → gm_H → Prop} {a1 : Value}  : gm_W E d 105 0 [.null, a1] st h Q ↔ gm_W E d 105 1 [.null, a1] (.null :: st) h Q := gw_loc m105 f105_0 rfl rfl
theorem f105_1 : gm_ft 105 1 = some (.iload_n 1, 1) := by decide +kernel
theorem r105_1 {E : Nat → Value} {d : Nat} {st : List Value} {h : gm_H} {Q : gm_R → gm_H → Prop} {a0 : Value} {x : Int32} : gm_W E d 105 1 [a0, .int x] st h Q ↔ gm_W E d 105 2 [a0, .int x] (.int x :: st) h Q := gw_loc m105 f105_1 rfl rfl
theorem f105_2 : gm_ft 105 2 = some (.putfield 29, 3) := by decide +kernel
theorem r105_2 {E : Nat → Value} {d : Nat} {st : List Value} {h : gm_H} {Q : gm_R → gm_H → Prop} {lv : List Value} {a : Nat} {x : Int32} (hk : gm_kd h a = 1) : gm_W E d 105 2 lv (.int x :: .ref a :: st) h Q ↔ gm_W E d 105 5 lv st (gm_sf h a 4 (.int x)) Q := gw_wr m105 f105_2 rfl rfl rfl rfl rfl (gs_put k1_29 hk (by decide) (by decide) ⟨rfl, rfl⟩ (by decide))
theorem f105_5 : gm_ft 105 5 = some (.aload_n 0, 1) := by decide +kernel
theorem r105_5 {E : Nat → Value} {d : Nat} {st : List Value} {h : gm_H} {Q : gm_R → gm_H → Prop} {a1 : Value} {x : Nat} : gm_W E d 105 5 [.ref x, a1] st h Q ↔ gm_W E d 105 6 [.ref x, a1] (.ref x :: st) h Q := gw_loc m105 f105_5 rfl rfl
theorem r105_5n {E : Nat → Value} {d : Nat} {st : List Value} {h : gm_H} {Q : gm_R → gm_H → Prop} {a1 : Value}  : gm_W E d 105 5 [.null, a1] st h Q ↔ gm_W E d 105 6 [.null, a1] (.null :: st) h Q := gw_loc m105 f105_5 rfl rfl
theorem f105_6 : gm_ft 105 6 = some (.iload_n 1, 1) := by decide +kernel
theorem r105_6 {E : Nat → Value} {d : Nat} {st : List Value} {h : gm_H} {Q : gm_R → gm_H → Prop} {a0 : Value} {x : Int32} : gm_W E d 105 6 [a0, .int x] st h Q ↔ gm_W E d 105 7 [a0, .int x] (.int x :: st) h Q := gw_loc m105 f105_6 rfl rfl
theorem f105_7 : gm_ft 105 7 = some (.newarray .int, 2) := by decide +kernel
theorem r105_7 {E : Nat → Value} {d : Nat} {st : List Value} {h : gm_H} {Q : gm_R → gm_H → Prop} {lv : List Value} {n : Nat} (hn : n ≤ 60000000) : gm_W E d 105 7 lv (.int (nI n) :: st) h Q ↔ gm_W E d 105 9 lv (.ref h.1 :: st) (gm_nw h (100, List.replicate n (.int 0)) n) Q := gw_nw m105 f105_7 rfl rfl rfl rfl rfl rfl (gs_new (q := 0) rfl hn (by decide))
theorem f105_9 : gm_ft 105 9 = some (.putfield 32, 3) := by decide +kernel
theorem r105_9 {E : Nat → Value} {d : Nat} {st : List Value} {h : gm_H} {Q : gm_R → gm_H → Prop} {lv : List Value} {a : Nat} {b : Nat} (hk : gm_kd h a = 1) : gm_W E d 105 9 lv (.ref b :: .ref a :: st) h Q ↔ gm_W E d 105 12 lv st (gm_sf h a 5 (.ref b)) Q := gw_wr m105 f105_9 rfl rfl rfl rfl rfl (gs_put k1_32 hk (by decide) (by decide) ⟨rfl, rfl⟩ (by decide))
theorem r105_9n {E : Nat → Value} {d : Nat} {st : List Value} {h : gm_H} {Q : gm_R → gm_H → Prop} {lv : List Value} {a : Nat} (hk : gm_kd h a = 1) : gm_W E d 105 9 lv (.null :: .ref a :: st) h Q ↔ gm_W E d 105 12 lv st (gm_sf h a 5 (.null)) Q := gw_wr m105 f105_9 rfl rfl rfl rfl rfl (gs_put k1_32 hk (by decide) (by decide) ⟨rfl, rfl⟩ (by decide))
theorem f105_12 : gm_ft 105 12 = some (.aload_n 0, 1) := by decide +kernel
theorem r105_12 {E : Nat → Value} {d : Nat} {st : List Value} {h : gm_H} {Q : gm_R → gm_H → Prop} {a1 : Value} {x : Nat} : gm_W E d 105 12 [.ref x, a1] st h Q ↔ gm_W E d 105 13 [.ref x, a1] (.ref x :: st) h Q := gw_loc m105 f105_12 rfl rfl
theorem r105_12n {E : Nat → Value} {d : Nat} {st : List Value} {h : gm_H} {Q : gm_R → gm_H → Prop} {a1 : Value}  : gm_W E d 105 12 [.null, a1] st h Q ↔ gm_W E d 105 13 [.null, a1] (.null :: st) h Q := gw_loc m105 f105_12 rfl rfl
theorem f105_13 : gm_ft 105 13 = some (.iload_n 1, 1) := by decide +kernel
theorem r105_13 {E : Nat → Value} {d : Nat} {st : List Value} {h : gm_H} {Q : gm_R → gm_H → Prop} {a0 : Value} {x : Int32} : gm_W E d 105 13 [a0, .int x] st h Q ↔ gm_W E d 105 14 [a0, .int x] (.int x :: st) h Q := gw_loc m105 f105_13 rfl rfl
theorem f105_14 : gm_ft 105 14 = some (.newarray .int, 2) := by decide +kernel
theorem r105_14 {E : Nat → Value} {d : Nat} {st : List Value} {h : gm_H} {Q : gm_R → gm_H → Prop} {lv : List Value} {n : Nat} (hn : n ≤ 60000000) : gm_W E d 105 14 lv (.int (nI n) :: st) h Q ↔ gm_W E d 105 16 lv (.ref h.1 :: st) (gm_nw h (100, List.replicate n (.int 0)) n) Q := gw_nw m105 f105_14 rfl rfl rfl rfl rfl rfl (gs_new (q := 0) rfl hn (by decide))
theorem f105_16 : gm_ft 105 16 = some (.putfield 36, 3) := by decide +kernel
theorem r105_16 {E : Nat → Value} {d : Nat} {st : List Value} {h : gm_H} {Q : gm_R → gm_H → Prop} {lv : List Value} {a : Nat} {b : Nat} (hk : gm_kd h a = 1) : gm_W E d 105 16 lv (.ref b :: .ref a :: st) h Q ↔ gm_W E d 105 19 lv st (gm_sf h a 6 (.ref b)) Q := gw_wr m105 f105_16 rfl rfl rfl rfl rfl (gs_put k1_36 hk (by decide) (by decide) ⟨rfl, rfl⟩ (by decide))
theorem r105_16n {E : Nat → Value} {d : Nat} {st : List Value} {h : gm_H} {Q : gm_R → gm_H → Prop} {lv : List Value} {a : Nat} (hk : gm_kd h a = 1) : gm_W E d 105 16 lv (.null :: .ref a :: st) h Q ↔ gm_W E d 105 19 lv st (gm_sf h a 6 (.null)) Q := gw_wr m105 f105_16 rfl rfl rfl rfl rfl (gs_put k1_36 hk (by decide) (by decide) ⟨rfl, rfl⟩ (by decide))
theorem f105_19 : gm_ft 105 19 = some (.return_, 1) := by decide +kernel
theorem r105_19 {E : Nat → Value} {d : Nat} {h : gm_H} {Q : gm_R → gm_H → Prop} {lv : List Value} : gm_W E d 105 19 lv [] h Q ↔ Q (.inl none) h := gw_ret m105 f105_19 rfl rfl rfl rfl rfl rfl rfl rfl rfl
/-! GraphReader$Descriptor.putUnder(LGraphReader$Descriptor;)V -/
theorem m106 : gm_mt[106]? = some (⟨"GraphReader$Descriptor", "putUnder", "(LGraphReader$Descriptor;)V"⟩, prog_2_method_5_code, 2, none, [], 1, 1) := rfl
theorem f106_0 : gm_ft 106 0 = some (.aload_n 0, 1) := by decide +kernel
theorem r106_0 {E : Nat → Value} {d : Nat} {st : List Value} {h : gm_H} {Q : gm_R → gm_H → Prop} {a1 : Value} {x : Nat} : gm_W E d 106 0 [.ref x, a1] st h Q ↔ gm_W E d 106 1 [.ref x, a1] (.ref x :: st) h Q := gw_loc m106 f106_0 rfl rfl
theorem r106_0n {E : Nat → Value} {d : Nat} {st : List Value} {h : gm_H} {Q : gm_R → gm_H → Prop} {a1 : Value}  : gm_W E d 106 0 [.null, a1] st h Q ↔ gm_W E d 106 1 [.null, a1] (.null :: st) h Q := gw_loc m106 f106_0 rfl rfl
theorem f106_1 : gm_ft 106 1 = some (.aload_n 1, 1) := by decide +kernel
theorem r106_1 {E : Nat → Value} {d : Nat} {st : List Value} {h : gm_H} {Q : gm_R → gm_H → Prop} {a0 : Value} {x : Nat} : gm_W E d 106 1 [a0, .ref x] st h Q ↔ gm_W E d 106 2 [a0, .ref x] (.ref x :: st) h Q := gw_loc m106 f106_1 rfl rfl
theorem r106_1n {E : Nat → Value} {d : Nat} {st : List Value} {h : gm_H} {Q : gm_R → gm_H → Prop} {a0 : Value}  : gm_W E d 106 1 [a0, .null] st h Q ↔ gm_W E d 106 2 [a0, .null] (.null :: st) h Q := gw_loc m106 f106_1 rfl rfl
theorem f106_2 : gm_ft 106 2 = some (.putfield 39, 3) := by decide +kernel
theorem r106_2 {E : Nat → Value} {d : Nat} {st : List Value} {h : gm_H} {Q : gm_R → gm_H → Prop} {lv : List Value} {a : Nat} {b : Nat} (hk : gm_kd h a = 1) : gm_W E d 106 2 lv (.ref b :: .ref a :: st) h Q ↔ gm_W E d 106 5 lv st (gm_sf h a 7 (.ref b)) Q := gw_wr m106 f106_2 rfl rfl rfl rfl rfl (gs_put k1_39 hk (by decide) (by decide) ⟨rfl, rfl⟩ (by decide))
theorem r106_2n {E : Nat → Value} {d : Nat} {st : List Value} {h : gm_H} {Q : gm_R → gm_H → Prop} {lv : List Value} {a : Nat} (hk : gm_kd h a = 1) : gm_W E d 106 2 lv (.null :: .ref a :: st) h Q ↔ gm_W E d 106 5 lv st (gm_sf h a 7 (.null)) Q := gw_wr m106 f106_2 rfl rfl rfl rfl rfl (gs_put k1_39 hk (by decide) (by decide) ⟨rfl, rfl⟩ (by decide))
theorem f106_5 : gm_ft 106 5 = some (.aload_n 0, 1) := by decide +kernel
theorem r106_5 {E : Nat → Value} {d : Nat} {st : List Value} {h : gm_H} {Q : gm_R → gm_H → Prop} {a1 : Value} {x : Nat} : gm_W E d 106 5 [.ref x, a1] st h Q ↔ gm_W E d 106 6 [.ref x, a1] (.ref x :: st) h Q := gw_loc m106 f106_5 rfl rfl
theorem r106_5n {E : Nat → Value} {d : Nat} {st : List Value} {h : gm_H} {Q : gm_R → gm_H → Prop} {a1 : Value}  : gm_W E d 106 5 [.null, a1] st h Q ↔ gm_W E d 106 6 [.null, a1] (.null :: st) h Q := gw_loc m106 f106_5 rfl rfl
theorem f106_6 : gm_ft 106 6 = some (.aload_n 1, 1) := by decide +kernel
theorem r106_6 {E : Nat → Value} {d : Nat} {st : List Value} {h : gm_H} {Q : gm_R → gm_H → Prop} {a0 : Value} {x : Nat} : gm_W E d 106 6 [a0, .ref x] st h Q ↔ gm_W E d 106 7 [a0, .ref x] (.ref x :: st) h Q := gw_loc m106 f106_6 rfl rfl
theorem r106_6n {E : Nat → Value} {d : Nat} {st : List Value} {h : gm_H} {Q : gm_R → gm_H → Prop} {a0 : Value}  : gm_W E d 106 6 [a0, .null] st h Q ↔ gm_W E d 106 7 [a0, .null] (.null :: st) h Q := gw_loc m106 f106_6 rfl rfl
theorem f106_7 : gm_ft 106 7 = some (.ifnonnull 7, 3) := by decide +kernel
theorem r106_7n {E : Nat → Value} {d : Nat} {st : List Value} {h : gm_H} {Q : gm_R → gm_H → Prop} {lv : List Value} : gm_W E d 106 7 lv (.null :: st) h Q ↔ gm_W E d 106 10 lv st h Q := gw_brF m106 f106_7 rfl rfl rfl rfl
theorem r106_7 {E : Nat → Value} {d : Nat} {st : List Value} {h : gm_H} {Q : gm_R → gm_H → Prop} {lv : List Value} {a : Nat} : gm_W E d 106 7 lv (.ref a :: st) h Q ↔ gm_W E d 106 14 lv st h Q := gw_brT m106 f106_7 rfl rfl rfl rfl
theorem f106_10 : gm_ft 106 10 = some (.iconst 0, 1) := by decide +kernel
theorem r106_10 {E : Nat → Value} {d : Nat} {st : List Value} {h : gm_H} {Q : gm_R → gm_H → Prop} {lv : List Value} : gm_W E d 106 10 lv st h Q ↔ gm_W E d 106 11 lv (.int (0 : Int32) :: st) h Q := gw_pure m106 f106_10 rfl
theorem f106_11 : gm_ft 106 11 = some (.goto 9, 3) := by decide +kernel
theorem r106_11 {E : Nat → Value} {d : Nat} {st : List Value} {h : gm_H} {Q : gm_R → gm_H → Prop} {lv : List Value} : gm_W E d 106 11 lv st h Q ↔ gm_W E d 106 20 lv st h Q := gw_brT m106 f106_11 rfl rfl rfl rfl
theorem f106_14 : gm_ft 106 14 = some (.aload_n 1, 1) := by decide +kernel
theorem r106_14 {E : Nat → Value} {d : Nat} {st : List Value} {h : gm_H} {Q : gm_R → gm_H → Prop} {a0 : Value} {x : Nat} : gm_W E d 106 14 [a0, .ref x] st h Q ↔ gm_W E d 106 15 [a0, .ref x] (.ref x :: st) h Q := gw_loc m106 f106_14 rfl rfl
theorem r106_14n {E : Nat → Value} {d : Nat} {st : List Value} {h : gm_H} {Q : gm_R → gm_H → Prop} {a0 : Value}  : gm_W E d 106 14 [a0, .null] st h Q ↔ gm_W E d 106 15 [a0, .null] (.null :: st) h Q := gw_loc m106 f106_14 rfl rfl
theorem f106_15 : gm_ft 106 15 = some (.getfield 43, 3) := by decide +kernel
theorem r106_15 {E : Nat → Value} {d : Nat} {st : List Value} {h : gm_H} {Q : gm_R → gm_H → Prop} {lv : List Value} {a : Nat} (hk : gm_kd h a = 1) : gm_W E d 106 15 lv (.ref a :: st) h Q ↔ gm_W E d 106 18 lv (gm_fv h a 8 :: st) h Q := gw_rd m106 f106_15 rfl rfl rfl rfl (gs_get k1_43 hk (by decide))
theorem f106_18 : gm_ft 106 18 = some (.iconst 1, 1) := by decide +kernel
theorem r106_18 {E : Nat → Value} {d : Nat} {st : List Value} {h : gm_H} {Q : gm_R → gm_H → Prop} {lv : List Value} : gm_W E d 106 18 lv st h Q ↔ gm_W E d 106 19 lv (.int (1 : Int32) :: st) h Q := gw_pure m106 f106_18 rfl
theorem f106_19 : gm_ft 106 19 = some (.iadd, 1) := by decide +kernel
theorem r106_19 {E : Nat → Value} {d : Nat} {st : List Value} {h : gm_H} {Q : gm_R → gm_H → Prop} {lv : List Value} {x y : Int32} : gm_W E d 106 19 lv (.int y :: .int x :: st) h Q ↔ gm_W E d 106 20 lv (.int (x + y) :: st) h Q := gw_pure m106 f106_19 rfl
theorem f106_20 : gm_ft 106 20 = some (.putfield 43, 3) := by decide +kernel
theorem r106_20 {E : Nat → Value} {d : Nat} {st : List Value} {h : gm_H} {Q : gm_R → gm_H → Prop} {lv : List Value} {a : Nat} {x : Int32} (hk : gm_kd h a = 1) : gm_W E d 106 20 lv (.int x :: .ref a :: st) h Q ↔ gm_W E d 106 23 lv st (gm_sf h a 8 (.int x)) Q := gw_wr m106 f106_20 rfl rfl rfl rfl rfl (gs_put k1_43 hk (by decide) (by decide) ⟨rfl, rfl⟩ (by decide))
theorem f106_23 : gm_ft 106 23 = some (.return_, 1) := by decide +kernel
theorem r106_23 {E : Nat → Value} {d : Nat} {h : gm_H} {Q : gm_R → gm_H → Prop} {lv : List Value} : gm_W E d 106 23 lv [] h Q ↔ Q (.inl none) h := gw_ret m106 f106_23 rfl rfl rfl rfl rfl rfl rfl rfl rfl
/-! GraphReader$Descriptor.stepsUp(I)LGraphReader$Descriptor; -/
theorem m107 : gm_mt[107]? = some (⟨"GraphReader$Descriptor", "stepsUp", "(I)LGraphReader$Descriptor;"⟩, prog_2_method_6_code, 4, (some (.object "GraphReader$Descriptor")), [], 1, 1) := rfl
theorem f107_0 : gm_ft 107 0 = some (.aload_n 0, 1) := by decide +kernel
theorem r107_0 {E : Nat → Value} {d : Nat} {st : List Value} {h : gm_H} {Q : gm_R → gm_H → Prop} {a1 a2 a3 : Value} {x : Nat} : gm_W E d 107 0 [.ref x, a1, a2, a3] st h Q ↔ gm_W E d 107 1 [.ref x, a1, a2, a3] (.ref x :: st) h Q := gw_loc m107 f107_0 rfl rfl
theorem r107_0n {E : Nat → Value} {d : Nat} {st : List Value} {h : gm_H} {Q : gm_R → gm_H → Prop} {a1 a2 a3 : Value}  : gm_W E d 107 0 [.null, a1, a2, a3] st h Q ↔ gm_W E d 107 1 [.null, a1, a2, a3] (.null :: st) h Q := gw_loc m107 f107_0 rfl rfl
theorem f107_1 : gm_ft 107 1 = some (.astore_n 2, 1) := by decide +kernel
theorem r107_1 {E : Nat → Value} {d : Nat} {st : List Value} {h : gm_H} {Q : gm_R → gm_H → Prop} {a0 a1 a2 a3 : Value} {x : Nat} : gm_W E d 107 1 [a0, a1, a2, a3] (.ref x :: st) h Q ↔ gm_W E d 107 2 [a0, gm_k a1, .ref x, a3] st h Q := gw_loc m107 f107_1 rfl rfl
theorem r107_1n {E : Nat → Value} {d : Nat} {st : List Value} {h : gm_H} {Q : gm_R → gm_H → Prop} {a0 a1 a2 a3 : Value}  : gm_W E d 107 1 [a0, a1, a2, a3] (.null :: st) h Q ↔ gm_W E d 107 2 [a0, gm_k a1, .null, a3] st h Q := gw_loc m107 f107_1 rfl rfl
theorem f107_2 : gm_ft 107 2 = some (.iconst 0, 1) := by decide +kernel
theorem r107_2 {E : Nat → Value} {d : Nat} {st : List Value} {h : gm_H} {Q : gm_R → gm_H → Prop} {lv : List Value} : gm_W E d 107 2 lv st h Q ↔ gm_W E d 107 3 lv (.int (0 : Int32) :: st) h Q := gw_pure m107 f107_2 rfl
theorem f107_3 : gm_ft 107 3 = some (.istore_n 3, 1) := by decide +kernel
theorem r107_3 {E : Nat → Value} {d : Nat} {st : List Value} {h : gm_H} {Q : gm_R → gm_H → Prop} {a0 a1 a2 a3 : Value} {x : Int32} : gm_W E d 107 3 [a0, a1, a2, a3] (.int x :: st) h Q ↔ gm_W E d 107 4 [a0, a1, gm_k a2, .int x] st h Q := gw_loc m107 f107_3 rfl rfl
theorem f107_4 : gm_ft 107 4 = some (.iload_n 3, 1) := by decide +kernel
theorem r107_4 {E : Nat → Value} {d : Nat} {st : List Value} {h : gm_H} {Q : gm_R → gm_H → Prop} {a0 a1 a2 : Value} {x : Int32} : gm_W E d 107 4 [a0, a1, a2, .int x] st h Q ↔ gm_W E d 107 5 [a0, a1, a2, .int x] (.int x :: st) h Q := gw_loc m107 f107_4 rfl rfl
theorem f107_5 : gm_ft 107 5 = some (.iload_n 1, 1) := by decide +kernel
theorem r107_5 {E : Nat → Value} {d : Nat} {st : List Value} {h : gm_H} {Q : gm_R → gm_H → Prop} {a0 a2 a3 : Value} {x : Int32} : gm_W E d 107 5 [a0, .int x, a2, a3] st h Q ↔ gm_W E d 107 6 [a0, .int x, a2, a3] (.int x :: st) h Q := gw_loc m107 f107_5 rfl rfl
theorem f107_6 : gm_ft 107 6 = some (.if_icmp .ge 21, 3) := by decide +kernel
theorem r107_6 {E : Nat → Value} {d : Nat} {st : List Value} {h : gm_H} {Q : gm_R → gm_H → Prop} {lv : List Value} {x y : Int32} : gm_W E d 107 6 lv (.int y :: .int x :: st) h Q ↔ (if y ≤ x then gm_W E d 107 27 lv st h Q else gm_W E d 107 9 lv st h Q) := (gw_br m107 f107_6 rfl rfl rfl rfl).trans gw_if
theorem f107_9 : gm_ft 107 9 = some (.aload_n 2, 1) := by decide +kernel
theorem r107_9 {E : Nat → Value} {d : Nat} {st : List Value} {h : gm_H} {Q : gm_R → gm_H → Prop} {a0 a1 a3 : Value} {x : Nat} : gm_W E d 107 9 [a0, a1, .ref x, a3] st h Q ↔ gm_W E d 107 10 [a0, a1, .ref x, a3] (.ref x :: st) h Q := gw_loc m107 f107_9 rfl rfl
theorem r107_9n {E : Nat → Value} {d : Nat} {st : List Value} {h : gm_H} {Q : gm_R → gm_H → Prop} {a0 a1 a3 : Value}  : gm_W E d 107 9 [a0, a1, .null, a3] st h Q ↔ gm_W E d 107 10 [a0, a1, .null, a3] (.null :: st) h Q := gw_loc m107 f107_9 rfl rfl
theorem f107_10 : gm_ft 107 10 = some (.getfield 39, 3) := by decide +kernel
theorem r107_10 {E : Nat → Value} {d : Nat} {st : List Value} {h : gm_H} {Q : gm_R → gm_H → Prop} {lv : List Value} {a : Nat} (hk : gm_kd h a = 1) : gm_W E d 107 10 lv (.ref a :: st) h Q ↔ gm_W E d 107 13 lv (gm_fv h a 7 :: st) h Q := gw_rd m107 f107_10 rfl rfl rfl rfl (gs_get k1_39 hk (by decide))
theorem f107_13 : gm_ft 107 13 = some (.ifnull 14, 3) := by decide +kernel
theorem r107_13n {E : Nat → Value} {d : Nat} {st : List Value} {h : gm_H} {Q : gm_R → gm_H → Prop} {lv : List Value} : gm_W E d 107 13 lv (.null :: st) h Q ↔ gm_W E d 107 27 lv st h Q := gw_brT m107 f107_13 rfl rfl rfl rfl
theorem r107_13 {E : Nat → Value} {d : Nat} {st : List Value} {h : gm_H} {Q : gm_R → gm_H → Prop} {lv : List Value} {a : Nat} : gm_W E d 107 13 lv (.ref a :: st) h Q ↔ gm_W E d 107 16 lv st h Q := gw_brF m107 f107_13 rfl rfl rfl rfl
theorem f107_16 : gm_ft 107 16 = some (.aload_n 2, 1) := by decide +kernel
theorem r107_16 {E : Nat → Value} {d : Nat} {st : List Value} {h : gm_H} {Q : gm_R → gm_H → Prop} {a0 a1 a3 : Value} {x : Nat} : gm_W E d 107 16 [a0, a1, .ref x, a3] st h Q ↔ gm_W E d 107 17 [a0, a1, .ref x, a3] (.ref x :: st) h Q := gw_loc m107 f107_16 rfl rfl
theorem r107_16n {E : Nat → Value} {d : Nat} {st : List Value} {h : gm_H} {Q : gm_R → gm_H → Prop} {a0 a1 a3 : Value}  : gm_W E d 107 16 [a0, a1, .null, a3] st h Q ↔ gm_W E d 107 17 [a0, a1, .null, a3] (.null :: st) h Q := gw_loc m107 f107_16 rfl rfl
theorem f107_17 : gm_ft 107 17 = some (.getfield 39, 3) := by decide +kernel
theorem r107_17 {E : Nat → Value} {d : Nat} {st : List Value} {h : gm_H} {Q : gm_R → gm_H → Prop} {lv : List Value} {a : Nat} (hk : gm_kd h a = 1) : gm_W E d 107 17 lv (.ref a :: st) h Q ↔ gm_W E d 107 20 lv (gm_fv h a 7 :: st) h Q := gw_rd m107 f107_17 rfl rfl rfl rfl (gs_get k1_39 hk (by decide))
theorem f107_20 : gm_ft 107 20 = some (.astore_n 2, 1) := by decide +kernel
theorem r107_20 {E : Nat → Value} {d : Nat} {st : List Value} {h : gm_H} {Q : gm_R → gm_H → Prop} {a0 a1 a2 a3 : Value} {x : Nat} : gm_W E d 107 20 [a0, a1, a2, a3] (.ref x :: st) h Q ↔ gm_W E d 107 21 [a0, gm_k a1, .ref x, a3] st h Q := gw_loc m107 f107_20 rfl rfl
theorem r107_20n {E : Nat → Value} {d : Nat} {st : List Value} {h : gm_H} {Q : gm_R → gm_H → Prop} {a0 a1 a2 a3 : Value}  : gm_W E d 107 20 [a0, a1, a2, a3] (.null :: st) h Q ↔ gm_W E d 107 21 [a0, gm_k a1, .null, a3] st h Q := gw_loc m107 f107_20 rfl rfl
theorem f107_21 : gm_ft 107 21 = some (.iinc 3 1, 3) := by decide +kernel
theorem r107_21 {E : Nat → Value} {d : Nat} {st : List Value} {h : gm_H} {Q : gm_R → gm_H → Prop} {a0 a1 a2 : Value} {x : Int32} : gm_W E d 107 21 [a0, a1, a2, .int x] st h Q ↔ gm_W E d 107 24 [a0, a1, gm_k a2, .int (x + (1 : Int32))] st h Q := gw_loc m107 f107_21 rfl rfl
theorem f107_24 : gm_ft 107 24 = some (.goto (-20), 3) := by decide +kernel
theorem r107_24 {E : Nat → Value} {d : Nat} {st : List Value} {h : gm_H} {Q : gm_R → gm_H → Prop} {lv : List Value} : gm_W E d 107 24 lv st h Q ↔ gm_W E d 107 4 lv st h Q := gw_brT m107 f107_24 rfl rfl rfl rfl
theorem f107_27 : gm_ft 107 27 = some (.aload_n 2, 1) := by decide +kernel
theorem r107_27 {E : Nat → Value} {d : Nat} {st : List Value} {h : gm_H} {Q : gm_R → gm_H → Prop} {a0 a1 a3 : Value} {x : Nat} : gm_W E d 107 27 [a0, a1, .ref x, a3] st h Q ↔ gm_W E d 107 28 [a0, a1, .ref x, a3] (.ref x :: st) h Q := gw_loc m107 f107_27 rfl rfl
theorem r107_27n {E : Nat → Value} {d : Nat} {st : List Value} {h : gm_H} {Q : gm_R → gm_H → Prop} {a0 a1 a3 : Value}  : gm_W E d 107 27 [a0, a1, .null, a3] st h Q ↔ gm_W E d 107 28 [a0, a1, .null, a3] (.null :: st) h Q := gw_loc m107 f107_27 rfl rfl
theorem f107_28 : gm_ft 107 28 = some (.areturn, 1) := by decide +kernel
theorem r107_28 {E : Nat → Value} {d : Nat} {h : gm_H} {Q : gm_R → gm_H → Prop} {lv : List Value} {a : Nat} : gm_W E d 107 28 lv [.ref a] h Q ↔ Q (.inl (some (.ref a))) h := gw_ret m107 f107_28 rfl rfl rfl rfl rfl rfl rfl rfl rfl
theorem r107_28n {E : Nat → Value} {d : Nat} {h : gm_H} {Q : gm_R → gm_H → Prop} {lv : List Value} : gm_W E d 107 28 lv [.null] h Q ↔ Q (.inl (some .null)) h := gw_ret m107 f107_28 rfl rfl rfl rfl rfl rfl rfl rfl rfl
/-! GraphReader$Descriptor.fits(LGraphReader$LocalClass;)Z -/
theorem m108 : gm_mt[108]? = some (⟨"GraphReader$Descriptor", "fits", "(LGraphReader$LocalClass;)Z"⟩, prog_2_method_7_code, 3, (some .boolean), [], 1, 1) := rfl
theorem f108_0 : gm_ft 108 0 = some (.aload_n 0, 1) := by decide +kernel
theorem r108_0 {E : Nat → Value} {d : Nat} {st : List Value} {h : gm_H} {Q : gm_R → gm_H → Prop} {a1 a2 : Value} {x : Nat} : gm_W E d 108 0 [.ref x, a1, a2] st h Q ↔ gm_W E d 108 1 [.ref x, a1, a2] (.ref x :: st) h Q := gw_loc m108 f108_0 rfl rfl
theorem r108_0n {E : Nat → Value} {d : Nat} {st : List Value} {h : gm_H} {Q : gm_R → gm_H → Prop} {a1 a2 : Value}  : gm_W E d 108 0 [.null, a1, a2] st h Q ↔ gm_W E d 108 1 [.null, a1, a2] (.null :: st) h Q := gw_loc m108 f108_0 rfl rfl
theorem f108_1 : gm_ft 108 1 = some (.invokevirtual 46, 3) := by decide +kernel
theorem c108_1 {E : Nat → Value} {d : Nat} {st : List Value} {h : gm_H} {Q : gm_R → gm_H → Prop} {lv : List Value} {a : Nat} {Qc : gm_R → gm_H → Prop} (hs : (st.map fun v => v.category).sum ≤ 8) (hr : gm_kd h a = 1) (hd : 1 ≤ d) (hc : gm_Ca E (d - 1) 104 [.ref a] h Qc) (kn : ∀ (v9 : Option Value) (h9 : gm_H), Qc (.inl v9) h9 → gm_W E d 108 4 lv (v9.toList ++ st) h9 Q) (kx : ∀ (x9 : Nat) (h9 : gm_H), Qc (.inr x9) h9 → Q (.inr x9) h9) : gm_W E d 108 1 lv (.ref a :: st) h Q := gw_call (gn_call m108 f108_1 rfl rfl rfl rfl rfl rfl rfl (gs_virt (bs := []) (w := 495) (L := 1) rfl rfl rfl rfl hs (by simp [gm_en1]) hr (by decide)) (by decide)) m108 rfl rfl hd hc kn kx
theorem f108_4 : gm_ft 108 4 = some (.aload_n 1, 1) := by decide +kernel
theorem r108_4 {E : Nat → Value} {d : Nat} {st : List Value} {h : gm_H} {Q : gm_R → gm_H → Prop} {a0 a2 : Value} {x : Nat} : gm_W E d 108 4 [a0, .ref x, a2] st h Q ↔ gm_W E d 108 5 [a0, .ref x, a2] (.ref x :: st) h Q := gw_loc m108 f108_4 rfl rfl
theorem r108_4n {E : Nat → Value} {d : Nat} {st : List Value} {h : gm_H} {Q : gm_R → gm_H → Prop} {a0 a2 : Value}  : gm_W E d 108 4 [a0, .null, a2] st h Q ↔ gm_W E d 108 5 [a0, .null, a2] (.null :: st) h Q := gw_loc m108 f108_4 rfl rfl
theorem f108_5 : gm_ft 108 5 = some (.getfield 50, 3) := by decide +kernel
theorem r108_5 {E : Nat → Value} {d : Nat} {st : List Value} {h : gm_H} {Q : gm_R → gm_H → Prop} {lv : List Value} {a : Nat} (hk : gm_kd h a = 3) : gm_W E d 108 5 lv (.ref a :: st) h Q ↔ gm_W E d 108 8 lv (gm_fv h a 1 :: st) h Q := gw_rd m108 f108_5 rfl rfl rfl rfl (gs_get k1_50 hk (by decide))
theorem f108_8 : gm_ft 108 8 = some (.iconst 3, 1) := by decide +kernel
theorem r108_8 {E : Nat → Value} {d : Nat} {st : List Value} {h : gm_H} {Q : gm_R → gm_H → Prop} {lv : List Value} : gm_W E d 108 8 lv st h Q ↔ gm_W E d 108 9 lv (.int (3 : Int32) :: st) h Q := gw_pure m108 f108_8 rfl
theorem f108_9 : gm_ft 108 9 = some (.if_icmp .ne 7, 3) := by decide +kernel
theorem r108_9 {E : Nat → Value} {d : Nat} {st : List Value} {h : gm_H} {Q : gm_R → gm_H → Prop} {lv : List Value} {x y : Int32} : gm_W E d 108 9 lv (.int y :: .int x :: st) h Q ↔ (if x = y then gm_W E d 108 12 lv st h Q else gm_W E d 108 16 lv st h Q) := (gw_br m108 f108_9 rfl rfl rfl rfl).trans gw_ifn
theorem f108_12 : gm_ft 108 12 = some (.iconst 1, 1) := by decide +kernel
theorem r108_12 {E : Nat → Value} {d : Nat} {st : List Value} {h : gm_H} {Q : gm_R → gm_H → Prop} {lv : List Value} : gm_W E d 108 12 lv st h Q ↔ gm_W E d 108 13 lv (.int (1 : Int32) :: st) h Q := gw_pure m108 f108_12 rfl
theorem f108_13 : gm_ft 108 13 = some (.goto 4, 3) := by decide +kernel
theorem r108_13 {E : Nat → Value} {d : Nat} {st : List Value} {h : gm_H} {Q : gm_R → gm_H → Prop} {lv : List Value} : gm_W E d 108 13 lv st h Q ↔ gm_W E d 108 17 lv st h Q := gw_brT m108 f108_13 rfl rfl rfl rfl
theorem f108_16 : gm_ft 108 16 = some (.iconst 0, 1) := by decide +kernel
theorem r108_16 {E : Nat → Value} {d : Nat} {st : List Value} {h : gm_H} {Q : gm_R → gm_H → Prop} {lv : List Value} : gm_W E d 108 16 lv st h Q ↔ gm_W E d 108 17 lv (.int (0 : Int32) :: st) h Q := gw_pure m108 f108_16 rfl
theorem f108_17 : gm_ft 108 17 = some (.if_icmp .eq 5, 3) := by decide +kernel
theorem r108_17 {E : Nat → Value} {d : Nat} {st : List Value} {h : gm_H} {Q : gm_R → gm_H → Prop} {lv : List Value} {x y : Int32} : gm_W E d 108 17 lv (.int y :: .int x :: st) h Q ↔ (if x = y then gm_W E d 108 22 lv st h Q else gm_W E d 108 20 lv st h Q) := (gw_br m108 f108_17 rfl rfl rfl rfl).trans gw_if
theorem f108_20 : gm_ft 108 20 = some (.iconst 0, 1) := by decide +kernel
theorem r108_20 {E : Nat → Value} {d : Nat} {st : List Value} {h : gm_H} {Q : gm_R → gm_H → Prop} {lv : List Value} : gm_W E d 108 20 lv st h Q ↔ gm_W E d 108 21 lv (.int (0 : Int32) :: st) h Q := gw_pure m108 f108_20 rfl
theorem f108_21 : gm_ft 108 21 = some (.ireturn, 1) := by decide +kernel
theorem r108_21 {E : Nat → Value} {d : Nat} {h : gm_H} {Q : gm_R → gm_H → Prop} {lv : List Value} {x : Int32} (hx : x = 0 ∨ x = 1) : gm_W E d 108 21 lv [.int x] h Q ↔ Q (.inl (some (.int x))) h := gw_ret m108 f108_21 rfl rfl rfl rfl rfl rfl rfl rfl (by unfold gm_rt; dsimp only; rw [if_pos ⟨rfl, (gs_nb hx).1⟩])
theorem f108_22 : gm_ft 108 22 = some (.aload_n 0, 1) := by decide +kernel
theorem r108_22 {E : Nat → Value} {d : Nat} {st : List Value} {h : gm_H} {Q : gm_R → gm_H → Prop} {a1 a2 : Value} {x : Nat} : gm_W E d 108 22 [.ref x, a1, a2] st h Q ↔ gm_W E d 108 23 [.ref x, a1, a2] (.ref x :: st) h Q := gw_loc m108 f108_22 rfl rfl
theorem r108_22n {E : Nat → Value} {d : Nat} {st : List Value} {h : gm_H} {Q : gm_R → gm_H → Prop} {a1 a2 : Value}  : gm_W E d 108 22 [.null, a1, a2] st h Q ↔ gm_W E d 108 23 [.null, a1, a2] (.null :: st) h Q := gw_loc m108 f108_22 rfl rfl
theorem f108_23 : gm_ft 108 23 = some (.iconst 2, 1) := by decide +kernel
theorem r108_23 {E : Nat → Value} {d : Nat} {st : List Value} {h : gm_H} {Q : gm_R → gm_H → Prop} {lv : List Value} : gm_W E d 108 23 lv st h Q ↔ gm_W E d 108 24 lv (.int (2 : Int32) :: st) h Q := gw_pure m108 f108_23 rfl
theorem f108_24 : gm_ft 108 24 = some (.invokevirtual 25, 3) := by decide +kernel
theorem c108_24 {E : Nat → Value} {d : Nat} {st : List Value} {h : gm_H} {Q : gm_R → gm_H → Prop} {lv : List Value} {b0 : Int32} {a : Nat} {Qc : gm_R → gm_H → Prop} (hs : (st.map fun v => v.category).sum ≤ 8) (hr : gm_kd h a = 1) (hd : 1 ≤ d) (hc : gm_Ca E (d - 1) 103 [.ref a, .int b0] h Qc) (kn : ∀ (v9 : Option Value) (h9 : gm_H), Qc (.inl v9) h9 → gm_W E d 108 27 lv (v9.toList ++ st) h9 Q) (kx : ∀ (x9 : Nat) (h9 : gm_H), Qc (.inr x9) h9 → Q (.inr x9) h9) : gm_W E d 108 24 lv (.int b0 :: .ref a :: st) h Q := gw_call (gn_call m108 f108_24 rfl rfl rfl rfl rfl rfl rfl (gs_virt (bs := [.int b0]) (w := 368) (L := 2) rfl rfl rfl rfl hs (by simp [gm_en1]) hr (by decide)) (by decide)) m108 rfl rfl hd hc kn kx
theorem f108_27 : gm_ft 108 27 = some (.ifCond .eq 22, 3) := by decide +kernel
theorem r108_27 {E : Nat → Value} {d : Nat} {st : List Value} {h : gm_H} {Q : gm_R → gm_H → Prop} {lv : List Value} {x : Int32} : gm_W E d 108 27 lv (.int x :: st) h Q ↔ (if x = 0 then gm_W E d 108 49 lv st h Q else gm_W E d 108 30 lv st h Q) := (gw_br m108 f108_27 rfl rfl rfl rfl).trans gw_if
theorem f108_30 : gm_ft 108 30 = some (.aload_n 1, 1) := by decide +kernel
theorem r108_30 {E : Nat → Value} {d : Nat} {st : List Value} {h : gm_H} {Q : gm_R → gm_H → Prop} {a0 a2 : Value} {x : Nat} : gm_W E d 108 30 [a0, .ref x, a2] st h Q ↔ gm_W E d 108 31 [a0, .ref x, a2] (.ref x :: st) h Q := gw_loc m108 f108_30 rfl rfl
theorem r108_30n {E : Nat → Value} {d : Nat} {st : List Value} {h : gm_H} {Q : gm_R → gm_H → Prop} {a0 a2 : Value}  : gm_W E d 108 30 [a0, .null, a2] st h Q ↔ gm_W E d 108 31 [a0, .null, a2] (.null :: st) h Q := gw_loc m108 f108_30 rfl rfl
theorem f108_31 : gm_ft 108 31 = some (.getfield 50, 3) := by decide +kernel
theorem r108_31 {E : Nat → Value} {d : Nat} {st : List Value} {h : gm_H} {Q : gm_R → gm_H → Prop} {lv : List Value} {a : Nat} (hk : gm_kd h a = 3) : gm_W E d 108 31 lv (.ref a :: st) h Q ↔ gm_W E d 108 34 lv (gm_fv h a 1 :: st) h Q := gw_rd m108 f108_31 rfl rfl rfl rfl (gs_get k1_50 hk (by decide))
theorem f108_34 : gm_ft 108 34 = some (.ifCond .eq 15, 3) := by decide +kernel
theorem r108_34 {E : Nat → Value} {d : Nat} {st : List Value} {h : gm_H} {Q : gm_R → gm_H → Prop} {lv : List Value} {x : Int32} : gm_W E d 108 34 lv (.int x :: st) h Q ↔ (if x = 0 then gm_W E d 108 49 lv st h Q else gm_W E d 108 37 lv st h Q) := (gw_br m108 f108_34 rfl rfl rfl rfl).trans gw_if
theorem f108_37 : gm_ft 108 37 = some (.aload_n 1, 1) := by decide +kernel
theorem r108_37 {E : Nat → Value} {d : Nat} {st : List Value} {h : gm_H} {Q : gm_R → gm_H → Prop} {a0 a2 : Value} {x : Nat} : gm_W E d 108 37 [a0, .ref x, a2] st h Q ↔ gm_W E d 108 38 [a0, .ref x, a2] (.ref x :: st) h Q := gw_loc m108 f108_37 rfl rfl
theorem r108_37n {E : Nat → Value} {d : Nat} {st : List Value} {h : gm_H} {Q : gm_R → gm_H → Prop} {a0 a2 : Value}  : gm_W E d 108 37 [a0, .null, a2] st h Q ↔ gm_W E d 108 38 [a0, .null, a2] (.null :: st) h Q := gw_loc m108 f108_37 rfl rfl
theorem f108_38 : gm_ft 108 38 = some (.getfield 50, 3) := by decide +kernel
theorem r108_38 {E : Nat → Value} {d : Nat} {st : List Value} {h : gm_H} {Q : gm_R → gm_H → Prop} {lv : List Value} {a : Nat} (hk : gm_kd h a = 3) : gm_W E d 108 38 lv (.ref a :: st) h Q ↔ gm_W E d 108 41 lv (gm_fv h a 1 :: st) h Q := gw_rd m108 f108_38 rfl rfl rfl rfl (gs_get k1_50 hk (by decide))
theorem f108_41 : gm_ft 108 41 = some (.iconst 3, 1) := by decide +kernel
theorem r108_41 {E : Nat → Value} {d : Nat} {st : List Value} {h : gm_H} {Q : gm_R → gm_H → Prop} {lv : List Value} : gm_W E d 108 41 lv st h Q ↔ gm_W E d 108 42 lv (.int (3 : Int32) :: st) h Q := gw_pure m108 f108_41 rfl
theorem f108_42 : gm_ft 108 42 = some (.if_icmp .eq 7, 3) := by decide +kernel
theorem r108_42 {E : Nat → Value} {d : Nat} {st : List Value} {h : gm_H} {Q : gm_R → gm_H → Prop} {lv : List Value} {x y : Int32} : gm_W E d 108 42 lv (.int y :: .int x :: st) h Q ↔ (if x = y then gm_W E d 108 49 lv st h Q else gm_W E d 108 45 lv st h Q) := (gw_br m108 f108_42 rfl rfl rfl rfl).trans gw_if
theorem f108_45 : gm_ft 108 45 = some (.iconst 1, 1) := by decide +kernel
theorem r108_45 {E : Nat → Value} {d : Nat} {st : List Value} {h : gm_H} {Q : gm_R → gm_H → Prop} {lv : List Value} : gm_W E d 108 45 lv st h Q ↔ gm_W E d 108 46 lv (.int (1 : Int32) :: st) h Q := gw_pure m108 f108_45 rfl
theorem f108_46 : gm_ft 108 46 = some (.goto 4, 3) := by decide +kernel
theorem r108_46 {E : Nat → Value} {d : Nat} {st : List Value} {h : gm_H} {Q : gm_R → gm_H → Prop} {lv : List Value} : gm_W E d 108 46 lv st h Q ↔ gm_W E d 108 50 lv st h Q := gw_brT m108 f108_46 rfl rfl rfl rfl
theorem f108_49 : gm_ft 108 49 = some (.iconst 0, 1) := by decide +kernel
theorem r108_49 {E : Nat → Value} {d : Nat} {st : List Value} {h : gm_H} {Q : gm_R → gm_H → Prop} {lv : List Value} : gm_W E d 108 49 lv st h Q ↔ gm_W E d 108 50 lv (.int (0 : Int32) :: st) h Q := gw_pure m108 f108_49 rfl
theorem f108_50 : gm_ft 108 50 = some (.istore_n 2, 1) := by decide +kernel
theorem r108_50 {E : Nat → Value} {d : Nat} {st : List Value} {h : gm_H} {Q : gm_R → gm_H → Prop} {a0 a1 a2 : Value} {x : Int32} : gm_W E d 108 50 [a0, a1, a2] (.int x :: st) h Q ↔ gm_W E d 108 51 [a0, gm_k a1, .int x] st h Q := gw_loc m108 f108_50 rfl rfl
theorem f108_51 : gm_ft 108 51 = some (.iload_n 2, 1) := by decide +kernel
theorem r108_51 {E : Nat → Value} {d : Nat} {st : List Value} {h : gm_H} {Q : gm_R → gm_H → Prop} {a0 a1 : Value} {x : Int32} : gm_W E d 108 51 [a0, a1, .int x] st h Q ↔ gm_W E d 108 52 [a0, a1, .int x] (.int x :: st) h Q := gw_loc m108 f108_51 rfl rfl
theorem f108_52 : gm_ft 108 52 = some (.ifCond .eq 15, 3) := by decide +kernel
theorem r108_52 {E : Nat → Value} {d : Nat} {st : List Value} {h : gm_H} {Q : gm_R → gm_H → Prop} {lv : List Value} {x : Int32} : gm_W E d 108 52 lv (.int x :: st) h Q ↔ (if x = 0 then gm_W E d 108 67 lv st h Q else gm_W E d 108 55 lv st h Q) := (gw_br m108 f108_52 rfl rfl rfl rfl).trans gw_if
theorem f108_55 : gm_ft 108 55 = some (.aload_n 0, 1) := by decide +kernel
theorem r108_55 {E : Nat → Value} {d : Nat} {st : List Value} {h : gm_H} {Q : gm_R → gm_H → Prop} {a1 a2 : Value} {x : Nat} : gm_W E d 108 55 [.ref x, a1, a2] st h Q ↔ gm_W E d 108 56 [.ref x, a1, a2] (.ref x :: st) h Q := gw_loc m108 f108_55 rfl rfl
theorem r108_55n {E : Nat → Value} {d : Nat} {st : List Value} {h : gm_H} {Q : gm_R → gm_H → Prop} {a1 a2 : Value}  : gm_W E d 108 55 [.null, a1, a2] st h Q ↔ gm_W E d 108 56 [.null, a1, a2] (.null :: st) h Q := gw_loc m108 f108_55 rfl rfl
theorem f108_56 : gm_ft 108 56 = some (.getfield 18, 3) := by decide +kernel
theorem r108_56 {E : Nat → Value} {d : Nat} {st : List Value} {h : gm_H} {Q : gm_R → gm_H → Prop} {lv : List Value} {a : Nat} (hk : gm_kd h a = 1) : gm_W E d 108 56 lv (.ref a :: st) h Q ↔ gm_W E d 108 59 lv (gm_fv h a 2 :: st) h Q := gw_rd m108 f108_56 rfl rfl rfl rfl (gs_get k1_18 hk (by decide))
theorem f108_59 : gm_ft 108 59 = some (.aload_n 1, 1) := by decide +kernel
theorem r108_59 {E : Nat → Value} {d : Nat} {st : List Value} {h : gm_H} {Q : gm_R → gm_H → Prop} {a0 a2 : Value} {x : Nat} : gm_W E d 108 59 [a0, .ref x, a2] st h Q ↔ gm_W E d 108 60 [a0, .ref x, a2] (.ref x :: st) h Q := gw_loc m108 f108_59 rfl rfl
theorem r108_59n {E : Nat → Value} {d : Nat} {st : List Value} {h : gm_H} {Q : gm_R → gm_H → Prop} {a0 a2 : Value}  : gm_W E d 108 59 [a0, .null, a2] st h Q ↔ gm_W E d 108 60 [a0, .null, a2] (.null :: st) h Q := gw_loc m108 f108_59 rfl rfl
theorem f108_60 : gm_ft 108 60 = some (.getfield 55, 3) := by decide +kernel
theorem r108_60 {E : Nat → Value} {d : Nat} {st : List Value} {h : gm_H} {Q : gm_R → gm_H → Prop} {lv : List Value} {a : Nat} (hk : gm_kd h a = 3) : gm_W E d 108 60 lv (.ref a :: st) h Q ↔ gm_W E d 108 63 lv (gm_fv h a 3 :: st) h Q := gw_rd m108 f108_60 rfl rfl rfl rfl (gs_get k1_55 hk (by decide))
theorem f108_63 : gm_ft 108 63 = some (.lcmp, 1) := by decide +kernel
theorem r108_63 {E : Nat → Value} {d : Nat} {st : List Value} {h : gm_H} {Q : gm_R → gm_H → Prop} {lv : List Value} {x y : Int64} : gm_W E d 108 63 lv (.long y :: .long x :: st) h Q ↔ gm_W E d 108 64 lv (.int (lg_cmp x y) :: st) h Q := gw_pure m108 f108_63 rfl
theorem f108_64 : gm_ft 108 64 = some (.ifCond .ne 15, 3) := by decide +kernel
theorem r108_64 {E : Nat → Value} {d : Nat} {st : List Value} {h : gm_H} {Q : gm_R → gm_H → Prop} {lv : List Value} {x : Int32} : gm_W E d 108 64 lv (.int x :: st) h Q ↔ (if x = 0 then gm_W E d 108 67 lv st h Q else gm_W E d 108 79 lv st h Q) := (gw_br m108 f108_64 rfl rfl rfl rfl).trans gw_ifn
theorem f108_67 : gm_ft 108 67 = some (.aload_n 0, 1) := by decide +kernel
theorem r108_67 {E : Nat → Value} {d : Nat} {st : List Value} {h : gm_H} {Q : gm_R → gm_H → Prop} {a1 a2 : Value} {x : Nat} : gm_W E d 108 67 [.ref x, a1, a2] st h Q ↔ gm_W E d 108 68 [.ref x, a1, a2] (.ref x :: st) h Q := gw_loc m108 f108_67 rfl rfl
theorem r108_67n {E : Nat → Value} {d : Nat} {st : List Value} {h : gm_H} {Q : gm_R → gm_H → Prop} {a1 a2 : Value}  : gm_W E d 108 67 [.null, a1, a2] st h Q ↔ gm_W E d 108 68 [.null, a1, a2] (.null :: st) h Q := gw_loc m108 f108_67 rfl rfl
theorem f108_68 : gm_ft 108 68 = some (.aload_n 1, 1) := by decide +kernel
theorem r108_68 {E : Nat → Value} {d : Nat} {st : List Value} {h : gm_H} {Q : gm_R → gm_H → Prop} {a0 a2 : Value} {x : Nat} : gm_W E d 108 68 [a0, .ref x, a2] st h Q ↔ gm_W E d 108 69 [a0, .ref x, a2] (.ref x :: st) h Q := gw_loc m108 f108_68 rfl rfl
theorem r108_68n {E : Nat → Value} {d : Nat} {st : List Value} {h : gm_H} {Q : gm_R → gm_H → Prop} {a0 a2 : Value}  : gm_W E d 108 68 [a0, .null, a2] st h Q ↔ gm_W E d 108 69 [a0, .null, a2] (.null :: st) h Q := gw_loc m108 f108_68 rfl rfl
theorem f108_69 : gm_ft 108 69 = some (.invokevirtual 56, 3) := by decide +kernel
theorem c108_69 {E : Nat → Value} {d : Nat} {st : List Value} {h : gm_H} {Q : gm_R → gm_H → Prop} {lv : List Value} {b0 : Value} {a : Nat} {Qc : gm_R → gm_H → Prop} (hs : (st.map fun v => v.category).sum ≤ 8) (he : (gm_en1 [.ref a, b0]).length ≤ 4) (hr : gm_kd h a = 1) (hd : 1 ≤ d) (hc : gm_Ca E (d - 1) 109 [.ref a, b0] h Qc) (kn : ∀ (v9 : Option Value) (h9 : gm_H), Qc (.inl v9) h9 → gm_W E d 108 72 lv (v9.toList ++ st) h9 Q) (kx : ∀ (x9 : Nat) (h9 : gm_H), Qc (.inr x9) h9 → Q (.inr x9) h9) : gm_W E d 108 69 lv (b0 :: .ref a :: st) h Q := gw_call (gn_call m108 f108_69 rfl rfl rfl rfl rfl rfl rfl (gs_virt (bs := [b0]) (w := 496) (L := 4) rfl rfl rfl rfl hs he hr (by decide)) (by decide)) m108 rfl rfl hd hc kn kx
theorem f108_72 : gm_ft 108 72 = some (.ifCond .eq 7, 3) := by decide +kernel
theorem r108_72 {E : Nat → Value} {d : Nat} {st : List Value} {h : gm_H} {Q : gm_R → gm_H → Prop} {lv : List Value} {x : Int32} : gm_W E d 108 72 lv (.int x :: st) h Q ↔ (if x = 0 then gm_W E d 108 79 lv st h Q else gm_W E d 108 75 lv st h Q) := (gw_br m108 f108_72 rfl rfl rfl rfl).trans gw_if
theorem f108_75 : gm_ft 108 75 = some (.iconst 1, 1) := by decide +kernel
theorem r108_75 {E : Nat → Value} {d : Nat} {st : List Value} {h : gm_H} {Q : gm_R → gm_H → Prop} {lv : List Value} : gm_W E d 108 75 lv st h Q ↔ gm_W E d 108 76 lv (.int (1 : Int32) :: st) h Q := gw_pure m108 f108_75 rfl
theorem f108_76 : gm_ft 108 76 = some (.goto 4, 3) := by decide +kernel
theorem r108_76 {E : Nat → Value} {d : Nat} {st : List Value} {h : gm_H} {Q : gm_R → gm_H → Prop} {lv : List Value} : gm_W E d 108 76 lv st h Q ↔ gm_W E d 108 80 lv st h Q := gw_brT m108 f108_76 rfl rfl rfl rfl
theorem f108_79 : gm_ft 108 79 = some (.iconst 0, 1) := by decide +kernel
theorem r108_79 {E : Nat → Value} {d : Nat} {st : List Value} {h : gm_H} {Q : gm_R → gm_H → Prop} {lv : List Value} : gm_W E d 108 79 lv st h Q ↔ gm_W E d 108 80 lv (.int (0 : Int32) :: st) h Q := gw_pure m108 f108_79 rfl
theorem f108_80 : gm_ft 108 80 = some (.ireturn, 1) := by decide +kernel
theorem r108_80 {E : Nat → Value} {d : Nat} {h : gm_H} {Q : gm_R → gm_H → Prop} {lv : List Value} {x : Int32} (hx : x = 0 ∨ x = 1) : gm_W E d 108 80 lv [.int x] h Q ↔ Q (.inl (some (.int x))) h := gw_ret m108 f108_80 rfl rfl rfl rfl rfl rfl rfl rfl (by unfold gm_rt; dsimp only; rw [if_pos ⟨rfl, (gs_nb hx).1⟩])
/-! GraphReader$Descriptor.fieldsFit(LGraphReader$LocalClass;)Z -/
theorem m109 : gm_mt[109]? = some (⟨"GraphReader$Descriptor", "fieldsFit", "(LGraphReader$LocalClass;)Z"⟩, prog_2_method_8_code, 4, (some .boolean), [], 1, 1) := rfl
theorem f109_0 : gm_ft 109 0 = some (.iconst 0, 1) := by decide +kernel
theorem r109_0 {E : Nat → Value} {d : Nat} {st : List Value} {h : gm_H} {Q : gm_R → gm_H → Prop} {lv : List Value} : gm_W E d 109 0 lv st h Q ↔ gm_W E d 109 1 lv (.int (0 : Int32) :: st) h Q := gw_pure m109 f109_0 rfl
theorem f109_1 : gm_ft 109 1 = some (.istore_n 2, 1) := by decide +kernel
theorem r109_1 {E : Nat → Value} {d : Nat} {st : List Value} {h : gm_H} {Q : gm_R → gm_H → Prop} {a0 a1 a2 a3 : Value} {x : Int32} : gm_W E d 109 1 [a0, a1, a2, a3] (.int x :: st) h Q ↔ gm_W E d 109 2 [a0, gm_k a1, .int x, a3] st h Q := gw_loc m109 f109_1 rfl rfl
theorem f109_2 : gm_ft 109 2 = some (.iload_n 2, 1) := by decide +kernel
theorem r109_2 {E : Nat → Value} {d : Nat} {st : List Value} {h : gm_H} {Q : gm_R → gm_H → Prop} {a0 a1 a3 : Value} {x : Int32} : gm_W E d 109 2 [a0, a1, .int x, a3] st h Q ↔ gm_W E d 109 3 [a0, a1, .int x, a3] (.int x :: st) h Q := gw_loc m109 f109_2 rfl rfl
theorem f109_3 : gm_ft 109 3 = some (.aload_n 0, 1) := by decide +kernel
theorem r109_3 {E : Nat → Value} {d : Nat} {st : List Value} {h : gm_H} {Q : gm_R → gm_H → Prop} {a1 a2 a3 : Value} {x : Nat} : gm_W E d 109 3 [.ref x, a1, a2, a3] st h Q ↔ gm_W E d 109 4 [.ref x, a1, a2, a3] (.ref x :: st) h Q := gw_loc m109 f109_3 rfl rfl
theorem r109_3n {E : Nat → Value} {d : Nat} {st : List Value} {h : gm_H} {Q : gm_R → gm_H → Prop} {a1 a2 a3 : Value}  : gm_W E d 109 3 [.null, a1, a2, a3] st h Q ↔ gm_W E d 109 4 [.null, a1, a2, a3] (.null :: st) h Q := gw_loc m109 f109_3 rfl rfl
theorem f109_4 : gm_ft 109 4 = some (.getfield 29, 3) := by decide +kernel
theorem r109_4 {E : Nat → Value} {d : Nat} {st : List Value} {h : gm_H} {Q : gm_R → gm_H → Prop} {lv : List Value} {a : Nat} (hk : gm_kd h a = 1) : gm_W E d 109 4 lv (.ref a :: st) h Q ↔ gm_W E d 109 7 lv (gm_fv h a 4 :: st) h Q := gw_rd m109 f109_4 rfl rfl rfl rfl (gs_get k1_29 hk (by decide))
theorem f109_7 : gm_ft 109 7 = some (.if_icmp .ge 63, 3) := by decide +kernel
theorem r109_7 {E : Nat → Value} {d : Nat} {st : List Value} {h : gm_H} {Q : gm_R → gm_H → Prop} {lv : List Value} {x y : Int32} : gm_W E d 109 7 lv (.int y :: .int x :: st) h Q ↔ (if y ≤ x then gm_W E d 109 70 lv st h Q else gm_W E d 109 10 lv st h Q) := (gw_br m109 f109_7 rfl rfl rfl rfl).trans gw_if
theorem f109_10 : gm_ft 109 10 = some (.aload_n 1, 1) := by decide +kernel
theorem r109_10 {E : Nat → Value} {d : Nat} {st : List Value} {h : gm_H} {Q : gm_R → gm_H → Prop} {a0 a2 a3 : Value} {x : Nat} : gm_W E d 109 10 [a0, .ref x, a2, a3] st h Q ↔ gm_W E d 109 11 [a0, .ref x, a2, a3] (.ref x :: st) h Q := gw_loc m109 f109_10 rfl rfl
theorem r109_10n {E : Nat → Value} {d : Nat} {st : List Value} {h : gm_H} {Q : gm_R → gm_H → Prop} {a0 a2 a3 : Value}  : gm_W E d 109 10 [a0, .null, a2, a3] st h Q ↔ gm_W E d 109 11 [a0, .null, a2, a3] (.null :: st) h Q := gw_loc m109 f109_10 rfl rfl
theorem f109_11 : gm_ft 109 11 = some (.aload_n 0, 1) := by decide +kernel
theorem r109_11 {E : Nat → Value} {d : Nat} {st : List Value} {h : gm_H} {Q : gm_R → gm_H → Prop} {a1 a2 a3 : Value} {x : Nat} : gm_W E d 109 11 [.ref x, a1, a2, a3] st h Q ↔ gm_W E d 109 12 [.ref x, a1, a2, a3] (.ref x :: st) h Q := gw_loc m109 f109_11 rfl rfl
theorem r109_11n {E : Nat → Value} {d : Nat} {st : List Value} {h : gm_H} {Q : gm_R → gm_H → Prop} {a1 a2 a3 : Value}  : gm_W E d 109 11 [.null, a1, a2, a3] st h Q ↔ gm_W E d 109 12 [.null, a1, a2, a3] (.null :: st) h Q := gw_loc m109 f109_11 rfl rfl
theorem f109_12 : gm_ft 109 12 = some (.getfield 32, 3) := by decide +kernel
theorem r109_12 {E : Nat → Value} {d : Nat} {st : List Value} {h : gm_H} {Q : gm_R → gm_H → Prop} {lv : List Value} {a : Nat} (hk : gm_kd h a = 1) : gm_W E d 109 12 lv (.ref a :: st) h Q ↔ gm_W E d 109 15 lv (gm_fv h a 5 :: st) h Q := gw_rd m109 f109_12 rfl rfl rfl rfl (gs_get k1_32 hk (by decide))
theorem f109_15 : gm_ft 109 15 = some (.iload_n 2, 1) := by decide +kernel
theorem r109_15 {E : Nat → Value} {d : Nat} {st : List Value} {h : gm_H} {Q : gm_R → gm_H → Prop} {a0 a1 a3 : Value} {x : Int32} : gm_W E d 109 15 [a0, a1, .int x, a3] st h Q ↔ gm_W E d 109 16 [a0, a1, .int x, a3] (.int x :: st) h Q := gw_loc m109 f109_15 rfl rfl
theorem f109_16 : gm_ft 109 16 = some (.iaload, 1) := by decide +kernel
theorem r109_16 {E : Nat → Value} {d : Nat} {st : List Value} {h : gm_H} {Q : gm_R → gm_H → Prop} {lv : List Value} {a j : Nat} (hk : gm_kd h a % 100 = 0 ∧ 100 ≤ gm_kd h a ∧ gm_kd h a < 900) (hj : j < gm_ln h a) (hl : gm_ln h a < 2 ^ 31) : gm_W E d 109 16 lv (.int (nI j) :: .ref a :: st) h Q ↔ gm_W E d 109 17 lv (gm_fv h a j :: st) h Q := gw_rd m109 f109_16 rfl rfl rfl rfl (gs_ld (P := fun t => t == 0) hk.2 (by have := hk.1; simp [this] <;> omega) hj hl)
theorem f109_17 : gm_ft 109 17 = some (.invokevirtual 60, 3) := by decide +kernel
theorem c109_17 {E : Nat → Value} {d : Nat} {st : List Value} {h : gm_H} {Q : gm_R → gm_H → Prop} {lv : List Value} {b0 : Int32} {a : Nat} {Qc : gm_R → gm_H → Prop} (hs : (st.map fun v => v.category).sum ≤ 8) (hr : gm_kd h a = 3) (hd : 1 ≤ d) (hc : gm_Ca E (d - 1) 115 [.ref a, .int b0] h Qc) (kn : ∀ (v9 : Option Value) (h9 : gm_H), Qc (.inl v9) h9 → gm_W E d 109 20 lv (v9.toList ++ st) h9 Q) (kx : ∀ (x9 : Nat) (h9 : gm_H), Qc (.inr x9) h9 → Q (.inr x9) h9) : gm_W E d 109 17 lv (.int b0 :: .ref a :: st) h Q := gw_call (gn_call m109 f109_17 rfl rfl rfl rfl rfl rfl rfl (gs_virt (bs := [.int b0]) (w := 500) (L := 3) rfl rfl rfl rfl hs (by simp [gm_en1]) hr (by decide)) (by decide)) m109 rfl rfl hd hc kn kx
theorem f109_20 : gm_ft 109 20 = some (.istore_n 3, 1) := by decide +kernel
theorem r109_20 {E : Nat → Value} {d : Nat} {st : List Value} {h : gm_H} {Q : gm_R → gm_H → Prop} {a0 a1 a2 a3 : Value} {x : Int32} : gm_W E d 109 20 [a0, a1, a2, a3] (.int x :: st) h Q ↔ gm_W E d 109 21 [a0, a1, gm_k a2, .int x] st h Q := gw_loc m109 f109_20 rfl rfl
theorem f109_21 : gm_ft 109 21 = some (.iload_n 3, 1) := by decide +kernel
theorem r109_21 {E : Nat → Value} {d : Nat} {st : List Value} {h : gm_H} {Q : gm_R → gm_H → Prop} {a0 a1 a2 : Value} {x : Int32} : gm_W E d 109 21 [a0, a1, a2, .int x] st h Q ↔ gm_W E d 109 22 [a0, a1, a2, .int x] (.int x :: st) h Q := gw_loc m109 f109_21 rfl rfl
theorem f109_22 : gm_ft 109 22 = some (.ifCond .lt 42, 3) := by decide +kernel
theorem r109_22 {E : Nat → Value} {d : Nat} {st : List Value} {h : gm_H} {Q : gm_R → gm_H → Prop} {lv : List Value} {x : Int32} : gm_W E d 109 22 lv (.int x :: st) h Q ↔ (if x < 0 then gm_W E d 109 64 lv st h Q else gm_W E d 109 25 lv st h Q) := (gw_br m109 f109_22 rfl rfl rfl rfl).trans gw_if
theorem f109_25 : gm_ft 109 25 = some (.aload_n 0, 1) := by decide +kernel
theorem r109_25 {E : Nat → Value} {d : Nat} {st : List Value} {h : gm_H} {Q : gm_R → gm_H → Prop} {a1 a2 a3 : Value} {x : Nat} : gm_W E d 109 25 [.ref x, a1, a2, a3] st h Q ↔ gm_W E d 109 26 [.ref x, a1, a2, a3] (.ref x :: st) h Q := gw_loc m109 f109_25 rfl rfl
theorem r109_25n {E : Nat → Value} {d : Nat} {st : List Value} {h : gm_H} {Q : gm_R → gm_H → Prop} {a1 a2 a3 : Value}  : gm_W E d 109 25 [.null, a1, a2, a3] st h Q ↔ gm_W E d 109 26 [.null, a1, a2, a3] (.null :: st) h Q := gw_loc m109 f109_25 rfl rfl
theorem f109_26 : gm_ft 109 26 = some (.getfield 36, 3) := by decide +kernel
theorem r109_26 {E : Nat → Value} {d : Nat} {st : List Value} {h : gm_H} {Q : gm_R → gm_H → Prop} {lv : List Value} {a : Nat} (hk : gm_kd h a = 1) : gm_W E d 109 26 lv (.ref a :: st) h Q ↔ gm_W E d 109 29 lv (gm_fv h a 6 :: st) h Q := gw_rd m109 f109_26 rfl rfl rfl rfl (gs_get k1_36 hk (by decide))
theorem f109_29 : gm_ft 109 29 = some (.iload_n 2, 1) := by decide +kernel
theorem r109_29 {E : Nat → Value} {d : Nat} {st : List Value} {h : gm_H} {Q : gm_R → gm_H → Prop} {a0 a1 a3 : Value} {x : Int32} : gm_W E d 109 29 [a0, a1, .int x, a3] st h Q ↔ gm_W E d 109 30 [a0, a1, .int x, a3] (.int x :: st) h Q := gw_loc m109 f109_29 rfl rfl
theorem f109_30 : gm_ft 109 30 = some (.iaload, 1) := by decide +kernel
theorem r109_30 {E : Nat → Value} {d : Nat} {st : List Value} {h : gm_H} {Q : gm_R → gm_H → Prop} {lv : List Value} {a j : Nat} (hk : gm_kd h a % 100 = 0 ∧ 100 ≤ gm_kd h a ∧ gm_kd h a < 900) (hj : j < gm_ln h a) (hl : gm_ln h a < 2 ^ 31) : gm_W E d 109 30 lv (.int (nI j) :: .ref a :: st) h Q ↔ gm_W E d 109 31 lv (gm_fv h a j :: st) h Q := gw_rd m109 f109_30 rfl rfl rfl rfl (gs_ld (P := fun t => t == 0) hk.2 (by have := hk.1; simp [this] <;> omega) hj hl)
theorem f109_31 : gm_ft 109 31 = some (.aload_n 1, 1) := by decide +kernel
theorem r109_31 {E : Nat → Value} {d : Nat} {st : List Value} {h : gm_H} {Q : gm_R → gm_H → Prop} {a0 a2 a3 : Value} {x : Nat} : gm_W E d 109 31 [a0, .ref x, a2, a3] st h Q ↔ gm_W E d 109 32 [a0, .ref x, a2, a3] (.ref x :: st) h Q := gw_loc m109 f109_31 rfl rfl
theorem r109_31n {E : Nat → Value} {d : Nat} {st : List Value} {h : gm_H} {Q : gm_R → gm_H → Prop} {a0 a2 a3 : Value}  : gm_W E d 109 31 [a0, .null, a2, a3] st h Q ↔ gm_W E d 109 32 [a0, .null, a2, a3] (.null :: st) h Q := gw_loc m109 f109_31 rfl rfl
theorem f109_32 : gm_ft 109 32 = some (.getfield 64, 3) := by decide +kernel
theorem r109_32 {E : Nat → Value} {d : Nat} {st : List Value} {h : gm_H} {Q : gm_R → gm_H → Prop} {lv : List Value} {a : Nat} (hk : gm_kd h a = 3) : gm_W E d 109 32 lv (.ref a :: st) h Q ↔ gm_W E d 109 35 lv (gm_fv h a 5 :: st) h Q := gw_rd m109 f109_32 rfl rfl rfl rfl (gs_get k1_64 hk (by decide))
theorem f109_35 : gm_ft 109 35 = some (.iload_n 3, 1) := by decide +kernel
theorem r109_35 {E : Nat → Value} {d : Nat} {st : List Value} {h : gm_H} {Q : gm_R → gm_H → Prop} {a0 a1 a2 : Value} {x : Int32} : gm_W E d 109 35 [a0, a1, a2, .int x] st h Q ↔ gm_W E d 109 36 [a0, a1, a2, .int x] (.int x :: st) h Q := gw_loc m109 f109_35 rfl rfl
theorem f109_36 : gm_ft 109 36 = some (.iaload, 1) := by decide +kernel
theorem r109_36 {E : Nat → Value} {d : Nat} {st : List Value} {h : gm_H} {Q : gm_R → gm_H → Prop} {lv : List Value} {a j : Nat} (hk : gm_kd h a % 100 = 0 ∧ 100 ≤ gm_kd h a ∧ gm_kd h a < 900) (hj : j < gm_ln h a) (hl : gm_ln h a < 2 ^ 31) : gm_W E d 109 36 lv (.int (nI j) :: .ref a :: st) h Q ↔ gm_W E d 109 37 lv (gm_fv h a j :: st) h Q := gw_rd m109 f109_36 rfl rfl rfl rfl (gs_ld (P := fun t => t == 0) hk.2 (by have := hk.1; simp [this] <;> omega) hj hl)
theorem f109_37 : gm_ft 109 37 = some (.if_icmp .eq 27, 3) := by decide +kernel
theorem r109_37 {E : Nat → Value} {d : Nat} {st : List Value} {h : gm_H} {Q : gm_R → gm_H → Prop} {lv : List Value} {x y : Int32} : gm_W E d 109 37 lv (.int y :: .int x :: st) h Q ↔ (if x = y then gm_W E d 109 64 lv st h Q else gm_W E d 109 40 lv st h Q) := (gw_br m109 f109_37 rfl rfl rfl rfl).trans gw_if
theorem f109_40 : gm_ft 109 40 = some (.aload_n 0, 1) := by decide +kernel
theorem r109_40 {E : Nat → Value} {d : Nat} {st : List Value} {h : gm_H} {Q : gm_R → gm_H → Prop} {a1 a2 a3 : Value} {x : Nat} : gm_W E d 109 40 [.ref x, a1, a2, a3] st h Q ↔ gm_W E d 109 41 [.ref x, a1, a2, a3] (.ref x :: st) h Q := gw_loc m109 f109_40 rfl rfl
theorem r109_40n {E : Nat → Value} {d : Nat} {st : List Value} {h : gm_H} {Q : gm_R → gm_H → Prop} {a1 a2 a3 : Value}  : gm_W E d 109 40 [.null, a1, a2, a3] st h Q ↔ gm_W E d 109 41 [.null, a1, a2, a3] (.null :: st) h Q := gw_loc m109 f109_40 rfl rfl
theorem f109_41 : gm_ft 109 41 = some (.getfield 36, 3) := by decide +kernel
theorem r109_41 {E : Nat → Value} {d : Nat} {st : List Value} {h : gm_H} {Q : gm_R → gm_H → Prop} {lv : List Value} {a : Nat} (hk : gm_kd h a = 1) : gm_W E d 109 41 lv (.ref a :: st) h Q ↔ gm_W E d 109 44 lv (gm_fv h a 6 :: st) h Q := gw_rd m109 f109_41 rfl rfl rfl rfl (gs_get k1_36 hk (by decide))
theorem f109_44 : gm_ft 109 44 = some (.iload_n 2, 1) := by decide +kernel
theorem r109_44 {E : Nat → Value} {d : Nat} {st : List Value} {h : gm_H} {Q : gm_R → gm_H → Prop} {a0 a1 a3 : Value} {x : Int32} : gm_W E d 109 44 [a0, a1, .int x, a3] st h Q ↔ gm_W E d 109 45 [a0, a1, .int x, a3] (.int x :: st) h Q := gw_loc m109 f109_44 rfl rfl
theorem f109_45 : gm_ft 109 45 = some (.iaload, 1) := by decide +kernel
theorem r109_45 {E : Nat → Value} {d : Nat} {st : List Value} {h : gm_H} {Q : gm_R → gm_H → Prop} {lv : List Value} {a j : Nat} (hk : gm_kd h a % 100 = 0 ∧ 100 ≤ gm_kd h a ∧ gm_kd h a < 900) (hj : j < gm_ln h a) (hl : gm_ln h a < 2 ^ 31) : gm_W E d 109 45 lv (.int (nI j) :: .ref a :: st) h Q ↔ gm_W E d 109 46 lv (gm_fv h a j :: st) h Q := gw_rd m109 f109_45 rfl rfl rfl rfl (gs_ld (P := fun t => t == 0) hk.2 (by have := hk.1; simp [this] <;> omega) hj hl)
theorem f109_46 : gm_ft 109 46 = some (.bipush 6, 2) := by decide +kernel
theorem r109_46 {E : Nat → Value} {d : Nat} {st : List Value} {h : gm_H} {Q : gm_R → gm_H → Prop} {lv : List Value} : gm_W E d 109 46 lv st h Q ↔ gm_W E d 109 48 lv (.int (6 : Int32) :: st) h Q := gw_pure m109 f109_46 rfl
theorem f109_48 : gm_ft 109 48 = some (.if_icmp .lt 14, 3) := by decide +kernel
theorem r109_48 {E : Nat → Value} {d : Nat} {st : List Value} {h : gm_H} {Q : gm_R → gm_H → Prop} {lv : List Value} {x y : Int32} : gm_W E d 109 48 lv (.int y :: .int x :: st) h Q ↔ (if x < y then gm_W E d 109 62 lv st h Q else gm_W E d 109 51 lv st h Q) := (gw_br m109 f109_48 rfl rfl rfl rfl).trans gw_if
theorem f109_51 : gm_ft 109 51 = some (.aload_n 1, 1) := by decide +kernel
theorem r109_51 {E : Nat → Value} {d : Nat} {st : List Value} {h : gm_H} {Q : gm_R → gm_H → Prop} {a0 a2 a3 : Value} {x : Nat} : gm_W E d 109 51 [a0, .ref x, a2, a3] st h Q ↔ gm_W E d 109 52 [a0, .ref x, a2, a3] (.ref x :: st) h Q := gw_loc m109 f109_51 rfl rfl
theorem r109_51n {E : Nat → Value} {d : Nat} {st : List Value} {h : gm_H} {Q : gm_R → gm_H → Prop} {a0 a2 a3 : Value}  : gm_W E d 109 51 [a0, .null, a2, a3] st h Q ↔ gm_W E d 109 52 [a0, .null, a2, a3] (.null :: st) h Q := gw_loc m109 f109_51 rfl rfl
theorem f109_52 : gm_ft 109 52 = some (.getfield 64, 3) := by decide +kernel
theorem r109_52 {E : Nat → Value} {d : Nat} {st : List Value} {h : gm_H} {Q : gm_R → gm_H → Prop} {lv : List Value} {a : Nat} (hk : gm_kd h a = 3) : gm_W E d 109 52 lv (.ref a :: st) h Q ↔ gm_W E d 109 55 lv (gm_fv h a 5 :: st) h Q := gw_rd m109 f109_52 rfl rfl rfl rfl (gs_get k1_64 hk (by decide))
theorem f109_55 : gm_ft 109 55 = some (.iload_n 3, 1) := by decide +kernel
theorem r109_55 {E : Nat → Value} {d : Nat} {st : List Value} {h : gm_H} {Q : gm_R → gm_H → Prop} {a0 a1 a2 : Value} {x : Int32} : gm_W E d 109 55 [a0, a1, a2, .int x] st h Q ↔ gm_W E d 109 56 [a0, a1, a2, .int x] (.int x :: st) h Q := gw_loc m109 f109_55 rfl rfl
theorem f109_56 : gm_ft 109 56 = some (.iaload, 1) := by decide +kernel
theorem r109_56 {E : Nat → Value} {d : Nat} {st : List Value} {h : gm_H} {Q : gm_R → gm_H → Prop} {lv : List Value} {a j : Nat} (hk : gm_kd h a % 100 = 0 ∧ 100 ≤ gm_kd h a ∧ gm_kd h a < 900) (hj : j < gm_ln h a) (hl : gm_ln h a < 2 ^ 31) : gm_W E d 109 56 lv (.int (nI j) :: .ref a :: st) h Q ↔ gm_W E d 109 57 lv (gm_fv h a j :: st) h Q := gw_rd m109 f109_56 rfl rfl rfl rfl (gs_ld (P := fun t => t == 0) hk.2 (by have := hk.1; simp [this] <;> omega) hj hl)
theorem f109_57 : gm_ft 109 57 = some (.bipush 6, 2) := by decide +kernel
theorem r109_57 {E : Nat → Value} {d : Nat} {st : List Value} {h : gm_H} {Q : gm_R → gm_H → Prop} {lv : List Value} : gm_W E d 109 57 lv st h Q ↔ gm_W E d 109 59 lv (.int (6 : Int32) :: st) h Q := gw_pure m109 f109_57 rfl
theorem f109_59 : gm_ft 109 59 = some (.if_icmp .ge 5, 3) := by decide +kernel
theorem r109_59 {E : Nat → Value} {d : Nat} {st : List Value} {h : gm_H} {Q : gm_R → gm_H → Prop} {lv : List Value} {x y : Int32} : gm_W E d 109 59 lv (.int y :: .int x :: st) h Q ↔ (if y ≤ x then gm_W E d 109 64 lv st h Q else gm_W E d 109 62 lv st h Q) := (gw_br m109 f109_59 rfl rfl rfl rfl).trans gw_if
theorem f109_62 : gm_ft 109 62 = some (.iconst 0, 1) := by decide +kernel
theorem r109_62 {E : Nat → Value} {d : Nat} {st : List Value} {h : gm_H} {Q : gm_R → gm_H → Prop} {lv : List Value} : gm_W E d 109 62 lv st h Q ↔ gm_W E d 109 63 lv (.int (0 : Int32) :: st) h Q := gw_pure m109 f109_62 rfl
theorem f109_63 : gm_ft 109 63 = some (.ireturn, 1) := by decide +kernel
theorem r109_63 {E : Nat → Value} {d : Nat} {h : gm_H} {Q : gm_R → gm_H → Prop} {lv : List Value} {x : Int32} (hx : x = 0 ∨ x = 1) : gm_W E d 109 63 lv [.int x] h Q ↔ Q (.inl (some (.int x))) h := gw_ret m109 f109_63 rfl rfl rfl rfl rfl rfl rfl rfl (by unfold gm_rt; dsimp only; rw [if_pos ⟨rfl, (gs_nb hx).1⟩])
theorem f109_64 : gm_ft 109 64 = some (.iinc 2 1, 3) := by decide +kernel
theorem r109_64 {E : Nat → Value} {d : Nat} {st : List Value} {h : gm_H} {Q : gm_R → gm_H → Prop} {a0 a1 a3 : Value} {x : Int32} : gm_W E d 109 64 [a0, a1, .int x, a3] st h Q ↔ gm_W E d 109 67 [a0, gm_k a1, .int (x + (1 : Int32)), a3] st h Q := gw_loc m109 f109_64 rfl rfl
theorem f109_67 : gm_ft 109 67 = some (.goto (-65), 3) := by decide +kernel
theorem r109_67 {E : Nat → Value} {d : Nat} {st : List Value} {h : gm_H} {Q : gm_R → gm_H → Prop} {lv : List Value} : gm_W E d 109 67 lv st h Q ↔ gm_W E d 109 2 lv st h Q := gw_brT m109 f109_67 rfl rfl rfl rfl
theorem f109_70 : gm_ft 109 70 = some (.iconst 1, 1) := by decide +kernel
theorem r109_70 {E : Nat → Value} {d : Nat} {st : List Value} {h : gm_H} {Q : gm_R → gm_H → Prop} {lv : List Value} : gm_W E d 109 70 lv st h Q ↔ gm_W E d 109 71 lv (.int (1 : Int32) :: st) h Q := gw_pure m109 f109_70 rfl
theorem f109_71 : gm_ft 109 71 = some (.ireturn, 1) := by decide +kernel
theorem r109_71 {E : Nat → Value} {d : Nat} {h : gm_H} {Q : gm_R → gm_H → Prop} {lv : List Value} {x : Int32} (hx : x = 0 ∨ x = 1) : gm_W E d 109 71 lv [.int x] h Q ↔ Q (.inl (some (.int x))) h := gw_ret m109 f109_71 rfl rfl rfl rfl rfl rfl rfl rfl (by unfold gm_rt; dsimp only; rw [if_pos ⟨rfl, (gs_nb hx).1⟩])
/-! GraphReader$Handles.<init>()V -/
theorem m110 : gm_mt[110]? = some (⟨"GraphReader$Handles", "<init>", "()V"⟩, prog_3_method_1_code, 1, none, [], 2, 1) := rfl
theorem f110_0 : gm_ft 110 0 = some (.aload_n 0, 1) := by decide +kernel
theorem r110_0 {E : Nat → Value} {d : Nat} {st : List Value} {h : gm_H} {Q : gm_R → gm_H → Prop}  {x : Nat} : gm_W E d 110 0 [.ref x] st h Q ↔ gm_W E d 110 1 [.ref x] (.ref x :: st) h Q := gw_loc m110 f110_0 rfl rfl
theorem r110_0n {E : Nat → Value} {d : Nat} {st : List Value} {h : gm_H} {Q : gm_R → gm_H → Prop}   : gm_W E d 110 0 [.null] st h Q ↔ gm_W E d 110 1 [.null] (.null :: st) h Q := gw_loc m110 f110_0 rfl rfl
theorem f110_1 : gm_ft 110 1 = some (.invokespecial 3, 3) := by decide +kernel
theorem r110_1 {E : Nat → Value} {d : Nat} {st : List Value} {h : gm_H} {Q : gm_R → gm_H → Prop} {lv : List Value} {a : Nat} (hs : (st.map fun v => v.category).sum ≤ 8) : gm_W E d 110 1 lv (.ref a :: st) h Q ↔ gm_W E d 110 4 lv st h Q := gw_oi m110 f110_1 rfl rfl rfl rfl rfl rfl rfl (gc_spec (w := 34) rfl hs (by decide))
theorem f110_4 : gm_ft 110 4 = some (.aload_n 0, 1) := by decide +kernel
theorem r110_4 {E : Nat → Value} {d : Nat} {st : List Value} {h : gm_H} {Q : gm_R → gm_H → Prop}  {x : Nat} : gm_W E d 110 4 [.ref x] st h Q ↔ gm_W E d 110 5 [.ref x] (.ref x :: st) h Q := gw_loc m110 f110_4 rfl rfl
theorem r110_4n {E : Nat → Value} {d : Nat} {st : List Value} {h : gm_H} {Q : gm_R → gm_H → Prop}   : gm_W E d 110 4 [.null] st h Q ↔ gm_W E d 110 5 [.null] (.null :: st) h Q := gw_loc m110 f110_4 rfl rfl
theorem f110_5 : gm_ft 110 5 = some (.sipush 234, 3) := by decide +kernel
theorem r110_5 {E : Nat → Value} {d : Nat} {st : List Value} {h : gm_H} {Q : gm_R → gm_H → Prop} {lv : List Value} : gm_W E d 110 5 lv st h Q ↔ gm_W E d 110 8 lv (.int (234 : Int32) :: st) h Q := gw_pure m110 f110_5 rfl
theorem f110_8 : gm_ft 110 8 = some (.newarray .int, 2) := by decide +kernel
theorem r110_8 {E : Nat → Value} {d : Nat} {st : List Value} {h : gm_H} {Q : gm_R → gm_H → Prop} {lv : List Value} : gm_W E d 110 8 lv (.int (234 : Int32) :: st) h Q ↔ gm_W E d 110 10 lv (.ref h.1 :: st) (gm_nw h (100, List.replicate 234 (.int 0)) 234) Q := gw_nw m110 f110_8 rfl rfl rfl rfl rfl rfl rfl
theorem f110_10 : gm_ft 110 10 = some (.putfield 9, 3) := by decide +kernel
theorem r110_10 {E : Nat → Value} {d : Nat} {st : List Value} {h : gm_H} {Q : gm_R → gm_H → Prop} {lv : List Value} {a : Nat} {b : Nat} (hk : gm_kd h a = 2) : gm_W E d 110 10 lv (.ref b :: .ref a :: st) h Q ↔ gm_W E d 110 13 lv st (gm_sf h a 0 (.ref b)) Q := gw_wr m110 f110_10 rfl rfl rfl rfl rfl (gs_put k2_9 hk (by decide) (by decide) ⟨rfl, rfl⟩ (by decide))
theorem r110_10n {E : Nat → Value} {d : Nat} {st : List Value} {h : gm_H} {Q : gm_R → gm_H → Prop} {lv : List Value} {a : Nat} (hk : gm_kd h a = 2) : gm_W E d 110 10 lv (.null :: .ref a :: st) h Q ↔ gm_W E d 110 13 lv st (gm_sf h a 0 (.null)) Q := gw_wr m110 f110_10 rfl rfl rfl rfl rfl (gs_put k2_9 hk (by decide) (by decide) ⟨rfl, rfl⟩ (by decide))
theorem f110_13 : gm_ft 110 13 = some (.aload_n 0, 1) := by decide +kernel
theorem r110_13 {E : Nat → Value} {d : Nat} {st : List Value} {h : gm_H} {Q : gm_R → gm_H → Prop}  {x : Nat} : gm_W E d 110 13 [.ref x] st h Q ↔ gm_W E d 110 14 [.ref x] (.ref x :: st) h Q := gw_loc m110 f110_13 rfl rfl
theorem r110_13n {E : Nat → Value} {d : Nat} {st : List Value} {h : gm_H} {Q : gm_R → gm_H → Prop}   : gm_W E d 110 13 [.null] st h Q ↔ gm_W E d 110 14 [.null] (.null :: st) h Q := gw_loc m110 f110_13 rfl rfl
theorem f110_14 : gm_ft 110 14 = some (.sipush 234, 3) := by decide +kernel
theorem r110_14 {E : Nat → Value} {d : Nat} {st : List Value} {h : gm_H} {Q : gm_R → gm_H → Prop} {lv : List Value} : gm_W E d 110 14 lv st h Q ↔ gm_W E d 110 17 lv (.int (234 : Int32) :: st) h Q := gw_pure m110 f110_14 rfl
theorem f110_17 : gm_ft 110 17 = some (.anewarray 15, 3) := by decide +kernel
theorem r110_17 {E : Nat → Value} {d : Nat} {st : List Value} {h : gm_H} {Q : gm_R → gm_H → Prop} {lv : List Value} : gm_W E d 110 17 lv (.int (234 : Int32) :: st) h Q ↔ gm_W E d 110 20 lv (.ref h.1 :: st) (gm_nw h (112, List.replicate 234 (.null)) 234) Q := gw_nw m110 f110_17 rfl rfl rfl rfl rfl rfl rfl
theorem f110_20 : gm_ft 110 20 = some (.putfield 17, 3) := by decide +kernel
theorem r110_20 {E : Nat → Value} {d : Nat} {st : List Value} {h : gm_H} {Q : gm_R → gm_H → Prop} {lv : List Value} {a : Nat} {b : Nat} (hk : gm_kd h a = 2) : gm_W E d 110 20 lv (.ref b :: .ref a :: st) h Q ↔ gm_W E d 110 23 lv st (gm_sf h a 1 (.ref b)) Q := gw_wr m110 f110_20 rfl rfl rfl rfl rfl (gs_put k2_17 hk (by decide) (by decide) ⟨rfl, rfl⟩ (by decide))
theorem r110_20n {E : Nat → Value} {d : Nat} {st : List Value} {h : gm_H} {Q : gm_R → gm_H → Prop} {lv : List Value} {a : Nat} (hk : gm_kd h a = 2) : gm_W E d 110 20 lv (.null :: .ref a :: st) h Q ↔ gm_W E d 110 23 lv st (gm_sf h a 1 (.null)) Q := gw_wr m110 f110_20 rfl rfl rfl rfl rfl (gs_put k2_17 hk (by decide) (by decide) ⟨rfl, rfl⟩ (by decide))
theorem f110_23 : gm_ft 110 23 = some (.return_, 1) := by decide +kernel
theorem r110_23 {E : Nat → Value} {d : Nat} {h : gm_H} {Q : gm_R → gm_H → Prop} {lv : List Value} : gm_W E d 110 23 lv [] h Q ↔ Q (.inl none) h := gw_ret m110 f110_23 rfl rfl rfl rfl rfl rfl rfl rfl rfl
/-! GraphReader$Handles.size()I -/
theorem m111 : gm_mt[111]? = some (⟨"GraphReader$Handles", "size", "()I"⟩, prog_3_method_2_code, 1, (some .int), [], 2, 1) := rfl
theorem f111_0 : gm_ft 111 0 = some (.aload_n 0, 1) := by decide +kernel
theorem r111_0 {E : Nat → Value} {d : Nat} {st : List Value} {h : gm_H} {Q : gm_R → gm_H → Prop}  {x : Nat} : gm_W E d 111 0 [.ref x] st h Q ↔ gm_W E d 111 1 [.ref x] (.ref x :: st) h Q := gw_loc m111 f111_0 rfl rfl
theorem r111_0n {E : Nat → Value} {d : Nat} {st : List Value} {h : gm_H} {Q : gm_R → gm_H → Prop}   : gm_W E d 111 0 [.null] st h Q ↔ gm_W E d 111 1 [.null] (.null :: st) h Q := gw_loc m111 f111_0 rfl rfl
theorem f111_1 : gm_ft 111 1 = some (.getfield 21, 3) := by decide +kernel
theorem r111_1 {E : Nat → Value} {d : Nat} {st : List Value} {h : gm_H} {Q : gm_R → gm_H → Prop} {lv : List Value} {a : Nat} (hk : gm_kd h a = 2) : gm_W E d 111 1 lv (.ref a :: st) h Q ↔ gm_W E d 111 4 lv (gm_fv h a 3 :: st) h Q := gw_rd m111 f111_1 rfl rfl rfl rfl (gs_get k2_21 hk (by decide))
theorem f111_4 : gm_ft 111 4 = some (.aload_n 0, 1) := by decide +kernel
theorem r111_4 {E : Nat → Value} {d : Nat} {st : List Value} {h : gm_H} {Q : gm_R → gm_H → Prop}  {x : Nat} : gm_W E d 111 4 [.ref x] st h Q ↔ gm_W E d 111 5 [.ref x] (.ref x :: st) h Q := gw_loc m111 f111_4 rfl rfl
theorem r111_4n {E : Nat → Value} {d : Nat} {st : List Value} {h : gm_H} {Q : gm_R → gm_H → Prop}   : gm_W E d 111 4 [.null] st h Q ↔ gm_W E d 111 5 [.null] (.null :: st) h Q := gw_loc m111 f111_4 rfl rfl
theorem f111_5 : gm_ft 111 5 = some (.getfield 25, 3) := by decide +kernel
theorem r111_5 {E : Nat → Value} {d : Nat} {st : List Value} {h : gm_H} {Q : gm_R → gm_H → Prop} {lv : List Value} {a : Nat} (hk : gm_kd h a = 2) : gm_W E d 111 5 lv (.ref a :: st) h Q ↔ gm_W E d 111 8 lv (gm_fv h a 2 :: st) h Q := gw_rd m111 f111_5 rfl rfl rfl rfl (gs_get k2_25 hk (by decide))
theorem f111_8 : gm_ft 111 8 = some (.isub, 1) := by decide +kernel
theorem r111_8 {E : Nat → Value} {d : Nat} {st : List Value} {h : gm_H} {Q : gm_R → gm_H → Prop} {lv : List Value} {x y : Int32} : gm_W E d 111 8 lv (.int y :: .int x :: st) h Q ↔ gm_W E d 111 9 lv (.int (x - y) :: st) h Q := gw_pure m111 f111_8 rfl
theorem f111_9 : gm_ft 111 9 = some (.ireturn, 1) := by decide +kernel
theorem r111_9 {E : Nat → Value} {d : Nat} {h : gm_H} {Q : gm_R → gm_H → Prop} {lv : List Value} {x : Int32} : gm_W E d 111 9 lv [.int x] h Q ↔ Q (.inl (some (.int x))) h := gw_ret m111 f111_9 rfl rfl rfl rfl rfl rfl rfl rfl (by unfold gm_rt; dsimp only; rw [if_pos ⟨rfl, rfl⟩])
/-! GraphReader$Handles.rewind(II)V -/
theorem m112 : gm_mt[112]? = some (⟨"GraphReader$Handles", "rewind", "(II)V"⟩, prog_3_method_3_code, 3, none, [], 2, 1) := rfl
theorem f112_0 : gm_ft 112 0 = some (.aload_n 0, 1) := by decide +kernel
theorem r112_0 {E : Nat → Value} {d : Nat} {st : List Value} {h : gm_H} {Q : gm_R → gm_H → Prop} {a1 a2 : Value} {x : Nat} : gm_W E d 112 0 [.ref x, a1, a2] st h Q ↔ gm_W E d 112 1 [.ref x, a1, a2] (.ref x :: st) h Q := gw_loc m112 f112_0 rfl rfl
theorem r112_0n {E : Nat → Value} {d : Nat} {st : List Value} {h : gm_H} {Q : gm_R → gm_H → Prop} {a1 a2 : Value}  : gm_W E d 112 0 [.null, a1, a2] st h Q ↔ gm_W E d 112 1 [.null, a1, a2] (.null :: st) h Q := gw_loc m112 f112_0 rfl rfl
theorem f112_1 : gm_ft 112 1 = some (.iload_n 1, 1) := by decide +kernel
theorem r112_1 {E : Nat → Value} {d : Nat} {st : List Value} {h : gm_H} {Q : gm_R → gm_H → Prop} {a0 a2 : Value} {x : Int32} : gm_W E d 112 1 [a0, .int x, a2] st h Q ↔ gm_W E d 112 2 [a0, .int x, a2] (.int x :: st) h Q := gw_loc m112 f112_1 rfl rfl
theorem f112_2 : gm_ft 112 2 = some (.putfield 25, 3) := by decide +kernel
theorem r112_2 {E : Nat → Value} {d : Nat} {st : List Value} {h : gm_H} {Q : gm_R → gm_H → Prop} {lv : List Value} {a : Nat} {x : Int32} (hk : gm_kd h a = 2) : gm_W E d 112 2 lv (.int x :: .ref a :: st) h Q ↔ gm_W E d 112 5 lv st (gm_sf h a 2 (.int x)) Q := gw_wr m112 f112_2 rfl rfl rfl rfl rfl (gs_put k2_25 hk (by decide) (by decide) ⟨rfl, rfl⟩ (by decide))
theorem f112_5 : gm_ft 112 5 = some (.aload_n 0, 1) := by decide +kernel
theorem r112_5 {E : Nat → Value} {d : Nat} {st : List Value} {h : gm_H} {Q : gm_R → gm_H → Prop} {a1 a2 : Value} {x : Nat} : gm_W E d 112 5 [.ref x, a1, a2] st h Q ↔ gm_W E d 112 6 [.ref x, a1, a2] (.ref x :: st) h Q := gw_loc m112 f112_5 rfl rfl
theorem r112_5n {E : Nat → Value} {d : Nat} {st : List Value} {h : gm_H} {Q : gm_R → gm_H → Prop} {a1 a2 : Value}  : gm_W E d 112 5 [.null, a1, a2] st h Q ↔ gm_W E d 112 6 [.null, a1, a2] (.null :: st) h Q := gw_loc m112 f112_5 rfl rfl
theorem f112_6 : gm_ft 112 6 = some (.iload_n 2, 1) := by decide +kernel
theorem r112_6 {E : Nat → Value} {d : Nat} {st : List Value} {h : gm_H} {Q : gm_R → gm_H → Prop} {a0 a1 : Value} {x : Int32} : gm_W E d 112 6 [a0, a1, .int x] st h Q ↔ gm_W E d 112 7 [a0, a1, .int x] (.int x :: st) h Q := gw_loc m112 f112_6 rfl rfl
theorem f112_7 : gm_ft 112 7 = some (.putfield 21, 3) := by decide +kernel
theorem r112_7 {E : Nat → Value} {d : Nat} {st : List Value} {h : gm_H} {Q : gm_R → gm_H → Prop} {lv : List Value} {a : Nat} {x : Int32} (hk : gm_kd h a = 2) : gm_W E d 112 7 lv (.int x :: .ref a :: st) h Q ↔ gm_W E d 112 10 lv st (gm_sf h a 3 (.int x)) Q := gw_wr m112 f112_7 rfl rfl rfl rfl rfl (gs_put k2_21 hk (by decide) (by decide) ⟨rfl, rfl⟩ (by decide))
theorem f112_10 : gm_ft 112 10 = some (.return_, 1) := by decide +kernel
theorem r112_10 {E : Nat → Value} {d : Nat} {h : gm_H} {Q : gm_R → gm_H → Prop} {lv : List Value} : gm_W E d 112 10 lv [] h Q ↔ Q (.inl none) h := gw_ret m112 f112_10 rfl rfl rfl rfl rfl rfl rfl rfl rfl
/-! GraphReader$Handles.add(I)I -/
theorem m113 : gm_mt[113]? = some (⟨"GraphReader$Handles", "add", "(I)I"⟩, prog_3_method_4_code, 2, (some .int), [], 2, 1) := rfl
theorem f113_0 : gm_ft 113 0 = some (.aload_n 0, 1) := by decide +kernel
theorem r113_0 {E : Nat → Value} {d : Nat} {st : List Value} {h : gm_H} {Q : gm_R → gm_H → Prop} {a1 : Value} {x : Nat} : gm_W E d 113 0 [.ref x, a1] st h Q ↔ gm_W E d 113 1 [.ref x, a1] (.ref x :: st) h Q := gw_loc m113 f113_0 rfl rfl
theorem r113_0n {E : Nat → Value} {d : Nat} {st : List Value} {h : gm_H} {Q : gm_R → gm_H → Prop} {a1 : Value}  : gm_W E d 113 0 [.null, a1] st h Q ↔ gm_W E d 113 1 [.null, a1] (.null :: st) h Q := gw_loc m113 f113_0 rfl rfl
theorem f113_1 : gm_ft 113 1 = some (.getfield 9, 3) := by decide +kernel
theorem r113_1 {E : Nat → Value} {d : Nat} {st : List Value} {h : gm_H} {Q : gm_R → gm_H → Prop} {lv : List Value} {a : Nat} (hk : gm_kd h a = 2) : gm_W E d 113 1 lv (.ref a :: st) h Q ↔ gm_W E d 113 4 lv (gm_fv h a 0 :: st) h Q := gw_rd m113 f113_1 rfl rfl rfl rfl (gs_get k2_9 hk (by decide))
theorem f113_4 : gm_ft 113 4 = some (.aload_n 0, 1) := by decide +kernel
theorem r113_4 {E : Nat → Value} {d : Nat} {st : List Value} {h : gm_H} {Q : gm_R → gm_H → Prop} {a1 : Value} {x : Nat} : gm_W E d 113 4 [.ref x, a1] st h Q ↔ gm_W E d 113 5 [.ref x, a1] (.ref x :: st) h Q := gw_loc m113 f113_4 rfl rfl
theorem r113_4n {E : Nat → Value} {d : Nat} {st : List Value} {h : gm_H} {Q : gm_R → gm_H → Prop} {a1 : Value}  : gm_W E d 113 4 [.null, a1] st h Q ↔ gm_W E d 113 5 [.null, a1] (.null :: st) h Q := gw_loc m113 f113_4 rfl rfl
theorem f113_5 : gm_ft 113 5 = some (.getfield 21, 3) := by decide +kernel
theorem r113_5 {E : Nat → Value} {d : Nat} {st : List Value} {h : gm_H} {Q : gm_R → gm_H → Prop} {lv : List Value} {a : Nat} (hk : gm_kd h a = 2) : gm_W E d 113 5 lv (.ref a :: st) h Q ↔ gm_W E d 113 8 lv (gm_fv h a 3 :: st) h Q := gw_rd m113 f113_5 rfl rfl rfl rfl (gs_get k2_21 hk (by decide))
theorem f113_8 : gm_ft 113 8 = some (.iload_n 1, 1) := by decide +kernel
theorem r113_8 {E : Nat → Value} {d : Nat} {st : List Value} {h : gm_H} {Q : gm_R → gm_H → Prop} {a0 : Value} {x : Int32} : gm_W E d 113 8 [a0, .int x] st h Q ↔ gm_W E d 113 9 [a0, .int x] (.int x :: st) h Q := gw_loc m113 f113_8 rfl rfl
theorem f113_9 : gm_ft 113 9 = some (.iastore, 1) := by decide +kernel
theorem r113_9 {E : Nat → Value} {d : Nat} {st : List Value} {h : gm_H} {Q : gm_R → gm_H → Prop} {lv : List Value} {a j : Nat} {x : Int32} (hk : gm_kd h a = 100) (hj : j < gm_ln h a) (hl : gm_ln h a < 2 ^ 31) : gm_W E d 113 9 lv (.int x :: .int (nI j) :: .ref a :: st) h Q ↔ gm_W E d 113 10 lv st (gm_sf h a j (.int x)) Q := gw_wr m113 f113_9 rfl rfl rfl rfl rfl (gs_st hk (by decide) hj hl)
theorem f113_10 : gm_ft 113 10 = some (.aload_n 0, 1) := by decide +kernel
theorem r113_10 {E : Nat → Value} {d : Nat} {st : List Value} {h : gm_H} {Q : gm_R → gm_H → Prop} {a1 : Value} {x : Nat} : gm_W E d 113 10 [.ref x, a1] st h Q ↔ gm_W E d 113 11 [.ref x, a1] (.ref x :: st) h Q := gw_loc m113 f113_10 rfl rfl
theorem r113_10n {E : Nat → Value} {d : Nat} {st : List Value} {h : gm_H} {Q : gm_R → gm_H → Prop} {a1 : Value}  : gm_W E d 113 10 [.null, a1] st h Q ↔ gm_W E d 113 11 [.null, a1] (.null :: st) h Q := gw_loc m113 f113_10 rfl rfl
theorem f113_11 : gm_ft 113 11 = some (.getfield 17, 3) := by decide +kernel
theorem r113_11 {E : Nat → Value} {d : Nat} {st : List Value} {h : gm_H} {Q : gm_R → gm_H → Prop} {lv : List Value} {a : Nat} (hk : gm_kd h a = 2) : gm_W E d 113 11 lv (.ref a :: st) h Q ↔ gm_W E d 113 14 lv (gm_fv h a 1 :: st) h Q := gw_rd m113 f113_11 rfl rfl rfl rfl (gs_get k2_17 hk (by decide))
theorem f113_14 : gm_ft 113 14 = some (.aload_n 0, 1) := by decide +kernel
theorem r113_14 {E : Nat → Value} {d : Nat} {st : List Value} {h : gm_H} {Q : gm_R → gm_H → Prop} {a1 : Value} {x : Nat} : gm_W E d 113 14 [.ref x, a1] st h Q ↔ gm_W E d 113 15 [.ref x, a1] (.ref x :: st) h Q := gw_loc m113 f113_14 rfl rfl
theorem r113_14n {E : Nat → Value} {d : Nat} {st : List Value} {h : gm_H} {Q : gm_R → gm_H → Prop} {a1 : Value}  : gm_W E d 113 14 [.null, a1] st h Q ↔ gm_W E d 113 15 [.null, a1] (.null :: st) h Q := gw_loc m113 f113_14 rfl rfl
theorem f113_15 : gm_ft 113 15 = some (.getfield 21, 3) := by decide +kernel
theorem r113_15 {E : Nat → Value} {d : Nat} {st : List Value} {h : gm_H} {Q : gm_R → gm_H → Prop} {lv : List Value} {a : Nat} (hk : gm_kd h a = 2) : gm_W E d 113 15 lv (.ref a :: st) h Q ↔ gm_W E d 113 18 lv (gm_fv h a 3 :: st) h Q := gw_rd m113 f113_15 rfl rfl rfl rfl (gs_get k2_21 hk (by decide))
theorem f113_18 : gm_ft 113 18 = some (.aconst_null, 1) := by decide +kernel
theorem r113_18 {E : Nat → Value} {d : Nat} {st : List Value} {h : gm_H} {Q : gm_R → gm_H → Prop} {lv : List Value} : gm_W E d 113 18 lv st h Q ↔ gm_W E d 113 19 lv (.null :: st) h Q := gw_pure m113 f113_18 rfl
theorem f113_19 : gm_ft 113 19 = some (.aastore, 1) := by decide +kernel
theorem r113_19 {E : Nat → Value} {d : Nat} {st : List Value} {h : gm_H} {Q : gm_R → gm_H → Prop} {lv : List Value} {a b j : Nat} (hb : gm_kd h b < 6) (hk : gm_kd h a = 100 + gm_cmp (gm_kd h b) ∧ gm_cmp (gm_kd h b) < 99) (hj : j < gm_ln h a) (hl : gm_ln h a < 2 ^ 31) : gm_W E d 113 19 lv (.ref b :: .int (nI j) :: .ref a :: st) h Q ↔ gm_W E d 113 20 lv st (gm_sf h a j (.ref b)) Q := gw_wr m113 f113_19 rfl rfl rfl rfl rfl (gs_ast hb hk hj hl)
theorem r113_19n {E : Nat → Value} {d : Nat} {st : List Value} {h : gm_H} {Q : gm_R → gm_H → Prop} {lv : List Value} {a j : Nat} (hk : gm_kd h a = 110 ∨ gm_kd h a = 111 ∨ gm_kd h a = 112) (hj : j < gm_ln h a) (hl : gm_ln h a < 2 ^ 31) : gm_W E d 113 19 lv (.null :: .int (nI j) :: .ref a :: st) h Q ↔ gm_W E d 113 20 lv st (gm_sf h a j .null) Q := gw_wr m113 f113_19 rfl rfl rfl rfl rfl (gs_astn hk hj hl)
theorem f113_20 : gm_ft 113 20 = some (.aload_n 0, 1) := by decide +kernel
theorem r113_20 {E : Nat → Value} {d : Nat} {st : List Value} {h : gm_H} {Q : gm_R → gm_H → Prop} {a1 : Value} {x : Nat} : gm_W E d 113 20 [.ref x, a1] st h Q ↔ gm_W E d 113 21 [.ref x, a1] (.ref x :: st) h Q := gw_loc m113 f113_20 rfl rfl
theorem r113_20n {E : Nat → Value} {d : Nat} {st : List Value} {h : gm_H} {Q : gm_R → gm_H → Prop} {a1 : Value}  : gm_W E d 113 20 [.null, a1] st h Q ↔ gm_W E d 113 21 [.null, a1] (.null :: st) h Q := gw_loc m113 f113_20 rfl rfl
theorem f113_21 : gm_ft 113 21 = some (.dup, 1) := by decide +kernel
theorem r113_21 {E : Nat → Value} {d : Nat} {st : List Value} {h : gm_H} {Q : gm_R → gm_H → Prop} {lv : List Value} {a : Nat} : gm_W E d 113 21 lv (.ref a :: st) h Q ↔ gm_W E d 113 22 lv (.ref a :: .ref a :: st) h Q := gw_pure m113 f113_21 rfl
theorem r113_21i {E : Nat → Value} {d : Nat} {st : List Value} {h : gm_H} {Q : gm_R → gm_H → Prop} {lv : List Value} {x : Int32} : gm_W E d 113 21 lv (.int x :: st) h Q ↔ gm_W E d 113 22 lv (.int x :: .int x :: st) h Q := gw_pure m113 f113_21 rfl
theorem f113_22 : gm_ft 113 22 = some (.getfield 21, 3) := by decide +kernel
theorem r113_22 {E : Nat → Value} {d : Nat} {st : List Value} {h : gm_H} {Q : gm_R → gm_H → Prop} {lv : List Value} {a : Nat} (hk : gm_kd h a = 2) : gm_W E d 113 22 lv (.ref a :: st) h Q ↔ gm_W E d 113 25 lv (gm_fv h a 3 :: st) h Q := gw_rd m113 f113_22 rfl rfl rfl rfl (gs_get k2_21 hk (by decide))
theorem f113_25 : gm_ft 113 25 = some (.iconst 1, 1) := by decide +kernel
theorem r113_25 {E : Nat → Value} {d : Nat} {st : List Value} {h : gm_H} {Q : gm_R → gm_H → Prop} {lv : List Value} : gm_W E d 113 25 lv st h Q ↔ gm_W E d 113 26 lv (.int (1 : Int32) :: st) h Q := gw_pure m113 f113_25 rfl
theorem f113_26 : gm_ft 113 26 = some (.iadd, 1) := by decide +kernel
theorem r113_26 {E : Nat → Value} {d : Nat} {st : List Value} {h : gm_H} {Q : gm_R → gm_H → Prop} {lv : List Value} {x y : Int32} : gm_W E d 113 26 lv (.int y :: .int x :: st) h Q ↔ gm_W E d 113 27 lv (.int (x + y) :: st) h Q := gw_pure m113 f113_26 rfl
theorem f113_27 : gm_ft 113 27 = some (.putfield 21, 3) := by decide +kernel
theorem r113_27 {E : Nat → Value} {d : Nat} {st : List Value} {h : gm_H} {Q : gm_R → gm_H → Prop} {lv : List Value} {a : Nat} {x : Int32} (hk : gm_kd h a = 2) : gm_W E d 113 27 lv (.int x :: .ref a :: st) h Q ↔ gm_W E d 113 30 lv st (gm_sf h a 3 (.int x)) Q := gw_wr m113 f113_27 rfl rfl rfl rfl rfl (gs_put k2_21 hk (by decide) (by decide) ⟨rfl, rfl⟩ (by decide))
theorem f113_30 : gm_ft 113 30 = some (.aload_n 0, 1) := by decide +kernel
theorem r113_30 {E : Nat → Value} {d : Nat} {st : List Value} {h : gm_H} {Q : gm_R → gm_H → Prop} {a1 : Value} {x : Nat} : gm_W E d 113 30 [.ref x, a1] st h Q ↔ gm_W E d 113 31 [.ref x, a1] (.ref x :: st) h Q := gw_loc m113 f113_30 rfl rfl
theorem r113_30n {E : Nat → Value} {d : Nat} {st : List Value} {h : gm_H} {Q : gm_R → gm_H → Prop} {a1 : Value}  : gm_W E d 113 30 [.null, a1] st h Q ↔ gm_W E d 113 31 [.null, a1] (.null :: st) h Q := gw_loc m113 f113_30 rfl rfl
theorem f113_31 : gm_ft 113 31 = some (.getfield 21, 3) := by decide +kernel
theorem r113_31 {E : Nat → Value} {d : Nat} {st : List Value} {h : gm_H} {Q : gm_R → gm_H → Prop} {lv : List Value} {a : Nat} (hk : gm_kd h a = 2) : gm_W E d 113 31 lv (.ref a :: st) h Q ↔ gm_W E d 113 34 lv (gm_fv h a 3 :: st) h Q := gw_rd m113 f113_31 rfl rfl rfl rfl (gs_get k2_21 hk (by decide))
theorem f113_34 : gm_ft 113 34 = some (.iconst 1, 1) := by decide +kernel
theorem r113_34 {E : Nat → Value} {d : Nat} {st : List Value} {h : gm_H} {Q : gm_R → gm_H → Prop} {lv : List Value} : gm_W E d 113 34 lv st h Q ↔ gm_W E d 113 35 lv (.int (1 : Int32) :: st) h Q := gw_pure m113 f113_34 rfl
theorem f113_35 : gm_ft 113 35 = some (.isub, 1) := by decide +kernel
theorem r113_35 {E : Nat → Value} {d : Nat} {st : List Value} {h : gm_H} {Q : gm_R → gm_H → Prop} {lv : List Value} {x y : Int32} : gm_W E d 113 35 lv (.int y :: .int x :: st) h Q ↔ gm_W E d 113 36 lv (.int (x - y) :: st) h Q := gw_pure m113 f113_35 rfl
theorem f113_36 : gm_ft 113 36 = some (.ireturn, 1) := by decide +kernel
theorem r113_36 {E : Nat → Value} {d : Nat} {h : gm_H} {Q : gm_R → gm_H → Prop} {lv : List Value} {x : Int32} : gm_W E d 113 36 lv [.int x] h Q ↔ Q (.inl (some (.int x))) h := gw_ret m113 f113_36 rfl rfl rfl rfl rfl rfl rfl rfl (by unfold gm_rt; dsimp only; rw [if_pos ⟨rfl, rfl⟩])
/-! GraphReader$LocalClass.<init>(IILGraphReader$LocalClass;J)V -/
theorem m114 : gm_mt[114]? = some (⟨"GraphReader$LocalClass", "<init>", "(IILGraphReader$LocalClass;J)V"⟩, prog_4_method_1_code, 6, none, [], 3, 1) := rfl
theorem f114_0 : gm_ft 114 0 = some (.aload_n 0, 1) := by decide +kernel
theorem r114_0 {E : Nat → Value} {d : Nat} {st : List Value} {h : gm_H} {Q : gm_R → gm_H → Prop} {a1 a2 a3 a4 a5 : Value} {x : Nat} : gm_W E d 114 0 [.ref x, a1, a2, a3, a4, a5] st h Q ↔ gm_W E d 114 1 [.ref x, a1, a2, a3, a4, a5] (.ref x :: st) h Q := gw_loc m114 f114_0 rfl rfl
theorem r114_0n {E : Nat → Value} {d : Nat} {st : List Value} {h : gm_H} {Q : gm_R → gm_H → Prop} {a1 a2 a3 a4 a5 : Value}  : gm_W E d 114 0 [.null, a1, a2, a3, a4, a5] st h Q ↔ gm_W E d 114 1 [.null, a1, a2, a3, a4, a5] (.null :: st) h Q := gw_loc m114 f114_0 rfl rfl
theorem f114_1 : gm_ft 114 1 = some (.invokespecial 3, 3) := by decide +kernel
theorem r114_1 {E : Nat → Value} {d : Nat} {st : List Value} {h : gm_H} {Q : gm_R → gm_H → Prop} {lv : List Value} {a : Nat} (hs : (st.map fun v => v.category).sum ≤ 8) : gm_W E d 114 1 lv (.ref a :: st) h Q ↔ gm_W E d 114 4 lv st h Q := gw_oi m114 f114_1 rfl rfl rfl rfl rfl rfl rfl (gc_spec (w := 113) rfl hs (by decide))
theorem f114_4 : gm_ft 114 4 = some (.aload_n 0, 1) := by decide +kernel
theorem r114_4 {E : Nat → Value} {d : Nat} {st : List Value} {h : gm_H} {Q : gm_R → gm_H → Prop} {a1 a2 a3 a4 a5 : Value} {x : Nat} : gm_W E d 114 4 [.ref x, a1, a2, a3, a4, a5] st h Q ↔ gm_W E d 114 5 [.ref x, a1, a2, a3, a4, a5] (.ref x :: st) h Q := gw_loc m114 f114_4 rfl rfl
theorem r114_4n {E : Nat → Value} {d : Nat} {st : List Value} {h : gm_H} {Q : gm_R → gm_H → Prop} {a1 a2 a3 a4 a5 : Value}  : gm_W E d 114 4 [.null, a1, a2, a3, a4, a5] st h Q ↔ gm_W E d 114 5 [.null, a1, a2, a3, a4, a5] (.null :: st) h Q := gw_loc m114 f114_4 rfl rfl
theorem f114_5 : gm_ft 114 5 = some (.iconst 4, 1) := by decide +kernel
theorem r114_5 {E : Nat → Value} {d : Nat} {st : List Value} {h : gm_H} {Q : gm_R → gm_H → Prop} {lv : List Value} : gm_W E d 114 5 lv st h Q ↔ gm_W E d 114 6 lv (.int (4 : Int32) :: st) h Q := gw_pure m114 f114_5 rfl
theorem f114_6 : gm_ft 114 6 = some (.newarray .int, 2) := by decide +kernel
theorem r114_6 {E : Nat → Value} {d : Nat} {st : List Value} {h : gm_H} {Q : gm_R → gm_H → Prop} {lv : List Value} : gm_W E d 114 6 lv (.int (4 : Int32) :: st) h Q ↔ gm_W E d 114 8 lv (.ref h.1 :: st) (gm_nw h (100, List.replicate 4 (.int 0)) 4) Q := gw_nw m114 f114_6 rfl rfl rfl rfl rfl rfl rfl
theorem f114_8 : gm_ft 114 8 = some (.putfield 9, 3) := by decide +kernel
theorem r114_8 {E : Nat → Value} {d : Nat} {st : List Value} {h : gm_H} {Q : gm_R → gm_H → Prop} {lv : List Value} {a : Nat} {b : Nat} (hk : gm_kd h a = 3) : gm_W E d 114 8 lv (.ref b :: .ref a :: st) h Q ↔ gm_W E d 114 11 lv st (gm_sf h a 4 (.ref b)) Q := gw_wr m114 f114_8 rfl rfl rfl rfl rfl (gs_put k3_9 hk (by decide) (by decide) ⟨rfl, rfl⟩ (by decide))
theorem r114_8n {E : Nat → Value} {d : Nat} {st : List Value} {h : gm_H} {Q : gm_R → gm_H → Prop} {lv : List Value} {a : Nat} (hk : gm_kd h a = 3) : gm_W E d 114 8 lv (.null :: .ref a :: st) h Q ↔ gm_W E d 114 11 lv st (gm_sf h a 4 (.null)) Q := gw_wr m114 f114_8 rfl rfl rfl rfl rfl (gs_put k3_9 hk (by decide) (by decide) ⟨rfl, rfl⟩ (by decide))
theorem f114_11 : gm_ft 114 11 = some (.aload_n 0, 1) := by decide +kernel
theorem r114_11 {E : Nat → Value} {d : Nat} {st : List Value} {h : gm_H} {Q : gm_R → gm_H → Prop} {a1 a2 a3 a4 a5 : Value} {x : Nat} : gm_W E d 114 11 [.ref x, a1, a2, a3, a4, a5] st h Q ↔ gm_W E d 114 12 [.ref x, a1, a2, a3, a4, a5] (.ref x :: st) h Q := gw_loc m114 f114_11 rfl rfl
theorem r114_11n {E : Nat → Value} {d : Nat} {st : List Value} {h : gm_H} {Q : gm_R → gm_H → Prop} {a1 a2 a3 a4 a5 : Value}  : gm_W E d 114 11 [.null, a1, a2, a3, a4, a5] st h Q ↔ gm_W E d 114 12 [.null, a1, a2, a3, a4, a5] (.null :: st) h Q := gw_loc m114 f114_11 rfl rfl
theorem f114_12 : gm_ft 114 12 = some (.iconst 4, 1) := by decide +kernel
theorem r114_12 {E : Nat → Value} {d : Nat} {st : List Value} {h : gm_H} {Q : gm_R → gm_H → Prop} {lv : List Value} : gm_W E d 114 12 lv st h Q ↔ gm_W E d 114 13 lv (.int (4 : Int32) :: st) h Q := gw_pure m114 f114_12 rfl
theorem f114_13 : gm_ft 114 13 = some (.newarray .int, 2) := by decide +kernel
theorem r114_13 {E : Nat → Value} {d : Nat} {st : List Value} {h : gm_H} {Q : gm_R → gm_H → Prop} {lv : List Value} : gm_W E d 114 13 lv (.int (4 : Int32) :: st) h Q ↔ gm_W E d 114 15 lv (.ref h.1 :: st) (gm_nw h (100, List.replicate 4 (.int 0)) 4) Q := gw_nw m114 f114_13 rfl rfl rfl rfl rfl rfl rfl
theorem f114_15 : gm_ft 114 15 = some (.putfield 15, 3) := by decide +kernel
theorem r114_15 {E : Nat → Value} {d : Nat} {st : List Value} {h : gm_H} {Q : gm_R → gm_H → Prop} {lv : List Value} {a : Nat} {b : Nat} (hk : gm_kd h a = 3) : gm_W E d 114 15 lv (.ref b :: .ref a :: st) h Q ↔ gm_W E d 114 18 lv st (gm_sf h a 5 (.ref b)) Q := gw_wr m114 f114_15 rfl rfl rfl rfl rfl (gs_put k3_15 hk (by decide) (by decide) ⟨rfl, rfl⟩ (by decide))
theorem r114_15n {E : Nat → Value} {d : Nat} {st : List Value} {h : gm_H} {Q : gm_R → gm_H → Prop} {lv : List Value} {a : Nat} (hk : gm_kd h a = 3) : gm_W E d 114 15 lv (.null :: .ref a :: st) h Q ↔ gm_W E d 114 18 lv st (gm_sf h a 5 (.null)) Q := gw_wr m114 f114_15 rfl rfl rfl rfl rfl (gs_put k3_15 hk (by decide) (by decide) ⟨rfl, rfl⟩ (by decide))
theorem f114_18 : gm_ft 114 18 = some (.aload_n 0, 1) := by decide +kernel
theorem r114_18 {E : Nat → Value} {d : Nat} {st : List Value} {h : gm_H} {Q : gm_R → gm_H → Prop} {a1 a2 a3 a4 a5 : Value} {x : Nat} : gm_W E d 114 18 [.ref x, a1, a2, a3, a4, a5] st h Q ↔ gm_W E d 114 19 [.ref x, a1, a2, a3, a4, a5] (.ref x :: st) h Q := gw_loc m114 f114_18 rfl rfl
theorem r114_18n {E : Nat → Value} {d : Nat} {st : List Value} {h : gm_H} {Q : gm_R → gm_H → Prop} {a1 a2 a3 a4 a5 : Value}  : gm_W E d 114 18 [.null, a1, a2, a3, a4, a5] st h Q ↔ gm_W E d 114 19 [.null, a1, a2, a3, a4, a5] (.null :: st) h Q := gw_loc m114 f114_18 rfl rfl
theorem f114_19 : gm_ft 114 19 = some (.iload_n 1, 1) := by decide +kernel
theorem r114_19 {E : Nat → Value} {d : Nat} {st : List Value} {h : gm_H} {Q : gm_R → gm_H → Prop} {a0 a2 a3 a4 a5 : Value} {x : Int32} : gm_W E d 114 19 [a0, .int x, a2, a3, a4, a5] st h Q ↔ gm_W E d 114 20 [a0, .int x, a2, a3, a4, a5] (.int x :: st) h Q := gw_loc m114 f114_19 rfl rfl
theorem f114_20 : gm_ft 114 20 = some (.putfield 18, 3) := by decide +kernel
theorem r114_20 {E : Nat → Value} {d : Nat} {st : List Value} {h : gm_H} {Q : gm_R → gm_H → Prop} {lv : List Value} {a : Nat} {x : Int32} (hk : gm_kd h a = 3) : gm_W E d 114 20 lv (.int x :: .ref a :: st) h Q ↔ gm_W E d 114 23 lv st (gm_sf h a 0 (.int x)) Q := gw_wr m114 f114_20 rfl rfl rfl rfl rfl (gs_put k3_18 hk (by decide) (by decide) ⟨rfl, rfl⟩ (by decide))
theorem f114_23 : gm_ft 114 23 = some (.aload_n 0, 1) := by decide +kernel
theorem r114_23 {E : Nat → Value} {d : Nat} {st : List Value} {h : gm_H} {Q : gm_R → gm_H → Prop} {a1 a2 a3 a4 a5 : Value} {x : Nat} : gm_W E d 114 23 [.ref x, a1, a2, a3, a4, a5] st h Q ↔ gm_W E d 114 24 [.ref x, a1, a2, a3, a4, a5] (.ref x :: st) h Q := gw_loc m114 f114_23 rfl rfl
theorem r114_23n {E : Nat → Value} {d : Nat} {st : List Value} {h : gm_H} {Q : gm_R → gm_H → Prop} {a1 a2 a3 a4 a5 : Value}  : gm_W E d 114 23 [.null, a1, a2, a3, a4, a5] st h Q ↔ gm_W E d 114 24 [.null, a1, a2, a3, a4, a5] (.null :: st) h Q := gw_loc m114 f114_23 rfl rfl
theorem f114_24 : gm_ft 114 24 = some (.iload_n 2, 1) := by decide +kernel
theorem r114_24 {E : Nat → Value} {d : Nat} {st : List Value} {h : gm_H} {Q : gm_R → gm_H → Prop} {a0 a1 a3 a4 a5 : Value} {x : Int32} : gm_W E d 114 24 [a0, a1, .int x, a3, a4, a5] st h Q ↔ gm_W E d 114 25 [a0, a1, .int x, a3, a4, a5] (.int x :: st) h Q := gw_loc m114 f114_24 rfl rfl
theorem f114_25 : gm_ft 114 25 = some (.putfield 22, 3) := by decide +kernel
theorem r114_25 {E : Nat → Value} {d : Nat} {st : List Value} {h : gm_H} {Q : gm_R → gm_H → Prop} {lv : List Value} {a : Nat} {x : Int32} (hk : gm_kd h a = 3) : gm_W E d 114 25 lv (.int x :: .ref a :: st) h Q ↔ gm_W E d 114 28 lv st (gm_sf h a 1 (.int x)) Q := gw_wr m114 f114_25 rfl rfl rfl rfl rfl (gs_put k3_22 hk (by decide) (by decide) ⟨rfl, rfl⟩ (by decide))
theorem f114_28 : gm_ft 114 28 = some (.aload_n 0, 1) := by decide +kernel
theorem r114_28 {E : Nat → Value} {d : Nat} {st : List Value} {h : gm_H} {Q : gm_R → gm_H → Prop} {a1 a2 a3 a4 a5 : Value} {x : Nat} : gm_W E d 114 28 [.ref x, a1, a2, a3, a4, a5] st h Q ↔ gm_W E d 114 29 [.ref x, a1, a2, a3, a4, a5] (.ref x :: st) h Q := gw_loc m114 f114_28 rfl rfl
theorem r114_28n {E : Nat → Value} {d : Nat} {st : List Value} {h : gm_H} {Q : gm_R → gm_H → Prop} {a1 a2 a3 a4 a5 : Value}  : gm_W E d 114 28 [.null, a1, a2, a3, a4, a5] st h Q ↔ gm_W E d 114 29 [.null, a1, a2, a3, a4, a5] (.null :: st) h Q := gw_loc m114 f114_28 rfl rfl
theorem f114_29 : gm_ft 114 29 = some (.aload_n 3, 1) := by decide +kernel
theorem r114_29 {E : Nat → Value} {d : Nat} {st : List Value} {h : gm_H} {Q : gm_R → gm_H → Prop} {a0 a1 a2 a4 a5 : Value} {x : Nat} : gm_W E d 114 29 [a0, a1, a2, .ref x, a4, a5] st h Q ↔ gm_W E d 114 30 [a0, a1, a2, .ref x, a4, a5] (.ref x :: st) h Q := gw_loc m114 f114_29 rfl rfl
theorem r114_29n {E : Nat → Value} {d : Nat} {st : List Value} {h : gm_H} {Q : gm_R → gm_H → Prop} {a0 a1 a2 a4 a5 : Value}  : gm_W E d 114 29 [a0, a1, a2, .null, a4, a5] st h Q ↔ gm_W E d 114 30 [a0, a1, a2, .null, a4, a5] (.null :: st) h Q := gw_loc m114 f114_29 rfl rfl
theorem f114_30 : gm_ft 114 30 = some (.putfield 25, 3) := by decide +kernel
theorem r114_30 {E : Nat → Value} {d : Nat} {st : List Value} {h : gm_H} {Q : gm_R → gm_H → Prop} {lv : List Value} {a : Nat} {b : Nat} (hk : gm_kd h a = 3) : gm_W E d 114 30 lv (.ref b :: .ref a :: st) h Q ↔ gm_W E d 114 33 lv st (gm_sf h a 2 (.ref b)) Q := gw_wr m114 f114_30 rfl rfl rfl rfl rfl (gs_put k3_25 hk (by decide) (by decide) ⟨rfl, rfl⟩ (by decide))
theorem r114_30n {E : Nat → Value} {d : Nat} {st : List Value} {h : gm_H} {Q : gm_R → gm_H → Prop} {lv : List Value} {a : Nat} (hk : gm_kd h a = 3) : gm_W E d 114 30 lv (.null :: .ref a :: st) h Q ↔ gm_W E d 114 33 lv st (gm_sf h a 2 (.null)) Q := gw_wr m114 f114_30 rfl rfl rfl rfl rfl (gs_put k3_25 hk (by decide) (by decide) ⟨rfl, rfl⟩ (by decide))
theorem f114_33 : gm_ft 114 33 = some (.aload_n 0, 1) := by decide +kernel
theorem r114_33 {E : Nat → Value} {d : Nat} {st : List Value} {h : gm_H} {Q : gm_R → gm_H → Prop} {a1 a2 a3 a4 a5 : Value} {x : Nat} : gm_W E d 114 33 [.ref x, a1, a2, a3, a4, a5] st h Q ↔ gm_W E d 114 34 [.ref x, a1, a2, a3, a4, a5] (.ref x :: st) h Q := gw_loc m114 f114_33 rfl rfl
theorem r114_33n {E : Nat → Value} {d : Nat} {st : List Value} {h : gm_H} {Q : gm_R → gm_H → Prop} {a1 a2 a3 a4 a5 : Value}  : gm_W E d 114 33 [.null, a1, a2, a3, a4, a5] st h Q ↔ gm_W E d 114 34 [.null, a1, a2, a3, a4, a5] (.null :: st) h Q := gw_loc m114 f114_33 rfl rfl
theorem f114_34 : gm_ft 114 34 = some (.lload 4, 2) := by decide +kernel
theorem r114_34 {E : Nat → Value} {d : Nat} {st : List Value} {h : gm_H} {Q : gm_R → gm_H → Prop} {a0 a1 a2 a3 a5 : Value} {x : Int64} : gm_W E d 114 34 [a0, a1, a2, a3, .long x, a5] st h Q ↔ gm_W E d 114 36 [a0, a1, a2, a3, .long x, a5] (.long x :: st) h Q := gw_loc m114 f114_34 rfl rfl
theorem f114_36 : gm_ft 114 36 = some (.putfield 29, 3) := by decide +kernel
theorem r114_36 {E : Nat → Value} {d : Nat} {st : List Value} {h : gm_H} {Q : gm_R → gm_H → Prop} {lv : List Value} {a : Nat} {x : Int64} (hk : gm_kd h a = 3) : gm_W E d 114 36 lv (.long x :: .ref a :: st) h Q ↔ gm_W E d 114 39 lv st (gm_sf h a 3 (.long x)) Q := gw_wr m114 f114_36 rfl rfl rfl rfl rfl (gs_put k3_29 hk (by decide) (by decide) ⟨rfl, rfl⟩ (by decide))
theorem f114_39 : gm_ft 114 39 = some (.return_, 1) := by decide +kernel
theorem r114_39 {E : Nat → Value} {d : Nat} {h : gm_H} {Q : gm_R → gm_H → Prop} {lv : List Value} : gm_W E d 114 39 lv [] h Q ↔ Q (.inl none) h := gw_ret m114 f114_39 rfl rfl rfl rfl rfl rfl rfl rfl rfl
/-! GraphReader$LocalClass.indexOf(I)I -/
theorem m115 : gm_mt[115]? = some (⟨"GraphReader$LocalClass", "indexOf", "(I)I"⟩, prog_4_method_2_code, 3, (some .int), [], 3, 1) := rfl
theorem f115_0 : gm_ft 115 0 = some (.iconst 0, 1) := by decide +kernel
theorem r115_0 {E : Nat → Value} {d : Nat} {st : List Value} {h : gm_H} {Q : gm_R → gm_H → Prop} {lv : List Value} : gm_W E d 115 0 lv st h Q ↔ gm_W E d 115 1 lv (.int (0 : Int32) :: st) h Q := gw_pure m115 f115_0 rfl
theorem f115_1 : gm_ft 115 1 = some (.istore_n 2, 1) := by decide +kernel
theorem r115_1 {E : Nat → Value} {d : Nat} {st : List Value} {h : gm_H} {Q : gm_R → gm_H → Prop} {a0 a1 a2 : Value} {x : Int32} : gm_W E d 115 1 [a0, a1, a2] (.int x :: st) h Q ↔ gm_W E d 115 2 [a0, gm_k a1, .int x] st h Q := gw_loc m115 f115_1 rfl rfl
theorem f115_2 : gm_ft 115 2 = some (.iload_n 2, 1) := by decide +kernel
theorem r115_2 {E : Nat → Value} {d : Nat} {st : List Value} {h : gm_H} {Q : gm_R → gm_H → Prop} {a0 a1 : Value} {x : Int32} : gm_W E d 115 2 [a0, a1, .int x] st h Q ↔ gm_W E d 115 3 [a0, a1, .int x] (.int x :: st) h Q := gw_loc m115 f115_2 rfl rfl
theorem f115_3 : gm_ft 115 3 = some (.aload_n 0, 1) := by decide +kernel
theorem r115_3 {E : Nat → Value} {d : Nat} {st : List Value} {h : gm_H} {Q : gm_R → gm_H → Prop} {a1 a2 : Value} {x : Nat} : gm_W E d 115 3 [.ref x, a1, a2] st h Q ↔ gm_W E d 115 4 [.ref x, a1, a2] (.ref x :: st) h Q := gw_loc m115 f115_3 rfl rfl
theorem r115_3n {E : Nat → Value} {d : Nat} {st : List Value} {h : gm_H} {Q : gm_R → gm_H → Prop} {a1 a2 : Value}  : gm_W E d 115 3 [.null, a1, a2] st h Q ↔ gm_W E d 115 4 [.null, a1, a2] (.null :: st) h Q := gw_loc m115 f115_3 rfl rfl
theorem f115_4 : gm_ft 115 4 = some (.getfield 33, 3) := by decide +kernel
theorem r115_4 {E : Nat → Value} {d : Nat} {st : List Value} {h : gm_H} {Q : gm_R → gm_H → Prop} {lv : List Value} {a : Nat} (hk : gm_kd h a = 3) : gm_W E d 115 4 lv (.ref a :: st) h Q ↔ gm_W E d 115 7 lv (gm_fv h a 6 :: st) h Q := gw_rd m115 f115_4 rfl rfl rfl rfl (gs_get k3_33 hk (by decide))
theorem f115_7 : gm_ft 115 7 = some (.if_icmp .ge 21, 3) := by decide +kernel
theorem r115_7 {E : Nat → Value} {d : Nat} {st : List Value} {h : gm_H} {Q : gm_R → gm_H → Prop} {lv : List Value} {x y : Int32} : gm_W E d 115 7 lv (.int y :: .int x :: st) h Q ↔ (if y ≤ x then gm_W E d 115 28 lv st h Q else gm_W E d 115 10 lv st h Q) := (gw_br m115 f115_7 rfl rfl rfl rfl).trans gw_if
theorem f115_10 : gm_ft 115 10 = some (.aload_n 0, 1) := by decide +kernel
theorem r115_10 {E : Nat → Value} {d : Nat} {st : List Value} {h : gm_H} {Q : gm_R → gm_H → Prop} {a1 a2 : Value} {x : Nat} : gm_W E d 115 10 [.ref x, a1, a2] st h Q ↔ gm_W E d 115 11 [.ref x, a1, a2] (.ref x :: st) h Q := gw_loc m115 f115_10 rfl rfl
theorem r115_10n {E : Nat → Value} {d : Nat} {st : List Value} {h : gm_H} {Q : gm_R → gm_H → Prop} {a1 a2 : Value}  : gm_W E d 115 10 [.null, a1, a2] st h Q ↔ gm_W E d 115 11 [.null, a1, a2] (.null :: st) h Q := gw_loc m115 f115_10 rfl rfl
theorem f115_11 : gm_ft 115 11 = some (.getfield 9, 3) := by decide +kernel
theorem r115_11 {E : Nat → Value} {d : Nat} {st : List Value} {h : gm_H} {Q : gm_R → gm_H → Prop} {lv : List Value} {a : Nat} (hk : gm_kd h a = 3) : gm_W E d 115 11 lv (.ref a :: st) h Q ↔ gm_W E d 115 14 lv (gm_fv h a 4 :: st) h Q := gw_rd m115 f115_11 rfl rfl rfl rfl (gs_get k3_9 hk (by decide))
theorem f115_14 : gm_ft 115 14 = some (.iload_n 2, 1) := by decide +kernel
theorem r115_14 {E : Nat → Value} {d : Nat} {st : List Value} {h : gm_H} {Q : gm_R → gm_H → Prop} {a0 a1 : Value} {x : Int32} : gm_W E d 115 14 [a0, a1, .int x] st h Q ↔ gm_W E d 115 15 [a0, a1, .int x] (.int x :: st) h Q := gw_loc m115 f115_14 rfl rfl
theorem f115_15 : gm_ft 115 15 = some (.iaload, 1) := by decide +kernel
theorem r115_15 {E : Nat → Value} {d : Nat} {st : List Value} {h : gm_H} {Q : gm_R → gm_H → Prop} {lv : List Value} {a j : Nat} (hk : gm_kd h a % 100 = 0 ∧ 100 ≤ gm_kd h a ∧ gm_kd h a < 900) (hj : j < gm_ln h a) (hl : gm_ln h a < 2 ^ 31) : gm_W E d 115 15 lv (.int (nI j) :: .ref a :: st) h Q ↔ gm_W E d 115 16 lv (gm_fv h a j :: st) h Q := gw_rd m115 f115_15 rfl rfl rfl rfl (gs_ld (P := fun t => t == 0) hk.2 (by have := hk.1; simp [this] <;> omega) hj hl)
theorem f115_16 : gm_ft 115 16 = some (.iload_n 1, 1) := by decide +kernel
theorem r115_16 {E : Nat → Value} {d : Nat} {st : List Value} {h : gm_H} {Q : gm_R → gm_H → Prop} {a0 a2 : Value} {x : Int32} : gm_W E d 115 16 [a0, .int x, a2] st h Q ↔ gm_W E d 115 17 [a0, .int x, a2] (.int x :: st) h Q := gw_loc m115 f115_16 rfl rfl
theorem f115_17 : gm_ft 115 17 = some (.if_icmp .ne 5, 3) := by decide +kernel
theorem r115_17 {E : Nat → Value} {d : Nat} {st : List Value} {h : gm_H} {Q : gm_R → gm_H → Prop} {lv : List Value} {x y : Int32} : gm_W E d 115 17 lv (.int y :: .int x :: st) h Q ↔ (if x = y then gm_W E d 115 20 lv st h Q else gm_W E d 115 22 lv st h Q) := (gw_br m115 f115_17 rfl rfl rfl rfl).trans gw_ifn
theorem f115_20 : gm_ft 115 20 = some (.iload_n 2, 1) := by decide +kernel
theorem r115_20 {E : Nat → Value} {d : Nat} {st : List Value} {h : gm_H} {Q : gm_R → gm_H → Prop} {a0 a1 : Value} {x : Int32} : gm_W E d 115 20 [a0, a1, .int x] st h Q ↔ gm_W E d 115 21 [a0, a1, .int x] (.int x :: st) h Q := gw_loc m115 f115_20 rfl rfl
theorem f115_21 : gm_ft 115 21 = some (.ireturn, 1) := by decide +kernel
theorem r115_21 {E : Nat → Value} {d : Nat} {h : gm_H} {Q : gm_R → gm_H → Prop} {lv : List Value} {x : Int32} : gm_W E d 115 21 lv [.int x] h Q ↔ Q (.inl (some (.int x))) h := gw_ret m115 f115_21 rfl rfl rfl rfl rfl rfl rfl rfl (by unfold gm_rt; dsimp only; rw [if_pos ⟨rfl, rfl⟩])
theorem f115_22 : gm_ft 115 22 = some (.iinc 2 1, 3) := by decide +kernel
theorem r115_22 {E : Nat → Value} {d : Nat} {st : List Value} {h : gm_H} {Q : gm_R → gm_H → Prop} {a0 a1 : Value} {x : Int32} : gm_W E d 115 22 [a0, a1, .int x] st h Q ↔ gm_W E d 115 25 [a0, gm_k a1, .int (x + (1 : Int32))] st h Q := gw_loc m115 f115_22 rfl rfl
theorem f115_25 : gm_ft 115 25 = some (.goto (-23), 3) := by decide +kernel
theorem r115_25 {E : Nat → Value} {d : Nat} {st : List Value} {h : gm_H} {Q : gm_R → gm_H → Prop} {lv : List Value} : gm_W E d 115 25 lv st h Q ↔ gm_W E d 115 2 lv st h Q := gw_brT m115 f115_25 rfl rfl rfl rfl
theorem f115_28 : gm_ft 115 28 = some (.iconst (-1), 1) := by decide +kernel
theorem r115_28 {E : Nat → Value} {d : Nat} {st : List Value} {h : gm_H} {Q : gm_R → gm_H → Prop} {lv : List Value} : gm_W E d 115 28 lv st h Q ↔ gm_W E d 115 29 lv (.int (-1 : Int32) :: st) h Q := gw_pure m115 f115_28 rfl
theorem f115_29 : gm_ft 115 29 = some (.ireturn, 1) := by decide +kernel
theorem r115_29 {E : Nat → Value} {d : Nat} {h : gm_H} {Q : gm_R → gm_H → Prop} {lv : List Value} {x : Int32} : gm_W E d 115 29 lv [.int x] h Q ↔ Q (.inl (some (.int x))) h := gw_ret m115 f115_29 rfl rfl rfl rfl rfl rfl rfl rfl (by unfold gm_rt; dsimp only; rw [if_pos ⟨rfl, rfl⟩])
/-! GraphReader$LocalClass.addField(II)V -/
theorem m116 : gm_mt[116]? = some (⟨"GraphReader$LocalClass", "addField", "(II)V"⟩, prog_4_method_3_code, 3, none, [], 3, 1) := rfl
theorem f116_0 : gm_ft 116 0 = some (.aload_n 0, 1) := by decide +kernel
theorem r116_0 {E : Nat → Value} {d : Nat} {st : List Value} {h : gm_H} {Q : gm_R → gm_H → Prop} {a1 a2 : Value} {x : Nat} : gm_W E d 116 0 [.ref x, a1, a2] st h Q ↔ gm_W E d 116 1 [.ref x, a1, a2] (.ref x :: st) h Q := gw_loc m116 f116_0 rfl rfl
theorem r116_0n {E : Nat → Value} {d : Nat} {st : List Value} {h : gm_H} {Q : gm_R → gm_H → Prop} {a1 a2 : Value}  : gm_W E d 116 0 [.null, a1, a2] st h Q ↔ gm_W E d 116 1 [.null, a1, a2] (.null :: st) h Q := gw_loc m116 f116_0 rfl rfl
theorem f116_1 : gm_ft 116 1 = some (.getfield 33, 3) := by decide +kernel
theorem r116_1 {E : Nat → Value} {d : Nat} {st : List Value} {h : gm_H} {Q : gm_R → gm_H → Prop} {lv : List Value} {a : Nat} (hk : gm_kd h a = 3) : gm_W E d 116 1 lv (.ref a :: st) h Q ↔ gm_W E d 116 4 lv (gm_fv h a 6 :: st) h Q := gw_rd m116 f116_1 rfl rfl rfl rfl (gs_get k3_33 hk (by decide))
theorem f116_4 : gm_ft 116 4 = some (.iconst 4, 1) := by decide +kernel
theorem r116_4 {E : Nat → Value} {d : Nat} {st : List Value} {h : gm_H} {Q : gm_R → gm_H → Prop} {lv : List Value} : gm_W E d 116 4 lv st h Q ↔ gm_W E d 116 5 lv (.int (4 : Int32) :: st) h Q := gw_pure m116 f116_4 rfl
theorem f116_5 : gm_ft 116 5 = some (.if_icmp .ge 33, 3) := by decide +kernel
theorem r116_5 {E : Nat → Value} {d : Nat} {st : List Value} {h : gm_H} {Q : gm_R → gm_H → Prop} {lv : List Value} {x y : Int32} : gm_W E d 116 5 lv (.int y :: .int x :: st) h Q ↔ (if y ≤ x then gm_W E d 116 38 lv st h Q else gm_W E d 116 8 lv st h Q) := (gw_br m116 f116_5 rfl rfl rfl rfl).trans gw_if
theorem f116_8 : gm_ft 116 8 = some (.aload_n 0, 1) := by decide +kernel
theorem r116_8 {E : Nat → Value} {d : Nat} {st : List Value} {h : gm_H} {Q : gm_R → gm_H → Prop} {a1 a2 : Value} {x : Nat} : gm_W E d 116 8 [.ref x, a1, a2] st h Q ↔ gm_W E d 116 9 [.ref x, a1, a2] (.ref x :: st) h Q := gw_loc m116 f116_8 rfl rfl
theorem r116_8n {E : Nat → Value} {d : Nat} {st : List Value} {h : gm_H} {Q : gm_R → gm_H → Prop} {a1 a2 : Value}  : gm_W E d 116 8 [.null, a1, a2] st h Q ↔ gm_W E d 116 9 [.null, a1, a2] (.null :: st) h Q := gw_loc m116 f116_8 rfl rfl
theorem f116_9 : gm_ft 116 9 = some (.getfield 9, 3) := by decide +kernel
theorem r116_9 {E : Nat → Value} {d : Nat} {st : List Value} {h : gm_H} {Q : gm_R → gm_H → Prop} {lv : List Value} {a : Nat} (hk : gm_kd h a = 3) : gm_W E d 116 9 lv (.ref a :: st) h Q ↔ gm_W E d 116 12 lv (gm_fv h a 4 :: st) h Q := gw_rd m116 f116_9 rfl rfl rfl rfl (gs_get k3_9 hk (by decide))
theorem f116_12 : gm_ft 116 12 = some (.aload_n 0, 1) := by decide +kernel
theorem r116_12 {E : Nat → Value} {d : Nat} {st : List Value} {h : gm_H} {Q : gm_R → gm_H → Prop} {a1 a2 : Value} {x : Nat} : gm_W E d 116 12 [.ref x, a1, a2] st h Q ↔ gm_W E d 116 13 [.ref x, a1, a2] (.ref x :: st) h Q := gw_loc m116 f116_12 rfl rfl
theorem r116_12n {E : Nat → Value} {d : Nat} {st : List Value} {h : gm_H} {Q : gm_R → gm_H → Prop} {a1 a2 : Value}  : gm_W E d 116 12 [.null, a1, a2] st h Q ↔ gm_W E d 116 13 [.null, a1, a2] (.null :: st) h Q := gw_loc m116 f116_12 rfl rfl
theorem f116_13 : gm_ft 116 13 = some (.getfield 33, 3) := by decide +kernel
theorem r116_13 {E : Nat → Value} {d : Nat} {st : List Value} {h : gm_H} {Q : gm_R → gm_H → Prop} {lv : List Value} {a : Nat} (hk : gm_kd h a = 3) : gm_W E d 116 13 lv (.ref a :: st) h Q ↔ gm_W E d 116 16 lv (gm_fv h a 6 :: st) h Q := gw_rd m116 f116_13 rfl rfl rfl rfl (gs_get k3_33 hk (by decide))
theorem f116_16 : gm_ft 116 16 = some (.iload_n 1, 1) := by decide +kernel
theorem r116_16 {E : Nat → Value} {d : Nat} {st : List Value} {h : gm_H} {Q : gm_R → gm_H → Prop} {a0 a2 : Value} {x : Int32} : gm_W E d 116 16 [a0, .int x, a2] st h Q ↔ gm_W E d 116 17 [a0, .int x, a2] (.int x :: st) h Q := gw_loc m116 f116_16 rfl rfl
theorem f116_17 : gm_ft 116 17 = some (.iastore, 1) := by decide +kernel
theorem r116_17 {E : Nat → Value} {d : Nat} {st : List Value} {h : gm_H} {Q : gm_R → gm_H → Prop} {lv : List Value} {a j : Nat} {x : Int32} (hk : gm_kd h a = 100) (hj : j < gm_ln h a) (hl : gm_ln h a < 2 ^ 31) : gm_W E d 116 17 lv (.int x :: .int (nI j) :: .ref a :: st) h Q ↔ gm_W E d 116 18 lv st (gm_sf h a j (.int x)) Q := gw_wr m116 f116_17 rfl rfl rfl rfl rfl (gs_st hk (by decide) hj hl)
theorem f116_18 : gm_ft 116 18 = some (.aload_n 0, 1) := by decide +kernel
theorem r116_18 {E : Nat → Value} {d : Nat} {st : List Value} {h : gm_H} {Q : gm_R → gm_H → Prop} {a1 a2 : Value} {x : Nat} : gm_W E d 116 18 [.ref x, a1, a2] st h Q ↔ gm_W E d 116 19 [.ref x, a1, a2] (.ref x :: st) h Q := gw_loc m116 f116_18 rfl rfl
theorem r116_18n {E : Nat → Value} {d : Nat} {st : List Value} {h : gm_H} {Q : gm_R → gm_H → Prop} {a1 a2 : Value}  : gm_W E d 116 18 [.null, a1, a2] st h Q ↔ gm_W E d 116 19 [.null, a1, a2] (.null :: st) h Q := gw_loc m116 f116_18 rfl rfl
theorem f116_19 : gm_ft 116 19 = some (.getfield 15, 3) := by decide +kernel
theorem r116_19 {E : Nat → Value} {d : Nat} {st : List Value} {h : gm_H} {Q : gm_R → gm_H → Prop} {lv : List Value} {a : Nat} (hk : gm_kd h a = 3) : gm_W E d 116 19 lv (.ref a :: st) h Q ↔ gm_W E d 116 22 lv (gm_fv h a 5 :: st) h Q := gw_rd m116 f116_19 rfl rfl rfl rfl (gs_get k3_15 hk (by decide))
theorem f116_22 : gm_ft 116 22 = some (.aload_n 0, 1) := by decide +kernel
theorem r116_22 {E : Nat → Value} {d : Nat} {st : List Value} {h : gm_H} {Q : gm_R → gm_H → Prop} {a1 a2 : Value} {x : Nat} : gm_W E d 116 22 [.ref x, a1, a2] st h Q ↔ gm_W E d 116 23 [.ref x, a1, a2] (.ref x :: st) h Q := gw_loc m116 f116_22 rfl rfl
theorem r116_22n {E : Nat → Value} {d : Nat} {st : List Value} {h : gm_H} {Q : gm_R → gm_H → Prop} {a1 a2 : Value}  : gm_W E d 116 22 [.null, a1, a2] st h Q ↔ gm_W E d 116 23 [.null, a1, a2] (.null :: st) h Q := gw_loc m116 f116_22 rfl rfl
theorem f116_23 : gm_ft 116 23 = some (.getfield 33, 3) := by decide +kernel
theorem r116_23 {E : Nat → Value} {d : Nat} {st : List Value} {h : gm_H} {Q : gm_R → gm_H → Prop} {lv : List Value} {a : Nat} (hk : gm_kd h a = 3) : gm_W E d 116 23 lv (.ref a :: st) h Q ↔ gm_W E d 116 26 lv (gm_fv h a 6 :: st) h Q := gw_rd m116 f116_23 rfl rfl rfl rfl (gs_get k3_33 hk (by decide))
theorem f116_26 : gm_ft 116 26 = some (.iload_n 2, 1) := by decide +kernel
theorem r116_26 {E : Nat → Value} {d : Nat} {st : List Value} {h : gm_H} {Q : gm_R → gm_H → Prop} {a0 a1 : Value} {x : Int32} : gm_W E d 116 26 [a0, a1, .int x] st h Q ↔ gm_W E d 116 27 [a0, a1, .int x] (.int x :: st) h Q := gw_loc m116 f116_26 rfl rfl
theorem f116_27 : gm_ft 116 27 = some (.iastore, 1) := by decide +kernel
theorem r116_27 {E : Nat → Value} {d : Nat} {st : List Value} {h : gm_H} {Q : gm_R → gm_H → Prop} {lv : List Value} {a j : Nat} {x : Int32} (hk : gm_kd h a = 100) (hj : j < gm_ln h a) (hl : gm_ln h a < 2 ^ 31) : gm_W E d 116 27 lv (.int x :: .int (nI j) :: .ref a :: st) h Q ↔ gm_W E d 116 28 lv st (gm_sf h a j (.int x)) Q := gw_wr m116 f116_27 rfl rfl rfl rfl rfl (gs_st hk (by decide) hj hl)
theorem f116_28 : gm_ft 116 28 = some (.aload_n 0, 1) := by decide +kernel
theorem r116_28 {E : Nat → Value} {d : Nat} {st : List Value} {h : gm_H} {Q : gm_R → gm_H → Prop} {a1 a2 : Value} {x : Nat} : gm_W E d 116 28 [.ref x, a1, a2] st h Q ↔ gm_W E d 116 29 [.ref x, a1, a2] (.ref x :: st) h Q := gw_loc m116 f116_28 rfl rfl
theorem r116_28n {E : Nat → Value} {d : Nat} {st : List Value} {h : gm_H} {Q : gm_R → gm_H → Prop} {a1 a2 : Value}  : gm_W E d 116 28 [.null, a1, a2] st h Q ↔ gm_W E d 116 29 [.null, a1, a2] (.null :: st) h Q := gw_loc m116 f116_28 rfl rfl
theorem f116_29 : gm_ft 116 29 = some (.dup, 1) := by decide +kernel
theorem r116_29 {E : Nat → Value} {d : Nat} {st : List Value} {h : gm_H} {Q : gm_R → gm_H → Prop} {lv : List Value} {a : Nat} : gm_W E d 116 29 lv (.ref a :: st) h Q ↔ gm_W E d 116 30 lv (.ref a :: .ref a :: st) h Q := gw_pure m116 f116_29 rfl
theorem r116_29i {E : Nat → Value} {d : Nat} {st : List Value} {h : gm_H} {Q : gm_R → gm_H → Prop} {lv : List Value} {x : Int32} : gm_W E d 116 29 lv (.int x :: st) h Q ↔ gm_W E d 116 30 lv (.int x :: .int x :: st) h Q := gw_pure m116 f116_29 rfl
theorem f116_30 : gm_ft 116 30 = some (.getfield 33, 3) := by decide +kernel
theorem r116_30 {E : Nat → Value} {d : Nat} {st : List Value} {h : gm_H} {Q : gm_R → gm_H → Prop} {lv : List Value} {a : Nat} (hk : gm_kd h a = 3) : gm_W E d 116 30 lv (.ref a :: st) h Q ↔ gm_W E d 116 33 lv (gm_fv h a 6 :: st) h Q := gw_rd m116 f116_30 rfl rfl rfl rfl (gs_get k3_33 hk (by decide))
theorem f116_33 : gm_ft 116 33 = some (.iconst 1, 1) := by decide +kernel
theorem r116_33 {E : Nat → Value} {d : Nat} {st : List Value} {h : gm_H} {Q : gm_R → gm_H → Prop} {lv : List Value} : gm_W E d 116 33 lv st h Q ↔ gm_W E d 116 34 lv (.int (1 : Int32) :: st) h Q := gw_pure m116 f116_33 rfl
theorem f116_34 : gm_ft 116 34 = some (.iadd, 1) := by decide +kernel
theorem r116_34 {E : Nat → Value} {d : Nat} {st : List Value} {h : gm_H} {Q : gm_R → gm_H → Prop} {lv : List Value} {x y : Int32} : gm_W E d 116 34 lv (.int y :: .int x :: st) h Q ↔ gm_W E d 116 35 lv (.int (x + y) :: st) h Q := gw_pure m116 f116_34 rfl
theorem f116_35 : gm_ft 116 35 = some (.putfield 33, 3) := by decide +kernel
theorem r116_35 {E : Nat → Value} {d : Nat} {st : List Value} {h : gm_H} {Q : gm_R → gm_H → Prop} {lv : List Value} {a : Nat} {x : Int32} (hk : gm_kd h a = 3) : gm_W E d 116 35 lv (.int x :: .ref a :: st) h Q ↔ gm_W E d 116 38 lv st (gm_sf h a 6 (.int x)) Q := gw_wr m116 f116_35 rfl rfl rfl rfl rfl (gs_put k3_33 hk (by decide) (by decide) ⟨rfl, rfl⟩ (by decide))
theorem f116_38 : gm_ft 116 38 = some (.return_, 1) := by decide +kernel
theorem r116_38 {E : Nat → Value} {d : Nat} {h : gm_H} {Q : gm_R → gm_H → Prop} {lv : List Value} : gm_W E d 116 38 lv [] h Q ↔ Q (.inl none) h := gw_ret m116 f116_38 rfl rfl rfl rfl rfl rfl rfl rfl rfl
/-! GraphReader$LocalClass.chainHas(LGraphReader$LocalClass;)Z -/
theorem m117 : gm_mt[117]? = some (⟨"GraphReader$LocalClass", "chainHas", "(LGraphReader$LocalClass;)Z"⟩, prog_4_method_4_code, 3, (some .boolean), [], 3, 1) := rfl
theorem f117_0 : gm_ft 117 0 = some (.aload_n 0, 1) := by decide +kernel
theorem r117_0 {E : Nat → Value} {d : Nat} {st : List Value} {h : gm_H} {Q : gm_R → gm_H → Prop} {a1 a2 : Value} {x : Nat} : gm_W E d 117 0 [.ref x, a1, a2] st h Q ↔ gm_W E d 117 1 [.ref x, a1, a2] (.ref x :: st) h Q := gw_loc m117 f117_0 rfl rfl
theorem r117_0n {E : Nat → Value} {d : Nat} {st : List Value} {h : gm_H} {Q : gm_R → gm_H → Prop} {a1 a2 : Value}  : gm_W E d 117 0 [.null, a1, a2] st h Q ↔ gm_W E d 117 1 [.null, a1, a2] (.null :: st) h Q := gw_loc m117 f117_0 rfl rfl
theorem f117_1 : gm_ft 117 1 = some (.astore_n 2, 1) := by decide +kernel
theorem r117_1 {E : Nat → Value} {d : Nat} {st : List Value} {h : gm_H} {Q : gm_R → gm_H → Prop} {a0 a1 a2 : Value} {x : Nat} : gm_W E d 117 1 [a0, a1, a2] (.ref x :: st) h Q ↔ gm_W E d 117 2 [a0, gm_k a1, .ref x] st h Q := gw_loc m117 f117_1 rfl rfl
theorem r117_1n {E : Nat → Value} {d : Nat} {st : List Value} {h : gm_H} {Q : gm_R → gm_H → Prop} {a0 a1 a2 : Value}  : gm_W E d 117 1 [a0, a1, a2] (.null :: st) h Q ↔ gm_W E d 117 2 [a0, gm_k a1, .null] st h Q := gw_loc m117 f117_1 rfl rfl
theorem f117_2 : gm_ft 117 2 = some (.aload_n 2, 1) := by decide +kernel
theorem r117_2 {E : Nat → Value} {d : Nat} {st : List Value} {h : gm_H} {Q : gm_R → gm_H → Prop} {a0 a1 : Value} {x : Nat} : gm_W E d 117 2 [a0, a1, .ref x] st h Q ↔ gm_W E d 117 3 [a0, a1, .ref x] (.ref x :: st) h Q := gw_loc m117 f117_2 rfl rfl
theorem r117_2n {E : Nat → Value} {d : Nat} {st : List Value} {h : gm_H} {Q : gm_R → gm_H → Prop} {a0 a1 : Value}  : gm_W E d 117 2 [a0, a1, .null] st h Q ↔ gm_W E d 117 3 [a0, a1, .null] (.null :: st) h Q := gw_loc m117 f117_2 rfl rfl
theorem f117_3 : gm_ft 117 3 = some (.ifnull 18, 3) := by decide +kernel
theorem r117_3n {E : Nat → Value} {d : Nat} {st : List Value} {h : gm_H} {Q : gm_R → gm_H → Prop} {lv : List Value} : gm_W E d 117 3 lv (.null :: st) h Q ↔ gm_W E d 117 21 lv st h Q := gw_brT m117 f117_3 rfl rfl rfl rfl
theorem r117_3 {E : Nat → Value} {d : Nat} {st : List Value} {h : gm_H} {Q : gm_R → gm_H → Prop} {lv : List Value} {a : Nat} : gm_W E d 117 3 lv (.ref a :: st) h Q ↔ gm_W E d 117 6 lv st h Q := gw_brF m117 f117_3 rfl rfl rfl rfl
theorem f117_6 : gm_ft 117 6 = some (.aload_n 2, 1) := by decide +kernel
theorem r117_6 {E : Nat → Value} {d : Nat} {st : List Value} {h : gm_H} {Q : gm_R → gm_H → Prop} {a0 a1 : Value} {x : Nat} : gm_W E d 117 6 [a0, a1, .ref x] st h Q ↔ gm_W E d 117 7 [a0, a1, .ref x] (.ref x :: st) h Q := gw_loc m117 f117_6 rfl rfl
theorem r117_6n {E : Nat → Value} {d : Nat} {st : List Value} {h : gm_H} {Q : gm_R → gm_H → Prop} {a0 a1 : Value}  : gm_W E d 117 6 [a0, a1, .null] st h Q ↔ gm_W E d 117 7 [a0, a1, .null] (.null :: st) h Q := gw_loc m117 f117_6 rfl rfl
theorem f117_7 : gm_ft 117 7 = some (.aload_n 1, 1) := by decide +kernel
theorem r117_7 {E : Nat → Value} {d : Nat} {st : List Value} {h : gm_H} {Q : gm_R → gm_H → Prop} {a0 a2 : Value} {x : Nat} : gm_W E d 117 7 [a0, .ref x, a2] st h Q ↔ gm_W E d 117 8 [a0, .ref x, a2] (.ref x :: st) h Q := gw_loc m117 f117_7 rfl rfl
theorem r117_7n {E : Nat → Value} {d : Nat} {st : List Value} {h : gm_H} {Q : gm_R → gm_H → Prop} {a0 a2 : Value}  : gm_W E d 117 7 [a0, .null, a2] st h Q ↔ gm_W E d 117 8 [a0, .null, a2] (.null :: st) h Q := gw_loc m117 f117_7 rfl rfl
theorem f117_8 : gm_ft 117 8 = some (.if_acmp .ne 5, 3) := by decide +kernel
theorem r117_8 {E : Nat → Value} {d : Nat} {st : List Value} {h : gm_H} {Q : gm_R → gm_H → Prop} {lv : List Value} {u v : Nat} : gm_W E d 117 8 lv (.ref v :: .ref u :: st) h Q ↔ (if u = v then gm_W E d 117 11 lv st h Q else gm_W E d 117 13 lv st h Q) := (gw_br m117 f117_8 rfl rfl rfl rfl).trans gw_acn
theorem r117_8n {E : Nat → Value} {d : Nat} {st : List Value} {h : gm_H} {Q : gm_R → gm_H → Prop} {lv : List Value} {u : Nat} : gm_W E d 117 8 lv (.null :: .ref u :: st) h Q ↔ gm_W E d 117 13 lv st h Q := gw_brT (off := 5) m117 f117_8 rfl rfl (by simp [gm_br, gm_rf, gm_ca]) rfl
theorem r117_8m {E : Nat → Value} {d : Nat} {st : List Value} {h : gm_H} {Q : gm_R → gm_H → Prop} {lv : List Value} {u : Nat} : gm_W E d 117 8 lv (.ref u :: .null :: st) h Q ↔ gm_W E d 117 13 lv st h Q := gw_brT (off := 5) m117 f117_8 rfl rfl (by simp [gm_br, gm_rf, gm_ca]) rfl
theorem r117_8o {E : Nat → Value} {d : Nat} {st : List Value} {h : gm_H} {Q : gm_R → gm_H → Prop} {lv : List Value} : gm_W E d 117 8 lv (.null :: .null :: st) h Q ↔ gm_W E d 117 11 lv st h Q := gw_brF (off := 5) m117 f117_8 rfl rfl (by simp [gm_br, gm_rf, gm_ca]) rfl
theorem f117_11 : gm_ft 117 11 = some (.iconst 1, 1) := by decide +kernel
theorem r117_11 {E : Nat → Value} {d : Nat} {st : List Value} {h : gm_H} {Q : gm_R → gm_H → Prop} {lv : List Value} : gm_W E d 117 11 lv st h Q ↔ gm_W E d 117 12 lv (.int (1 : Int32) :: st) h Q := gw_pure m117 f117_11 rfl
theorem f117_12 : gm_ft 117 12 = some (.ireturn, 1) := by decide +kernel
theorem r117_12 {E : Nat → Value} {d : Nat} {h : gm_H} {Q : gm_R → gm_H → Prop} {lv : List Value} {x : Int32} (hx : x = 0 ∨ x = 1) : gm_W E d 117 12 lv [.int x] h Q ↔ Q (.inl (some (.int x))) h := gw_ret m117 f117_12 rfl rfl rfl rfl rfl rfl rfl rfl (by unfold gm_rt; dsimp only; rw [if_pos ⟨rfl, (gs_nb hx).1⟩])
theorem f117_13 : gm_ft 117 13 = some (.aload_n 2, 1) := by decide +kernel
theorem r117_13 {E : Nat → Value} {d : Nat} {st : List Value} {h : gm_H} {Q : gm_R → gm_H → Prop} {a0 a1 : Value} {x : Nat} : gm_W E d 117 13 [a0, a1, .ref x] st h Q ↔ gm_W E d 117 14 [a0, a1, .ref x] (.ref x :: st) h Q := gw_loc m117 f117_13 rfl rfl
theorem r117_13n {E : Nat → Value} {d : Nat} {st : List Value} {h : gm_H} {Q : gm_R → gm_H → Prop} {a0 a1 : Value}  : gm_W E d 117 13 [a0, a1, .null] st h Q ↔ gm_W E d 117 14 [a0, a1, .null] (.null :: st) h Q := gw_loc m117 f117_13 rfl rfl
theorem f117_14 : gm_ft 117 14 = some (.getfield 25, 3) := by decide +kernel
theorem r117_14 {E : Nat → Value} {d : Nat} {st : List Value} {h : gm_H} {Q : gm_R → gm_H → Prop} {lv : List Value} {a : Nat} (hk : gm_kd h a = 3) : gm_W E d 117 14 lv (.ref a :: st) h Q ↔ gm_W E d 117 17 lv (gm_fv h a 2 :: st) h Q := gw_rd m117 f117_14 rfl rfl rfl rfl (gs_get k3_25 hk (by decide))
theorem f117_17 : gm_ft 117 17 = some (.astore_n 2, 1) := by decide +kernel
theorem r117_17 {E : Nat → Value} {d : Nat} {st : List Value} {h : gm_H} {Q : gm_R → gm_H → Prop} {a0 a1 a2 : Value} {x : Nat} : gm_W E d 117 17 [a0, a1, a2] (.ref x :: st) h Q ↔ gm_W E d 117 18 [a0, gm_k a1, .ref x] st h Q := gw_loc m117 f117_17 rfl rfl
theorem r117_17n {E : Nat → Value} {d : Nat} {st : List Value} {h : gm_H} {Q : gm_R → gm_H → Prop} {a0 a1 a2 : Value}  : gm_W E d 117 17 [a0, a1, a2] (.null :: st) h Q ↔ gm_W E d 117 18 [a0, gm_k a1, .null] st h Q := gw_loc m117 f117_17 rfl rfl
theorem f117_18 : gm_ft 117 18 = some (.goto (-16), 3) := by decide +kernel
theorem r117_18 {E : Nat → Value} {d : Nat} {st : List Value} {h : gm_H} {Q : gm_R → gm_H → Prop} {lv : List Value} : gm_W E d 117 18 lv st h Q ↔ gm_W E d 117 2 lv st h Q := gw_brT m117 f117_18 rfl rfl rfl rfl
theorem f117_21 : gm_ft 117 21 = some (.iconst 0, 1) := by decide +kernel
theorem r117_21 {E : Nat → Value} {d : Nat} {st : List Value} {h : gm_H} {Q : gm_R → gm_H → Prop} {lv : List Value} : gm_W E d 117 21 lv st h Q ↔ gm_W E d 117 22 lv (.int (0 : Int32) :: st) h Q := gw_pure m117 f117_21 rfl
theorem f117_22 : gm_ft 117 22 = some (.ireturn, 1) := by decide +kernel
theorem r117_22 {E : Nat → Value} {d : Nat} {h : gm_H} {Q : gm_R → gm_H → Prop} {lv : List Value} {x : Int32} (hx : x = 0 ∨ x = 1) : gm_W E d 117 22 lv [.int x] h Q ↔ Q (.inl (some (.int x))) h := gw_ret m117 f117_22 rfl rfl rfl rfl rfl rfl rfl rfl (by unfold gm_rt; dsimp only; rw [if_pos ⟨rfl, (gs_nb hx).1⟩])
/-! GraphReader$LocalClass.firstSlot()I -/
theorem m118 : gm_mt[118]? = some (⟨"GraphReader$LocalClass", "firstSlot", "()I"⟩, prog_4_method_5_code, 1, (some .int), [], 3, 1) := rfl
theorem f118_0 : gm_ft 118 0 = some (.aload_n 0, 1) := by decide +kernel
theorem r118_0 {E : Nat → Value} {d : Nat} {st : List Value} {h : gm_H} {Q : gm_R → gm_H → Prop}  {x : Nat} : gm_W E d 118 0 [.ref x] st h Q ↔ gm_W E d 118 1 [.ref x] (.ref x :: st) h Q := gw_loc m118 f118_0 rfl rfl
theorem r118_0n {E : Nat → Value} {d : Nat} {st : List Value} {h : gm_H} {Q : gm_R → gm_H → Prop}   : gm_W E d 118 0 [.null] st h Q ↔ gm_W E d 118 1 [.null] (.null :: st) h Q := gw_loc m118 f118_0 rfl rfl
theorem f118_1 : gm_ft 118 1 = some (.getfield 25, 3) := by decide +kernel
theorem r118_1 {E : Nat → Value} {d : Nat} {st : List Value} {h : gm_H} {Q : gm_R → gm_H → Prop} {lv : List Value} {a : Nat} (hk : gm_kd h a = 3) : gm_W E d 118 1 lv (.ref a :: st) h Q ↔ gm_W E d 118 4 lv (gm_fv h a 2 :: st) h Q := gw_rd m118 f118_1 rfl rfl rfl rfl (gs_get k3_25 hk (by decide))
theorem f118_4 : gm_ft 118 4 = some (.ifnonnull 7, 3) := by decide +kernel
theorem r118_4n {E : Nat → Value} {d : Nat} {st : List Value} {h : gm_H} {Q : gm_R → gm_H → Prop} {lv : List Value} : gm_W E d 118 4 lv (.null :: st) h Q ↔ gm_W E d 118 7 lv st h Q := gw_brF m118 f118_4 rfl rfl rfl rfl
theorem r118_4 {E : Nat → Value} {d : Nat} {st : List Value} {h : gm_H} {Q : gm_R → gm_H → Prop} {lv : List Value} {a : Nat} : gm_W E d 118 4 lv (.ref a :: st) h Q ↔ gm_W E d 118 11 lv st h Q := gw_brT m118 f118_4 rfl rfl rfl rfl
theorem f118_7 : gm_ft 118 7 = some (.iconst 0, 1) := by decide +kernel
theorem r118_7 {E : Nat → Value} {d : Nat} {st : List Value} {h : gm_H} {Q : gm_R → gm_H → Prop} {lv : List Value} : gm_W E d 118 7 lv st h Q ↔ gm_W E d 118 8 lv (.int (0 : Int32) :: st) h Q := gw_pure m118 f118_7 rfl
theorem f118_8 : gm_ft 118 8 = some (.goto 10, 3) := by decide +kernel
theorem r118_8 {E : Nat → Value} {d : Nat} {st : List Value} {h : gm_H} {Q : gm_R → gm_H → Prop} {lv : List Value} : gm_W E d 118 8 lv st h Q ↔ gm_W E d 118 18 lv st h Q := gw_brT m118 f118_8 rfl rfl rfl rfl
theorem f118_11 : gm_ft 118 11 = some (.aload_n 0, 1) := by decide +kernel
theorem r118_11 {E : Nat → Value} {d : Nat} {st : List Value} {h : gm_H} {Q : gm_R → gm_H → Prop}  {x : Nat} : gm_W E d 118 11 [.ref x] st h Q ↔ gm_W E d 118 12 [.ref x] (.ref x :: st) h Q := gw_loc m118 f118_11 rfl rfl
theorem r118_11n {E : Nat → Value} {d : Nat} {st : List Value} {h : gm_H} {Q : gm_R → gm_H → Prop}   : gm_W E d 118 11 [.null] st h Q ↔ gm_W E d 118 12 [.null] (.null :: st) h Q := gw_loc m118 f118_11 rfl rfl
theorem f118_12 : gm_ft 118 12 = some (.getfield 25, 3) := by decide +kernel
theorem r118_12 {E : Nat → Value} {d : Nat} {st : List Value} {h : gm_H} {Q : gm_R → gm_H → Prop} {lv : List Value} {a : Nat} (hk : gm_kd h a = 3) : gm_W E d 118 12 lv (.ref a :: st) h Q ↔ gm_W E d 118 15 lv (gm_fv h a 2 :: st) h Q := gw_rd m118 f118_12 rfl rfl rfl rfl (gs_get k3_25 hk (by decide))
theorem f118_15 : gm_ft 118 15 = some (.invokevirtual 36, 3) := by decide +kernel
theorem c118_15 {E : Nat → Value} {d : Nat} {st : List Value} {h : gm_H} {Q : gm_R → gm_H → Prop} {lv : List Value} {a : Nat} {Qc : gm_R → gm_H → Prop} (hs : (st.map fun v => v.category).sum ≤ 8) (hr : gm_kd h a = 3) (hd : 1 ≤ d) (hc : gm_Ca E (d - 1) 119 [.ref a] h Qc) (kn : ∀ (v9 : Option Value) (h9 : gm_H), Qc (.inl v9) h9 → gm_W E d 118 18 lv (v9.toList ++ st) h9 Q) (kx : ∀ (x9 : Nat) (h9 : gm_H), Qc (.inr x9) h9 → Q (.inr x9) h9) : gm_W E d 118 15 lv (.ref a :: st) h Q := gw_call (gn_call m118 f118_15 rfl rfl rfl rfl rfl rfl rfl (gs_virt (bs := []) (w := 550) (L := 3) rfl rfl rfl rfl hs (by simp [gm_en1]) hr (by decide)) (by decide)) m118 rfl rfl hd hc kn kx
theorem f118_18 : gm_ft 118 18 = some (.ireturn, 1) := by decide +kernel
theorem r118_18 {E : Nat → Value} {d : Nat} {h : gm_H} {Q : gm_R → gm_H → Prop} {lv : List Value} {x : Int32} : gm_W E d 118 18 lv [.int x] h Q ↔ Q (.inl (some (.int x))) h := gw_ret m118 f118_18 rfl rfl rfl rfl rfl rfl rfl rfl (by unfold gm_rt; dsimp only; rw [if_pos ⟨rfl, rfl⟩])
/-! GraphReader$LocalClass.slotCount()I -/
theorem m119 : gm_mt[119]? = some (⟨"GraphReader$LocalClass", "slotCount", "()I"⟩, prog_4_method_6_code, 3, (some .int), [], 3, 1) := rfl
theorem f119_0 : gm_ft 119 0 = some (.iconst 0, 1) := by decide +kernel
theorem r119_0 {E : Nat → Value} {d : Nat} {st : List Value} {h : gm_H} {Q : gm_R → gm_H → Prop} {lv : List Value} : gm_W E d 119 0 lv st h Q ↔ gm_W E d 119 1 lv (.int (0 : Int32) :: st) h Q := gw_pure m119 f119_0 rfl
theorem f119_1 : gm_ft 119 1 = some (.istore_n 1, 1) := by decide +kernel
theorem r119_1 {E : Nat → Value} {d : Nat} {st : List Value} {h : gm_H} {Q : gm_R → gm_H → Prop} {a0 a1 a2 : Value} {x : Int32} : gm_W E d 119 1 [a0, a1, a2] (.int x :: st) h Q ↔ gm_W E d 119 2 [gm_k a0, .int x, a2] st h Q := gw_loc m119 f119_1 rfl rfl
theorem f119_2 : gm_ft 119 2 = some (.aload_n 0, 1) := by decide +kernel
theorem r119_2 {E : Nat → Value} {d : Nat} {st : List Value} {h : gm_H} {Q : gm_R → gm_H → Prop} {a1 a2 : Value} {x : Nat} : gm_W E d 119 2 [.ref x, a1, a2] st h Q ↔ gm_W E d 119 3 [.ref x, a1, a2] (.ref x :: st) h Q := gw_loc m119 f119_2 rfl rfl
theorem r119_2n {E : Nat → Value} {d : Nat} {st : List Value} {h : gm_H} {Q : gm_R → gm_H → Prop} {a1 a2 : Value}  : gm_W E d 119 2 [.null, a1, a2] st h Q ↔ gm_W E d 119 3 [.null, a1, a2] (.null :: st) h Q := gw_loc m119 f119_2 rfl rfl
theorem f119_3 : gm_ft 119 3 = some (.astore_n 2, 1) := by decide +kernel
theorem r119_3 {E : Nat → Value} {d : Nat} {st : List Value} {h : gm_H} {Q : gm_R → gm_H → Prop} {a0 a1 a2 : Value} {x : Nat} : gm_W E d 119 3 [a0, a1, a2] (.ref x :: st) h Q ↔ gm_W E d 119 4 [a0, gm_k a1, .ref x] st h Q := gw_loc m119 f119_3 rfl rfl
theorem r119_3n {E : Nat → Value} {d : Nat} {st : List Value} {h : gm_H} {Q : gm_R → gm_H → Prop} {a0 a1 a2 : Value}  : gm_W E d 119 3 [a0, a1, a2] (.null :: st) h Q ↔ gm_W E d 119 4 [a0, gm_k a1, .null] st h Q := gw_loc m119 f119_3 rfl rfl
theorem f119_4 : gm_ft 119 4 = some (.aload_n 2, 1) := by decide +kernel
theorem r119_4 {E : Nat → Value} {d : Nat} {st : List Value} {h : gm_H} {Q : gm_R → gm_H → Prop} {a0 a1 : Value} {x : Nat} : gm_W E d 119 4 [a0, a1, .ref x] st h Q ↔ gm_W E d 119 5 [a0, a1, .ref x] (.ref x :: st) h Q := gw_loc m119 f119_4 rfl rfl
theorem r119_4n {E : Nat → Value} {d : Nat} {st : List Value} {h : gm_H} {Q : gm_R → gm_H → Prop} {a0 a1 : Value}  : gm_W E d 119 4 [a0, a1, .null] st h Q ↔ gm_W E d 119 5 [a0, a1, .null] (.null :: st) h Q := gw_loc m119 f119_4 rfl rfl
theorem f119_5 : gm_ft 119 5 = some (.ifnull 18, 3) := by decide +kernel
theorem r119_5n {E : Nat → Value} {d : Nat} {st : List Value} {h : gm_H} {Q : gm_R → gm_H → Prop} {lv : List Value} : gm_W E d 119 5 lv (.null :: st) h Q ↔ gm_W E d 119 23 lv st h Q := gw_brT m119 f119_5 rfl rfl rfl rfl
theorem r119_5 {E : Nat → Value} {d : Nat} {st : List Value} {h : gm_H} {Q : gm_R → gm_H → Prop} {lv : List Value} {a : Nat} : gm_W E d 119 5 lv (.ref a :: st) h Q ↔ gm_W E d 119 8 lv st h Q := gw_brF m119 f119_5 rfl rfl rfl rfl
theorem f119_8 : gm_ft 119 8 = some (.iload_n 1, 1) := by decide +kernel
theorem r119_8 {E : Nat → Value} {d : Nat} {st : List Value} {h : gm_H} {Q : gm_R → gm_H → Prop} {a0 a2 : Value} {x : Int32} : gm_W E d 119 8 [a0, .int x, a2] st h Q ↔ gm_W E d 119 9 [a0, .int x, a2] (.int x :: st) h Q := gw_loc m119 f119_8 rfl rfl
theorem f119_9 : gm_ft 119 9 = some (.aload_n 2, 1) := by decide +kernel
theorem r119_9 {E : Nat → Value} {d : Nat} {st : List Value} {h : gm_H} {Q : gm_R → gm_H → Prop} {a0 a1 : Value} {x : Nat} : gm_W E d 119 9 [a0, a1, .ref x] st h Q ↔ gm_W E d 119 10 [a0, a1, .ref x] (.ref x :: st) h Q := gw_loc m119 f119_9 rfl rfl
theorem r119_9n {E : Nat → Value} {d : Nat} {st : List Value} {h : gm_H} {Q : gm_R → gm_H → Prop} {a0 a1 : Value}  : gm_W E d 119 9 [a0, a1, .null] st h Q ↔ gm_W E d 119 10 [a0, a1, .null] (.null :: st) h Q := gw_loc m119 f119_9 rfl rfl
theorem f119_10 : gm_ft 119 10 = some (.getfield 33, 3) := by decide +kernel
theorem r119_10 {E : Nat → Value} {d : Nat} {st : List Value} {h : gm_H} {Q : gm_R → gm_H → Prop} {lv : List Value} {a : Nat} (hk : gm_kd h a = 3) : gm_W E d 119 10 lv (.ref a :: st) h Q ↔ gm_W E d 119 13 lv (gm_fv h a 6 :: st) h Q := gw_rd m119 f119_10 rfl rfl rfl rfl (gs_get k3_33 hk (by decide))
theorem f119_13 : gm_ft 119 13 = some (.iadd, 1) := by decide +kernel
theorem r119_13 {E : Nat → Value} {d : Nat} {st : List Value} {h : gm_H} {Q : gm_R → gm_H → Prop} {lv : List Value} {x y : Int32} : gm_W E d 119 13 lv (.int y :: .int x :: st) h Q ↔ gm_W E d 119 14 lv (.int (x + y) :: st) h Q := gw_pure m119 f119_13 rfl
theorem f119_14 : gm_ft 119 14 = some (.istore_n 1, 1) := by decide +kernel
theorem r119_14 {E : Nat → Value} {d : Nat} {st : List Value} {h : gm_H} {Q : gm_R → gm_H → Prop} {a0 a1 a2 : Value} {x : Int32} : gm_W E d 119 14 [a0, a1, a2] (.int x :: st) h Q ↔ gm_W E d 119 15 [gm_k a0, .int x, a2] st h Q := gw_loc m119 f119_14 rfl rfl
theorem f119_15 : gm_ft 119 15 = some (.aload_n 2, 1) := by decide +kernel
theorem r119_15 {E : Nat → Value} {d : Nat} {st : List Value} {h : gm_H} {Q : gm_R → gm_H → Prop} {a0 a1 : Value} {x : Nat} : gm_W E d 119 15 [a0, a1, .ref x] st h Q ↔ gm_W E d 119 16 [a0, a1, .ref x] (.ref x :: st) h Q := gw_loc m119 f119_15 rfl rfl
theorem r119_15n {E : Nat → Value} {d : Nat} {st : List Value} {h : gm_H} {Q : gm_R → gm_H → Prop} {a0 a1 : Value}  : gm_W E d 119 15 [a0, a1, .null] st h Q ↔ gm_W E d 119 16 [a0, a1, .null] (.null :: st) h Q := gw_loc m119 f119_15 rfl rfl
theorem f119_16 : gm_ft 119 16 = some (.getfield 25, 3) := by decide +kernel
theorem r119_16 {E : Nat → Value} {d : Nat} {st : List Value} {h : gm_H} {Q : gm_R → gm_H → Prop} {lv : List Value} {a : Nat} (hk : gm_kd h a = 3) : gm_W E d 119 16 lv (.ref a :: st) h Q ↔ gm_W E d 119 19 lv (gm_fv h a 2 :: st) h Q := gw_rd m119 f119_16 rfl rfl rfl rfl (gs_get k3_25 hk (by decide))
theorem f119_19 : gm_ft 119 19 = some (.astore_n 2, 1) := by decide +kernel
theorem r119_19 {E : Nat → Value} {d : Nat} {st : List Value} {h : gm_H} {Q : gm_R → gm_H → Prop} {a0 a1 a2 : Value} {x : Nat} : gm_W E d 119 19 [a0, a1, a2] (.ref x :: st) h Q ↔ gm_W E d 119 20 [a0, gm_k a1, .ref x] st h Q := gw_loc m119 f119_19 rfl rfl
theorem r119_19n {E : Nat → Value} {d : Nat} {st : List Value} {h : gm_H} {Q : gm_R → gm_H → Prop} {a0 a1 a2 : Value}  : gm_W E d 119 19 [a0, a1, a2] (.null :: st) h Q ↔ gm_W E d 119 20 [a0, gm_k a1, .null] st h Q := gw_loc m119 f119_19 rfl rfl
theorem f119_20 : gm_ft 119 20 = some (.goto (-16), 3) := by decide +kernel
theorem r119_20 {E : Nat → Value} {d : Nat} {st : List Value} {h : gm_H} {Q : gm_R → gm_H → Prop} {lv : List Value} : gm_W E d 119 20 lv st h Q ↔ gm_W E d 119 4 lv st h Q := gw_brT m119 f119_20 rfl rfl rfl rfl
theorem f119_23 : gm_ft 119 23 = some (.iload_n 1, 1) := by decide +kernel
theorem r119_23 {E : Nat → Value} {d : Nat} {st : List Value} {h : gm_H} {Q : gm_R → gm_H → Prop} {a0 a2 : Value} {x : Int32} : gm_W E d 119 23 [a0, .int x, a2] st h Q ↔ gm_W E d 119 24 [a0, .int x, a2] (.int x :: st) h Q := gw_loc m119 f119_23 rfl rfl
theorem f119_24 : gm_ft 119 24 = some (.ireturn, 1) := by decide +kernel
theorem r119_24 {E : Nat → Value} {d : Nat} {h : gm_H} {Q : gm_R → gm_H → Prop} {lv : List Value} {x : Int32} : gm_W E d 119 24 lv [.int x] h Q ↔ Q (.inl (some (.int x))) h := gw_ret m119 f119_24 rfl rfl rfl rfl rfl rfl rfl rfl (by unfold gm_rt; dsimp only; rw [if_pos ⟨rfl, rfl⟩])
/-! GraphReader$LocalClass.slotOf(II)I -/
theorem m120 : gm_mt[120]? = some (⟨"GraphReader$LocalClass", "slotOf", "(II)I"⟩, prog_4_method_7_code, 4, (some .int), [], 3, 1) := rfl
theorem f120_0 : gm_ft 120 0 = some (.aload_n 0, 1) := by decide +kernel
theorem r120_0 {E : Nat → Value} {d : Nat} {st : List Value} {h : gm_H} {Q : gm_R → gm_H → Prop} {a1 a2 a3 : Value} {x : Nat} : gm_W E d 120 0 [.ref x, a1, a2, a3] st h Q ↔ gm_W E d 120 1 [.ref x, a1, a2, a3] (.ref x :: st) h Q := gw_loc m120 f120_0 rfl rfl
theorem r120_0n {E : Nat → Value} {d : Nat} {st : List Value} {h : gm_H} {Q : gm_R → gm_H → Prop} {a1 a2 a3 : Value}  : gm_W E d 120 0 [.null, a1, a2, a3] st h Q ↔ gm_W E d 120 1 [.null, a1, a2, a3] (.null :: st) h Q := gw_loc m120 f120_0 rfl rfl
theorem f120_1 : gm_ft 120 1 = some (.iload_n 1, 1) := by decide +kernel
theorem r120_1 {E : Nat → Value} {d : Nat} {st : List Value} {h : gm_H} {Q : gm_R → gm_H → Prop} {a0 a2 a3 : Value} {x : Int32} : gm_W E d 120 1 [a0, .int x, a2, a3] st h Q ↔ gm_W E d 120 2 [a0, .int x, a2, a3] (.int x :: st) h Q := gw_loc m120 f120_1 rfl rfl
theorem f120_2 : gm_ft 120 2 = some (.invokevirtual 40, 3) := by decide +kernel
theorem c120_2 {E : Nat → Value} {d : Nat} {st : List Value} {h : gm_H} {Q : gm_R → gm_H → Prop} {lv : List Value} {b0 : Int32} {a : Nat} {Qc : gm_R → gm_H → Prop} (hs : (st.map fun v => v.category).sum ≤ 8) (hr : gm_kd h a = 3) (hd : 1 ≤ d) (hc : gm_Ca E (d - 1) 115 [.ref a, .int b0] h Qc) (kn : ∀ (v9 : Option Value) (h9 : gm_H), Qc (.inl v9) h9 → gm_W E d 120 5 lv (v9.toList ++ st) h9 Q) (kx : ∀ (x9 : Nat) (h9 : gm_H), Qc (.inr x9) h9 → Q (.inr x9) h9) : gm_W E d 120 2 lv (.int b0 :: .ref a :: st) h Q := gw_call (gn_call m120 f120_2 rfl rfl rfl rfl rfl rfl rfl (gs_virt (bs := [.int b0]) (w := 581) (L := 3) rfl rfl rfl rfl hs (by simp [gm_en1]) hr (by decide)) (by decide)) m120 rfl rfl hd hc kn kx
theorem f120_5 : gm_ft 120 5 = some (.istore_n 3, 1) := by decide +kernel
theorem r120_5 {E : Nat → Value} {d : Nat} {st : List Value} {h : gm_H} {Q : gm_R → gm_H → Prop} {a0 a1 a2 a3 : Value} {x : Int32} : gm_W E d 120 5 [a0, a1, a2, a3] (.int x :: st) h Q ↔ gm_W E d 120 6 [a0, a1, gm_k a2, .int x] st h Q := gw_loc m120 f120_5 rfl rfl
theorem f120_6 : gm_ft 120 6 = some (.iload_n 3, 1) := by decide +kernel
theorem r120_6 {E : Nat → Value} {d : Nat} {st : List Value} {h : gm_H} {Q : gm_R → gm_H → Prop} {a0 a1 a2 : Value} {x : Int32} : gm_W E d 120 6 [a0, a1, a2, .int x] st h Q ↔ gm_W E d 120 7 [a0, a1, a2, .int x] (.int x :: st) h Q := gw_loc m120 f120_6 rfl rfl
theorem f120_7 : gm_ft 120 7 = some (.ifCond .lt 22, 3) := by decide +kernel
theorem r120_7 {E : Nat → Value} {d : Nat} {st : List Value} {h : gm_H} {Q : gm_R → gm_H → Prop} {lv : List Value} {x : Int32} : gm_W E d 120 7 lv (.int x :: st) h Q ↔ (if x < 0 then gm_W E d 120 29 lv st h Q else gm_W E d 120 10 lv st h Q) := (gw_br m120 f120_7 rfl rfl rfl rfl).trans gw_if
theorem f120_10 : gm_ft 120 10 = some (.aload_n 0, 1) := by decide +kernel
theorem r120_10 {E : Nat → Value} {d : Nat} {st : List Value} {h : gm_H} {Q : gm_R → gm_H → Prop} {a1 a2 a3 : Value} {x : Nat} : gm_W E d 120 10 [.ref x, a1, a2, a3] st h Q ↔ gm_W E d 120 11 [.ref x, a1, a2, a3] (.ref x :: st) h Q := gw_loc m120 f120_10 rfl rfl
theorem r120_10n {E : Nat → Value} {d : Nat} {st : List Value} {h : gm_H} {Q : gm_R → gm_H → Prop} {a1 a2 a3 : Value}  : gm_W E d 120 10 [.null, a1, a2, a3] st h Q ↔ gm_W E d 120 11 [.null, a1, a2, a3] (.null :: st) h Q := gw_loc m120 f120_10 rfl rfl
theorem f120_11 : gm_ft 120 11 = some (.getfield 15, 3) := by decide +kernel
theorem r120_11 {E : Nat → Value} {d : Nat} {st : List Value} {h : gm_H} {Q : gm_R → gm_H → Prop} {lv : List Value} {a : Nat} (hk : gm_kd h a = 3) : gm_W E d 120 11 lv (.ref a :: st) h Q ↔ gm_W E d 120 14 lv (gm_fv h a 5 :: st) h Q := gw_rd m120 f120_11 rfl rfl rfl rfl (gs_get k3_15 hk (by decide))
theorem f120_14 : gm_ft 120 14 = some (.iload_n 3, 1) := by decide +kernel
theorem r120_14 {E : Nat → Value} {d : Nat} {st : List Value} {h : gm_H} {Q : gm_R → gm_H → Prop} {a0 a1 a2 : Value} {x : Int32} : gm_W E d 120 14 [a0, a1, a2, .int x] st h Q ↔ gm_W E d 120 15 [a0, a1, a2, .int x] (.int x :: st) h Q := gw_loc m120 f120_14 rfl rfl
theorem f120_15 : gm_ft 120 15 = some (.iaload, 1) := by decide +kernel
theorem r120_15 {E : Nat → Value} {d : Nat} {st : List Value} {h : gm_H} {Q : gm_R → gm_H → Prop} {lv : List Value} {a j : Nat} (hk : gm_kd h a % 100 = 0 ∧ 100 ≤ gm_kd h a ∧ gm_kd h a < 900) (hj : j < gm_ln h a) (hl : gm_ln h a < 2 ^ 31) : gm_W E d 120 15 lv (.int (nI j) :: .ref a :: st) h Q ↔ gm_W E d 120 16 lv (gm_fv h a j :: st) h Q := gw_rd m120 f120_15 rfl rfl rfl rfl (gs_ld (P := fun t => t == 0) hk.2 (by have := hk.1; simp [this] <;> omega) hj hl)
theorem f120_16 : gm_ft 120 16 = some (.iload_n 2, 1) := by decide +kernel
theorem r120_16 {E : Nat → Value} {d : Nat} {st : List Value} {h : gm_H} {Q : gm_R → gm_H → Prop} {a0 a1 a3 : Value} {x : Int32} : gm_W E d 120 16 [a0, a1, .int x, a3] st h Q ↔ gm_W E d 120 17 [a0, a1, .int x, a3] (.int x :: st) h Q := gw_loc m120 f120_16 rfl rfl
theorem f120_17 : gm_ft 120 17 = some (.if_icmp .ne 12, 3) := by decide +kernel
theorem r120_17 {E : Nat → Value} {d : Nat} {st : List Value} {h : gm_H} {Q : gm_R → gm_H → Prop} {lv : List Value} {x y : Int32} : gm_W E d 120 17 lv (.int y :: .int x :: st) h Q ↔ (if x = y then gm_W E d 120 20 lv st h Q else gm_W E d 120 29 lv st h Q) := (gw_br m120 f120_17 rfl rfl rfl rfl).trans gw_ifn
theorem f120_20 : gm_ft 120 20 = some (.aload_n 0, 1) := by decide +kernel
theorem r120_20 {E : Nat → Value} {d : Nat} {st : List Value} {h : gm_H} {Q : gm_R → gm_H → Prop} {a1 a2 a3 : Value} {x : Nat} : gm_W E d 120 20 [.ref x, a1, a2, a3] st h Q ↔ gm_W E d 120 21 [.ref x, a1, a2, a3] (.ref x :: st) h Q := gw_loc m120 f120_20 rfl rfl
theorem r120_20n {E : Nat → Value} {d : Nat} {st : List Value} {h : gm_H} {Q : gm_R → gm_H → Prop} {a1 a2 a3 : Value}  : gm_W E d 120 20 [.null, a1, a2, a3] st h Q ↔ gm_W E d 120 21 [.null, a1, a2, a3] (.null :: st) h Q := gw_loc m120 f120_20 rfl rfl
theorem f120_21 : gm_ft 120 21 = some (.invokevirtual 44, 3) := by decide +kernel
theorem c120_21 {E : Nat → Value} {d : Nat} {st : List Value} {h : gm_H} {Q : gm_R → gm_H → Prop} {lv : List Value} {a : Nat} {Qc : gm_R → gm_H → Prop} (hs : (st.map fun v => v.category).sum ≤ 8) (hr : gm_kd h a = 3) (hd : 1 ≤ d) (hc : gm_Ca E (d - 1) 118 [.ref a] h Qc) (kn : ∀ (v9 : Option Value) (h9 : gm_H), Qc (.inl v9) h9 → gm_W E d 120 24 lv (v9.toList ++ st) h9 Q) (kx : ∀ (x9 : Nat) (h9 : gm_H), Qc (.inr x9) h9 → Q (.inr x9) h9) : gm_W E d 120 21 lv (.ref a :: st) h Q := gw_call (gn_call m120 f120_21 rfl rfl rfl rfl rfl rfl rfl (gs_virt (bs := []) (w := 546) (L := 1) rfl rfl rfl rfl hs (by simp [gm_en1]) hr (by decide)) (by decide)) m120 rfl rfl hd hc kn kx
theorem f120_24 : gm_ft 120 24 = some (.iload_n 3, 1) := by decide +kernel
theorem r120_24 {E : Nat → Value} {d : Nat} {st : List Value} {h : gm_H} {Q : gm_R → gm_H → Prop} {a0 a1 a2 : Value} {x : Int32} : gm_W E d 120 24 [a0, a1, a2, .int x] st h Q ↔ gm_W E d 120 25 [a0, a1, a2, .int x] (.int x :: st) h Q := gw_loc m120 f120_24 rfl rfl
theorem f120_25 : gm_ft 120 25 = some (.iadd, 1) := by decide +kernel
theorem r120_25 {E : Nat → Value} {d : Nat} {st : List Value} {h : gm_H} {Q : gm_R → gm_H → Prop} {lv : List Value} {x y : Int32} : gm_W E d 120 25 lv (.int y :: .int x :: st) h Q ↔ gm_W E d 120 26 lv (.int (x + y) :: st) h Q := gw_pure m120 f120_25 rfl
theorem f120_26 : gm_ft 120 26 = some (.goto 4, 3) := by decide +kernel
theorem r120_26 {E : Nat → Value} {d : Nat} {st : List Value} {h : gm_H} {Q : gm_R → gm_H → Prop} {lv : List Value} : gm_W E d 120 26 lv st h Q ↔ gm_W E d 120 30 lv st h Q := gw_brT m120 f120_26 rfl rfl rfl rfl
theorem f120_29 : gm_ft 120 29 = some (.iconst (-1), 1) := by decide +kernel
theorem r120_29 {E : Nat → Value} {d : Nat} {st : List Value} {h : gm_H} {Q : gm_R → gm_H → Prop} {lv : List Value} : gm_W E d 120 29 lv st h Q ↔ gm_W E d 120 30 lv (.int (-1 : Int32) :: st) h Q := gw_pure m120 f120_29 rfl
theorem f120_30 : gm_ft 120 30 = some (.ireturn, 1) := by decide +kernel
theorem r120_30 {E : Nat → Value} {d : Nat} {h : gm_H} {Q : gm_R → gm_H → Prop} {lv : List Value} {x : Int32} : gm_W E d 120 30 lv [.int x] h Q ↔ Q (.inl (some (.int x))) h := gw_ret m120 f120_30 rfl rfl rfl rfl rfl rfl rfl rfl (by unfold gm_rt; dsimp only; rw [if_pos ⟨rfl, rfl⟩])
/-! GraphReader$LocalClass.fillSlots([J)V -/
theorem m121 : gm_mt[121]? = some (⟨"GraphReader$LocalClass", "fillSlots", "([J)V"⟩, prog_4_method_8_code, 5, none, [], 3, 1) := rfl
theorem f121_0 : gm_ft 121 0 = some (.aload_n 0, 1) := by decide +kernel
theorem r121_0 {E : Nat → Value} {d : Nat} {st : List Value} {h : gm_H} {Q : gm_R → gm_H → Prop} {a1 a2 a3 a4 : Value} {x : Nat} : gm_W E d 121 0 [.ref x, a1, a2, a3, a4] st h Q ↔ gm_W E d 121 1 [.ref x, a1, a2, a3, a4] (.ref x :: st) h Q := gw_loc m121 f121_0 rfl rfl
theorem r121_0n {E : Nat → Value} {d : Nat} {st : List Value} {h : gm_H} {Q : gm_R → gm_H → Prop} {a1 a2 a3 a4 : Value}  : gm_W E d 121 0 [.null, a1, a2, a3, a4] st h Q ↔ gm_W E d 121 1 [.null, a1, a2, a3, a4] (.null :: st) h Q := gw_loc m121 f121_0 rfl rfl
theorem f121_1 : gm_ft 121 1 = some (.astore_n 2, 1) := by decide +kernel
theorem r121_1 {E : Nat → Value} {d : Nat} {st : List Value} {h : gm_H} {Q : gm_R → gm_H → Prop} {a0 a1 a2 a3 a4 : Value} {x : Nat} : gm_W E d 121 1 [a0, a1, a2, a3, a4] (.ref x :: st) h Q ↔ gm_W E d 121 2 [a0, gm_k a1, .ref x, a3, a4] st h Q := gw_loc m121 f121_1 rfl rfl
theorem r121_1n {E : Nat → Value} {d : Nat} {st : List Value} {h : gm_H} {Q : gm_R → gm_H → Prop} {a0 a1 a2 a3 a4 : Value}  : gm_W E d 121 1 [a0, a1, a2, a3, a4] (.null :: st) h Q ↔ gm_W E d 121 2 [a0, gm_k a1, .null, a3, a4] st h Q := gw_loc m121 f121_1 rfl rfl
theorem f121_2 : gm_ft 121 2 = some (.aload_n 2, 1) := by decide +kernel
theorem r121_2 {E : Nat → Value} {d : Nat} {st : List Value} {h : gm_H} {Q : gm_R → gm_H → Prop} {a0 a1 a3 a4 : Value} {x : Nat} : gm_W E d 121 2 [a0, a1, .ref x, a3, a4] st h Q ↔ gm_W E d 121 3 [a0, a1, .ref x, a3, a4] (.ref x :: st) h Q := gw_loc m121 f121_2 rfl rfl
theorem r121_2n {E : Nat → Value} {d : Nat} {st : List Value} {h : gm_H} {Q : gm_R → gm_H → Prop} {a0 a1 a3 a4 : Value}  : gm_W E d 121 2 [a0, a1, .null, a3, a4] st h Q ↔ gm_W E d 121 3 [a0, a1, .null, a3, a4] (.null :: st) h Q := gw_loc m121 f121_2 rfl rfl
theorem f121_3 : gm_ft 121 3 = some (.ifnull 61, 3) := by decide +kernel
theorem r121_3n {E : Nat → Value} {d : Nat} {st : List Value} {h : gm_H} {Q : gm_R → gm_H → Prop} {lv : List Value} : gm_W E d 121 3 lv (.null :: st) h Q ↔ gm_W E d 121 64 lv st h Q := gw_brT m121 f121_3 rfl rfl rfl rfl
theorem r121_3 {E : Nat → Value} {d : Nat} {st : List Value} {h : gm_H} {Q : gm_R → gm_H → Prop} {lv : List Value} {a : Nat} : gm_W E d 121 3 lv (.ref a :: st) h Q ↔ gm_W E d 121 6 lv st h Q := gw_brF m121 f121_3 rfl rfl rfl rfl
theorem f121_6 : gm_ft 121 6 = some (.aload_n 2, 1) := by decide +kernel
theorem r121_6 {E : Nat → Value} {d : Nat} {st : List Value} {h : gm_H} {Q : gm_R → gm_H → Prop} {a0 a1 a3 a4 : Value} {x : Nat} : gm_W E d 121 6 [a0, a1, .ref x, a3, a4] st h Q ↔ gm_W E d 121 7 [a0, a1, .ref x, a3, a4] (.ref x :: st) h Q := gw_loc m121 f121_6 rfl rfl
theorem r121_6n {E : Nat → Value} {d : Nat} {st : List Value} {h : gm_H} {Q : gm_R → gm_H → Prop} {a0 a1 a3 a4 : Value}  : gm_W E d 121 6 [a0, a1, .null, a3, a4] st h Q ↔ gm_W E d 121 7 [a0, a1, .null, a3, a4] (.null :: st) h Q := gw_loc m121 f121_6 rfl rfl
theorem f121_7 : gm_ft 121 7 = some (.invokevirtual 44, 3) := by decide +kernel
theorem c121_7 {E : Nat → Value} {d : Nat} {st : List Value} {h : gm_H} {Q : gm_R → gm_H → Prop} {lv : List Value} {a : Nat} {Qc : gm_R → gm_H → Prop} (hs : (st.map fun v => v.category).sum ≤ 8) (hr : gm_kd h a = 3) (hd : 1 ≤ d) (hc : gm_Ca E (d - 1) 118 [.ref a] h Qc) (kn : ∀ (v9 : Option Value) (h9 : gm_H), Qc (.inl v9) h9 → gm_W E d 121 10 lv (v9.toList ++ st) h9 Q) (kx : ∀ (x9 : Nat) (h9 : gm_H), Qc (.inr x9) h9 → Q (.inr x9) h9) : gm_W E d 121 7 lv (.ref a :: st) h Q := gw_call (gn_call m121 f121_7 rfl rfl rfl rfl rfl rfl rfl (gs_virt (bs := []) (w := 546) (L := 1) rfl rfl rfl rfl hs (by simp [gm_en1]) hr (by decide)) (by decide)) m121 rfl rfl hd hc kn kx
theorem f121_10 : gm_ft 121 10 = some (.istore_n 3, 1) := by decide +kernel
theorem r121_10 {E : Nat → Value} {d : Nat} {st : List Value} {h : gm_H} {Q : gm_R → gm_H → Prop} {a0 a1 a2 a3 a4 : Value} {x : Int32} : gm_W E d 121 10 [a0, a1, a2, a3, a4] (.int x :: st) h Q ↔ gm_W E d 121 11 [a0, a1, gm_k a2, .int x, a4] st h Q := gw_loc m121 f121_10 rfl rfl
theorem f121_11 : gm_ft 121 11 = some (.iconst 0, 1) := by decide +kernel
theorem r121_11 {E : Nat → Value} {d : Nat} {st : List Value} {h : gm_H} {Q : gm_R → gm_H → Prop} {lv : List Value} : gm_W E d 121 11 lv st h Q ↔ gm_W E d 121 12 lv (.int (0 : Int32) :: st) h Q := gw_pure m121 f121_11 rfl
theorem f121_12 : gm_ft 121 12 = some (.istore 4, 2) := by decide +kernel
theorem r121_12 {E : Nat → Value} {d : Nat} {st : List Value} {h : gm_H} {Q : gm_R → gm_H → Prop} {a0 a1 a2 a3 a4 : Value} {x : Int32} : gm_W E d 121 12 [a0, a1, a2, a3, a4] (.int x :: st) h Q ↔ gm_W E d 121 14 [a0, a1, a2, gm_k a3, .int x] st h Q := gw_loc m121 f121_12 rfl rfl
theorem f121_14 : gm_ft 121 14 = some (.iload 4, 2) := by decide +kernel
theorem r121_14 {E : Nat → Value} {d : Nat} {st : List Value} {h : gm_H} {Q : gm_R → gm_H → Prop} {a0 a1 a2 a3 : Value} {x : Int32} : gm_W E d 121 14 [a0, a1, a2, a3, .int x] st h Q ↔ gm_W E d 121 16 [a0, a1, a2, a3, .int x] (.int x :: st) h Q := gw_loc m121 f121_14 rfl rfl
theorem f121_16 : gm_ft 121 16 = some (.aload_n 2, 1) := by decide +kernel
theorem r121_16 {E : Nat → Value} {d : Nat} {st : List Value} {h : gm_H} {Q : gm_R → gm_H → Prop} {a0 a1 a3 a4 : Value} {x : Nat} : gm_W E d 121 16 [a0, a1, .ref x, a3, a4] st h Q ↔ gm_W E d 121 17 [a0, a1, .ref x, a3, a4] (.ref x :: st) h Q := gw_loc m121 f121_16 rfl rfl
theorem r121_16n {E : Nat → Value} {d : Nat} {st : List Value} {h : gm_H} {Q : gm_R → gm_H → Prop} {a0 a1 a3 a4 : Value}  : gm_W E d 121 16 [a0, a1, .null, a3, a4] st h Q ↔ gm_W E d 121 17 [a0, a1, .null, a3, a4] (.null :: st) h Q := gw_loc m121 f121_16 rfl rfl
theorem f121_17 : gm_ft 121 17 = some (.getfield 33, 3) := by decide +kernel
theorem r121_17 {E : Nat → Value} {d : Nat} {st : List Value} {h : gm_H} {Q : gm_R → gm_H → Prop} {lv : List Value} {a : Nat} (hk : gm_kd h a = 3) : gm_W E d 121 17 lv (.ref a :: st) h Q ↔ gm_W E d 121 20 lv (gm_fv h a 6 :: st) h Q := gw_rd m121 f121_17 rfl rfl rfl rfl (gs_get k3_33 hk (by decide))
theorem f121_20 : gm_ft 121 20 = some (.if_icmp .ge 36, 3) := by decide +kernel
theorem r121_20 {E : Nat → Value} {d : Nat} {st : List Value} {h : gm_H} {Q : gm_R → gm_H → Prop} {lv : List Value} {x y : Int32} : gm_W E d 121 20 lv (.int y :: .int x :: st) h Q ↔ (if y ≤ x then gm_W E d 121 56 lv st h Q else gm_W E d 121 23 lv st h Q) := (gw_br m121 f121_20 rfl rfl rfl rfl).trans gw_if
theorem f121_23 : gm_ft 121 23 = some (.iload_n 3, 1) := by decide +kernel
theorem r121_23 {E : Nat → Value} {d : Nat} {st : List Value} {h : gm_H} {Q : gm_R → gm_H → Prop} {a0 a1 a2 a4 : Value} {x : Int32} : gm_W E d 121 23 [a0, a1, a2, .int x, a4] st h Q ↔ gm_W E d 121 24 [a0, a1, a2, .int x, a4] (.int x :: st) h Q := gw_loc m121 f121_23 rfl rfl
theorem f121_24 : gm_ft 121 24 = some (.iload 4, 2) := by decide +kernel
theorem r121_24 {E : Nat → Value} {d : Nat} {st : List Value} {h : gm_H} {Q : gm_R → gm_H → Prop} {a0 a1 a2 a3 : Value} {x : Int32} : gm_W E d 121 24 [a0, a1, a2, a3, .int x] st h Q ↔ gm_W E d 121 26 [a0, a1, a2, a3, .int x] (.int x :: st) h Q := gw_loc m121 f121_24 rfl rfl
theorem f121_26 : gm_ft 121 26 = some (.iadd, 1) := by decide +kernel
theorem r121_26 {E : Nat → Value} {d : Nat} {st : List Value} {h : gm_H} {Q : gm_R → gm_H → Prop} {lv : List Value} {x y : Int32} : gm_W E d 121 26 lv (.int y :: .int x :: st) h Q ↔ gm_W E d 121 27 lv (.int (x + y) :: st) h Q := gw_pure m121 f121_26 rfl
theorem f121_27 : gm_ft 121 27 = some (.aload_n 1, 1) := by decide +kernel
theorem r121_27 {E : Nat → Value} {d : Nat} {st : List Value} {h : gm_H} {Q : gm_R → gm_H → Prop} {a0 a2 a3 a4 : Value} {x : Nat} : gm_W E d 121 27 [a0, .ref x, a2, a3, a4] st h Q ↔ gm_W E d 121 28 [a0, .ref x, a2, a3, a4] (.ref x :: st) h Q := gw_loc m121 f121_27 rfl rfl
theorem r121_27n {E : Nat → Value} {d : Nat} {st : List Value} {h : gm_H} {Q : gm_R → gm_H → Prop} {a0 a2 a3 a4 : Value}  : gm_W E d 121 27 [a0, .null, a2, a3, a4] st h Q ↔ gm_W E d 121 28 [a0, .null, a2, a3, a4] (.null :: st) h Q := gw_loc m121 f121_27 rfl rfl
theorem f121_28 : gm_ft 121 28 = some (.arraylength, 1) := by decide +kernel
theorem r121_28 {E : Nat → Value} {d : Nat} {st : List Value} {h : gm_H} {Q : gm_R → gm_H → Prop} {lv : List Value} {a : Nat} (hk : 100 ≤ gm_kd h a ∧ gm_kd h a < 900) : gm_W E d 121 28 lv (.ref a :: st) h Q ↔ gm_W E d 121 29 lv (.int (nI (gm_ln h a)) :: st) h Q := gw_rd m121 f121_28 rfl rfl rfl rfl (gs_len hk)
theorem f121_29 : gm_ft 121 29 = some (.if_icmp .ge 27, 3) := by decide +kernel
theorem r121_29 {E : Nat → Value} {d : Nat} {st : List Value} {h : gm_H} {Q : gm_R → gm_H → Prop} {lv : List Value} {x y : Int32} : gm_W E d 121 29 lv (.int y :: .int x :: st) h Q ↔ (if y ≤ x then gm_W E d 121 56 lv st h Q else gm_W E d 121 32 lv st h Q) := (gw_br m121 f121_29 rfl rfl rfl rfl).trans gw_if
theorem f121_32 : gm_ft 121 32 = some (.aload_n 1, 1) := by decide +kernel
theorem r121_32 {E : Nat → Value} {d : Nat} {st : List Value} {h : gm_H} {Q : gm_R → gm_H → Prop} {a0 a2 a3 a4 : Value} {x : Nat} : gm_W E d 121 32 [a0, .ref x, a2, a3, a4] st h Q ↔ gm_W E d 121 33 [a0, .ref x, a2, a3, a4] (.ref x :: st) h Q := gw_loc m121 f121_32 rfl rfl
theorem r121_32n {E : Nat → Value} {d : Nat} {st : List Value} {h : gm_H} {Q : gm_R → gm_H → Prop} {a0 a2 a3 a4 : Value}  : gm_W E d 121 32 [a0, .null, a2, a3, a4] st h Q ↔ gm_W E d 121 33 [a0, .null, a2, a3, a4] (.null :: st) h Q := gw_loc m121 f121_32 rfl rfl
theorem f121_33 : gm_ft 121 33 = some (.iload_n 3, 1) := by decide +kernel
theorem r121_33 {E : Nat → Value} {d : Nat} {st : List Value} {h : gm_H} {Q : gm_R → gm_H → Prop} {a0 a1 a2 a4 : Value} {x : Int32} : gm_W E d 121 33 [a0, a1, a2, .int x, a4] st h Q ↔ gm_W E d 121 34 [a0, a1, a2, .int x, a4] (.int x :: st) h Q := gw_loc m121 f121_33 rfl rfl
theorem f121_34 : gm_ft 121 34 = some (.iload 4, 2) := by decide +kernel
theorem r121_34 {E : Nat → Value} {d : Nat} {st : List Value} {h : gm_H} {Q : gm_R → gm_H → Prop} {a0 a1 a2 a3 : Value} {x : Int32} : gm_W E d 121 34 [a0, a1, a2, a3, .int x] st h Q ↔ gm_W E d 121 36 [a0, a1, a2, a3, .int x] (.int x :: st) h Q := gw_loc m121 f121_34 rfl rfl
theorem f121_36 : gm_ft 121 36 = some (.iadd, 1) := by decide +kernel
theorem r121_36 {E : Nat → Value} {d : Nat} {st : List Value} {h : gm_H} {Q : gm_R → gm_H → Prop} {lv : List Value} {x y : Int32} : gm_W E d 121 36 lv (.int y :: .int x :: st) h Q ↔ gm_W E d 121 37 lv (.int (x + y) :: st) h Q := gw_pure m121 f121_36 rfl
theorem f121_37 : gm_ft 121 37 = some (.aload_n 2, 1) := by decide +kernel
theorem r121_37 {E : Nat → Value} {d : Nat} {st : List Value} {h : gm_H} {Q : gm_R → gm_H → Prop} {a0 a1 a3 a4 : Value} {x : Nat} : gm_W E d 121 37 [a0, a1, .ref x, a3, a4] st h Q ↔ gm_W E d 121 38 [a0, a1, .ref x, a3, a4] (.ref x :: st) h Q := gw_loc m121 f121_37 rfl rfl
theorem r121_37n {E : Nat → Value} {d : Nat} {st : List Value} {h : gm_H} {Q : gm_R → gm_H → Prop} {a0 a1 a3 a4 : Value}  : gm_W E d 121 37 [a0, a1, .null, a3, a4] st h Q ↔ gm_W E d 121 38 [a0, a1, .null, a3, a4] (.null :: st) h Q := gw_loc m121 f121_37 rfl rfl
theorem f121_38 : gm_ft 121 38 = some (.aload_n 2, 1) := by decide +kernel
theorem r121_38 {E : Nat → Value} {d : Nat} {st : List Value} {h : gm_H} {Q : gm_R → gm_H → Prop} {a0 a1 a3 a4 : Value} {x : Nat} : gm_W E d 121 38 [a0, a1, .ref x, a3, a4] st h Q ↔ gm_W E d 121 39 [a0, a1, .ref x, a3, a4] (.ref x :: st) h Q := gw_loc m121 f121_38 rfl rfl
theorem r121_38n {E : Nat → Value} {d : Nat} {st : List Value} {h : gm_H} {Q : gm_R → gm_H → Prop} {a0 a1 a3 a4 : Value}  : gm_W E d 121 38 [a0, a1, .null, a3, a4] st h Q ↔ gm_W E d 121 39 [a0, a1, .null, a3, a4] (.null :: st) h Q := gw_loc m121 f121_38 rfl rfl
theorem f121_39 : gm_ft 121 39 = some (.getfield 15, 3) := by decide +kernel
theorem r121_39 {E : Nat → Value} {d : Nat} {st : List Value} {h : gm_H} {Q : gm_R → gm_H → Prop} {lv : List Value} {a : Nat} (hk : gm_kd h a = 3) : gm_W E d 121 39 lv (.ref a :: st) h Q ↔ gm_W E d 121 42 lv (gm_fv h a 5 :: st) h Q := gw_rd m121 f121_39 rfl rfl rfl rfl (gs_get k3_15 hk (by decide))
theorem f121_42 : gm_ft 121 42 = some (.iload 4, 2) := by decide +kernel
theorem r121_42 {E : Nat → Value} {d : Nat} {st : List Value} {h : gm_H} {Q : gm_R → gm_H → Prop} {a0 a1 a2 a3 : Value} {x : Int32} : gm_W E d 121 42 [a0, a1, a2, a3, .int x] st h Q ↔ gm_W E d 121 44 [a0, a1, a2, a3, .int x] (.int x :: st) h Q := gw_loc m121 f121_42 rfl rfl
theorem f121_44 : gm_ft 121 44 = some (.iaload, 1) := by decide +kernel
theorem r121_44 {E : Nat → Value} {d : Nat} {st : List Value} {h : gm_H} {Q : gm_R → gm_H → Prop} {lv : List Value} {a j : Nat} (hk : gm_kd h a % 100 = 0 ∧ 100 ≤ gm_kd h a ∧ gm_kd h a < 900) (hj : j < gm_ln h a) (hl : gm_ln h a < 2 ^ 31) : gm_W E d 121 44 lv (.int (nI j) :: .ref a :: st) h Q ↔ gm_W E d 121 45 lv (gm_fv h a j :: st) h Q := gw_rd m121 f121_44 rfl rfl rfl rfl (gs_ld (P := fun t => t == 0) hk.2 (by have := hk.1; simp [this] <;> omega) hj hl)
theorem f121_45 : gm_ft 121 45 = some (.invokevirtual 47, 3) := by decide +kernel
theorem c121_45 {E : Nat → Value} {d : Nat} {st : List Value} {h : gm_H} {Q : gm_R → gm_H → Prop} {lv : List Value} {b0 : Int32} {a : Nat} {Qc : gm_R → gm_H → Prop} (hs : (st.map fun v => v.category).sum ≤ 8) (hr : gm_kd h a = 3) (hd : 1 ≤ d) (hc : gm_Ca E (d - 1) 122 [.ref a, .int b0] h Qc) (kn : ∀ (v9 : Option Value) (h9 : gm_H), Qc (.inl v9) h9 → gm_W E d 121 48 lv (v9.toList ++ st) h9 Q) (kx : ∀ (x9 : Nat) (h9 : gm_H), Qc (.inr x9) h9 → Q (.inr x9) h9) : gm_W E d 121 45 lv (.int b0 :: .ref a :: st) h Q := gw_call (gn_call m121 f121_45 rfl rfl rfl rfl rfl rfl rfl (gs_virt (bs := [.int b0]) (w := 551) (L := 2) rfl rfl rfl rfl hs (by simp [gm_en1]) hr (by decide)) (by decide)) m121 rfl rfl hd hc kn kx
theorem f121_48 : gm_ft 121 48 = some (.i2l, 1) := by decide +kernel
theorem r121_48 {E : Nat → Value} {d : Nat} {st : List Value} {h : gm_H} {Q : gm_R → gm_H → Prop} {lv : List Value} {x : Int32} : gm_W E d 121 48 lv (.int x :: st) h Q ↔ gm_W E d 121 49 lv (.long (x.toInt64) :: st) h Q := gw_pure m121 f121_48 rfl
theorem f121_49 : gm_ft 121 49 = some (.lastore, 1) := by decide +kernel
theorem r121_49 {E : Nat → Value} {d : Nat} {st : List Value} {h : gm_H} {Q : gm_R → gm_H → Prop} {lv : List Value} {a j : Nat} {x : Int64} (hk : gm_kd h a = 101) (hj : j < gm_ln h a) (hl : gm_ln h a < 2 ^ 31) : gm_W E d 121 49 lv (.long x :: .int (nI j) :: .ref a :: st) h Q ↔ gm_W E d 121 50 lv st (gm_sf h a j (.long x)) Q := gw_wr m121 f121_49 rfl rfl rfl rfl rfl (gs_st hk (by decide) hj hl)
theorem f121_50 : gm_ft 121 50 = some (.iinc 4 1, 3) := by decide +kernel
theorem r121_50 {E : Nat → Value} {d : Nat} {st : List Value} {h : gm_H} {Q : gm_R → gm_H → Prop} {a0 a1 a2 a3 : Value} {x : Int32} : gm_W E d 121 50 [a0, a1, a2, a3, .int x] st h Q ↔ gm_W E d 121 53 [a0, a1, a2, gm_k a3, .int (x + (1 : Int32))] st h Q := gw_loc m121 f121_50 rfl rfl
theorem f121_53 : gm_ft 121 53 = some (.goto (-39), 3) := by decide +kernel
theorem r121_53 {E : Nat → Value} {d : Nat} {st : List Value} {h : gm_H} {Q : gm_R → gm_H → Prop} {lv : List Value} : gm_W E d 121 53 lv st h Q ↔ gm_W E d 121 14 lv st h Q := gw_brT m121 f121_53 rfl rfl rfl rfl
theorem f121_56 : gm_ft 121 56 = some (.aload_n 2, 1) := by decide +kernel
theorem r121_56 {E : Nat → Value} {d : Nat} {st : List Value} {h : gm_H} {Q : gm_R → gm_H → Prop} {a0 a1 a3 a4 : Value} {x : Nat} : gm_W E d 121 56 [a0, a1, .ref x, a3, a4] st h Q ↔ gm_W E d 121 57 [a0, a1, .ref x, a3, a4] (.ref x :: st) h Q := gw_loc m121 f121_56 rfl rfl
theorem r121_56n {E : Nat → Value} {d : Nat} {st : List Value} {h : gm_H} {Q : gm_R → gm_H → Prop} {a0 a1 a3 a4 : Value}  : gm_W E d 121 56 [a0, a1, .null, a3, a4] st h Q ↔ gm_W E d 121 57 [a0, a1, .null, a3, a4] (.null :: st) h Q := gw_loc m121 f121_56 rfl rfl
theorem f121_57 : gm_ft 121 57 = some (.getfield 25, 3) := by decide +kernel
theorem r121_57 {E : Nat → Value} {d : Nat} {st : List Value} {h : gm_H} {Q : gm_R → gm_H → Prop} {lv : List Value} {a : Nat} (hk : gm_kd h a = 3) : gm_W E d 121 57 lv (.ref a :: st) h Q ↔ gm_W E d 121 60 lv (gm_fv h a 2 :: st) h Q := gw_rd m121 f121_57 rfl rfl rfl rfl (gs_get k3_25 hk (by decide))
theorem f121_60 : gm_ft 121 60 = some (.astore_n 2, 1) := by decide +kernel
theorem r121_60 {E : Nat → Value} {d : Nat} {st : List Value} {h : gm_H} {Q : gm_R → gm_H → Prop} {a0 a1 a2 a3 a4 : Value} {x : Nat} : gm_W E d 121 60 [a0, a1, a2, a3, a4] (.ref x :: st) h Q ↔ gm_W E d 121 61 [a0, gm_k a1, .ref x, a3, a4] st h Q := gw_loc m121 f121_60 rfl rfl
theorem r121_60n {E : Nat → Value} {d : Nat} {st : List Value} {h : gm_H} {Q : gm_R → gm_H → Prop} {a0 a1 a2 a3 a4 : Value}  : gm_W E d 121 60 [a0, a1, a2, a3, a4] (.null :: st) h Q ↔ gm_W E d 121 61 [a0, gm_k a1, .null, a3, a4] st h Q := gw_loc m121 f121_60 rfl rfl
theorem f121_61 : gm_ft 121 61 = some (.goto (-59), 3) := by decide +kernel
theorem r121_61 {E : Nat → Value} {d : Nat} {st : List Value} {h : gm_H} {Q : gm_R → gm_H → Prop} {lv : List Value} : gm_W E d 121 61 lv st h Q ↔ gm_W E d 121 2 lv st h Q := gw_brT m121 f121_61 rfl rfl rfl rfl
theorem f121_64 : gm_ft 121 64 = some (.return_, 1) := by decide +kernel
theorem r121_64 {E : Nat → Value} {d : Nat} {h : gm_H} {Q : gm_R → gm_H → Prop} {lv : List Value} : gm_W E d 121 64 lv [] h Q ↔ Q (.inl none) h := gw_ret m121 f121_64 rfl rfl rfl rfl rfl rfl rfl rfl rfl
/-! GraphReader$LocalClass.valueAtFirst(I)I -/
theorem m122 : gm_mt[122]? = some (⟨"GraphReader$LocalClass", "valueAtFirst", "(I)I"⟩, prog_4_method_9_code, 2, (some .int), [], 3, 1) := rfl
theorem f122_0 : gm_ft 122 0 = some (.iload_n 1, 1) := by decide +kernel
theorem r122_0 {E : Nat → Value} {d : Nat} {st : List Value} {h : gm_H} {Q : gm_R → gm_H → Prop} {a0 : Value} {x : Int32} : gm_W E d 122 0 [a0, .int x] st h Q ↔ gm_W E d 122 1 [a0, .int x] (.int x :: st) h Q := gw_loc m122 f122_0 rfl rfl
theorem f122_1 : gm_ft 122 1 = some (.bipush 6, 2) := by decide +kernel
theorem r122_1 {E : Nat → Value} {d : Nat} {st : List Value} {h : gm_H} {Q : gm_R → gm_H → Prop} {lv : List Value} : gm_W E d 122 1 lv st h Q ↔ gm_W E d 122 3 lv (.int (6 : Int32) :: st) h Q := gw_pure m122 f122_1 rfl
theorem f122_3 : gm_ft 122 3 = some (.if_icmp .lt 6, 3) := by decide +kernel
theorem r122_3 {E : Nat → Value} {d : Nat} {st : List Value} {h : gm_H} {Q : gm_R → gm_H → Prop} {lv : List Value} {x y : Int32} : gm_W E d 122 3 lv (.int y :: .int x :: st) h Q ↔ (if x < y then gm_W E d 122 9 lv st h Q else gm_W E d 122 6 lv st h Q) := (gw_br m122 f122_3 rfl rfl rfl rfl).trans gw_if
theorem f122_6 : gm_ft 122 6 = some (.bipush (-2), 2) := by decide +kernel
theorem r122_6 {E : Nat → Value} {d : Nat} {st : List Value} {h : gm_H} {Q : gm_R → gm_H → Prop} {lv : List Value} : gm_W E d 122 6 lv st h Q ↔ gm_W E d 122 8 lv (.int (-2 : Int32) :: st) h Q := gw_pure m122 f122_6 rfl
theorem f122_8 : gm_ft 122 8 = some (.ireturn, 1) := by decide +kernel
theorem r122_8 {E : Nat → Value} {d : Nat} {h : gm_H} {Q : gm_R → gm_H → Prop} {lv : List Value} {x : Int32} : gm_W E d 122 8 lv [.int x] h Q ↔ Q (.inl (some (.int x))) h := gw_ret m122 f122_8 rfl rfl rfl rfl rfl rfl rfl rfl (by unfold gm_rt; dsimp only; rw [if_pos ⟨rfl, rfl⟩])
theorem f122_9 : gm_ft 122 9 = some (.aload_n 0, 1) := by decide +kernel
theorem r122_9 {E : Nat → Value} {d : Nat} {st : List Value} {h : gm_H} {Q : gm_R → gm_H → Prop} {a1 : Value} {x : Nat} : gm_W E d 122 9 [.ref x, a1] st h Q ↔ gm_W E d 122 10 [.ref x, a1] (.ref x :: st) h Q := gw_loc m122 f122_9 rfl rfl
theorem r122_9n {E : Nat → Value} {d : Nat} {st : List Value} {h : gm_H} {Q : gm_R → gm_H → Prop} {a1 : Value}  : gm_W E d 122 9 [.null, a1] st h Q ↔ gm_W E d 122 10 [.null, a1] (.null :: st) h Q := gw_loc m122 f122_9 rfl rfl
theorem f122_10 : gm_ft 122 10 = some (.getfield 22, 3) := by decide +kernel
theorem r122_10 {E : Nat → Value} {d : Nat} {st : List Value} {h : gm_H} {Q : gm_R → gm_H → Prop} {lv : List Value} {a : Nat} (hk : gm_kd h a = 3) : gm_W E d 122 10 lv (.ref a :: st) h Q ↔ gm_W E d 122 13 lv (gm_fv h a 1 :: st) h Q := gw_rd m122 f122_10 rfl rfl rfl rfl (gs_get k3_22 hk (by decide))
theorem f122_13 : gm_ft 122 13 = some (.ifCond .eq 5, 3) := by decide +kernel
theorem r122_13 {E : Nat → Value} {d : Nat} {st : List Value} {h : gm_H} {Q : gm_R → gm_H → Prop} {lv : List Value} {x : Int32} : gm_W E d 122 13 lv (.int x :: st) h Q ↔ (if x = 0 then gm_W E d 122 18 lv st h Q else gm_W E d 122 16 lv st h Q) := (gw_br m122 f122_13 rfl rfl rfl rfl).trans gw_if
theorem f122_16 : gm_ft 122 16 = some (.iconst 0, 1) := by decide +kernel
theorem r122_16 {E : Nat → Value} {d : Nat} {st : List Value} {h : gm_H} {Q : gm_R → gm_H → Prop} {lv : List Value} : gm_W E d 122 16 lv st h Q ↔ gm_W E d 122 17 lv (.int (0 : Int32) :: st) h Q := gw_pure m122 f122_16 rfl
theorem f122_17 : gm_ft 122 17 = some (.ireturn, 1) := by decide +kernel
theorem r122_17 {E : Nat → Value} {d : Nat} {h : gm_H} {Q : gm_R → gm_H → Prop} {lv : List Value} {x : Int32} : gm_W E d 122 17 lv [.int x] h Q ↔ Q (.inl (some (.int x))) h := gw_ret m122 f122_17 rfl rfl rfl rfl rfl rfl rfl rfl (by unfold gm_rt; dsimp only; rw [if_pos ⟨rfl, rfl⟩])
theorem f122_18 : gm_ft 122 18 = some (.iload_n 1, 1) := by decide +kernel
theorem r122_18 {E : Nat → Value} {d : Nat} {st : List Value} {h : gm_H} {Q : gm_R → gm_H → Prop} {a0 : Value} {x : Int32} : gm_W E d 122 18 [a0, .int x] st h Q ↔ gm_W E d 122 19 [a0, .int x] (.int x :: st) h Q := gw_loc m122 f122_18 rfl rfl
theorem f122_19 : gm_ft 122 19 = some (.iconst 5, 1) := by decide +kernel
theorem r122_19 {E : Nat → Value} {d : Nat} {st : List Value} {h : gm_H} {Q : gm_R → gm_H → Prop} {lv : List Value} : gm_W E d 122 19 lv st h Q ↔ gm_W E d 122 20 lv (.int (5 : Int32) :: st) h Q := gw_pure m122 f122_19 rfl
theorem f122_20 : gm_ft 122 20 = some (.if_icmp .ne 7, 3) := by decide +kernel
theorem r122_20 {E : Nat → Value} {d : Nat} {st : List Value} {h : gm_H} {Q : gm_R → gm_H → Prop} {lv : List Value} {x y : Int32} : gm_W E d 122 20 lv (.int y :: .int x :: st) h Q ↔ (if x = y then gm_W E d 122 23 lv st h Q else gm_W E d 122 27 lv st h Q) := (gw_br m122 f122_20 rfl rfl rfl rfl).trans gw_ifn
theorem f122_23 : gm_ft 122 23 = some (.iconst 1, 1) := by decide +kernel
theorem r122_23 {E : Nat → Value} {d : Nat} {st : List Value} {h : gm_H} {Q : gm_R → gm_H → Prop} {lv : List Value} : gm_W E d 122 23 lv st h Q ↔ gm_W E d 122 24 lv (.int (1 : Int32) :: st) h Q := gw_pure m122 f122_23 rfl
theorem f122_24 : gm_ft 122 24 = some (.goto 5, 3) := by decide +kernel
theorem r122_24 {E : Nat → Value} {d : Nat} {st : List Value} {h : gm_H} {Q : gm_R → gm_H → Prop} {lv : List Value} : gm_W E d 122 24 lv st h Q ↔ gm_W E d 122 29 lv st h Q := gw_brT m122 f122_24 rfl rfl rfl rfl
theorem f122_27 : gm_ft 122 27 = some (.bipush 7, 2) := by decide +kernel
theorem r122_27 {E : Nat → Value} {d : Nat} {st : List Value} {h : gm_H} {Q : gm_R → gm_H → Prop} {lv : List Value} : gm_W E d 122 27 lv st h Q ↔ gm_W E d 122 29 lv (.int (7 : Int32) :: st) h Q := gw_pure m122 f122_27 rfl
theorem f122_29 : gm_ft 122 29 = some (.ireturn, 1) := by decide +kernel
theorem r122_29 {E : Nat → Value} {d : Nat} {h : gm_H} {Q : gm_R → gm_H → Prop} {lv : List Value} {x : Int32} : gm_W E d 122 29 lv [.int x] h Q ↔ Q (.inl (some (.int x))) h := gw_ret m122 f122_29 rfl rfl rfl rfl rfl rfl rfl rfl (by unfold gm_rt; dsimp only; rw [if_pos ⟨rfl, rfl⟩])
/-! GraphReader$Thing.<init>(ILGraphReader$LocalClass;I)V -/
theorem m123 : gm_mt[123]? = some (⟨"GraphReader$Thing", "<init>", "(ILGraphReader$LocalClass;I)V"⟩, prog_5_method_1_code, 4, none, [], 4, 1) := rfl
theorem f123_0 : gm_ft 123 0 = some (.aload_n 0, 1) := by decide +kernel
theorem r123_0 {E : Nat → Value} {d : Nat} {st : List Value} {h : gm_H} {Q : gm_R → gm_H → Prop} {a1 a2 a3 : Value} {x : Nat} : gm_W E d 123 0 [.ref x, a1, a2, a3] st h Q ↔ gm_W E d 123 1 [.ref x, a1, a2, a3] (.ref x :: st) h Q := gw_loc m123 f123_0 rfl rfl
theorem r123_0n {E : Nat → Value} {d : Nat} {st : List Value} {h : gm_H} {Q : gm_R → gm_H → Prop} {a1 a2 a3 : Value}  : gm_W E d 123 0 [.null, a1, a2, a3] st h Q ↔ gm_W E d 123 1 [.null, a1, a2, a3] (.null :: st) h Q := gw_loc m123 f123_0 rfl rfl
theorem f123_1 : gm_ft 123 1 = some (.invokespecial 1, 3) := by decide +kernel
theorem r123_1 {E : Nat → Value} {d : Nat} {st : List Value} {h : gm_H} {Q : gm_R → gm_H → Prop} {lv : List Value} {a : Nat} (hs : (st.map fun v => v.category).sum ≤ 8) : gm_W E d 123 1 lv (.ref a :: st) h Q ↔ gm_W E d 123 4 lv st h Q := gw_oi m123 f123_1 rfl rfl rfl rfl rfl rfl rfl (gc_spec (w := 521) rfl hs (by decide))
theorem f123_4 : gm_ft 123 4 = some (.aload_n 0, 1) := by decide +kernel
theorem r123_4 {E : Nat → Value} {d : Nat} {st : List Value} {h : gm_H} {Q : gm_R → gm_H → Prop} {a1 a2 a3 : Value} {x : Nat} : gm_W E d 123 4 [.ref x, a1, a2, a3] st h Q ↔ gm_W E d 123 5 [.ref x, a1, a2, a3] (.ref x :: st) h Q := gw_loc m123 f123_4 rfl rfl
theorem r123_4n {E : Nat → Value} {d : Nat} {st : List Value} {h : gm_H} {Q : gm_R → gm_H → Prop} {a1 a2 a3 : Value}  : gm_W E d 123 4 [.null, a1, a2, a3] st h Q ↔ gm_W E d 123 5 [.null, a1, a2, a3] (.null :: st) h Q := gw_loc m123 f123_4 rfl rfl
theorem f123_5 : gm_ft 123 5 = some (.iload_n 1, 1) := by decide +kernel
theorem r123_5 {E : Nat → Value} {d : Nat} {st : List Value} {h : gm_H} {Q : gm_R → gm_H → Prop} {a0 a2 a3 : Value} {x : Int32} : gm_W E d 123 5 [a0, .int x, a2, a3] st h Q ↔ gm_W E d 123 6 [a0, .int x, a2, a3] (.int x :: st) h Q := gw_loc m123 f123_5 rfl rfl
theorem f123_6 : gm_ft 123 6 = some (.putfield 7, 3) := by decide +kernel
theorem r123_6 {E : Nat → Value} {d : Nat} {st : List Value} {h : gm_H} {Q : gm_R → gm_H → Prop} {lv : List Value} {a : Nat} {x : Int32} (hk : gm_kd h a = 4) : gm_W E d 123 6 lv (.int x :: .ref a :: st) h Q ↔ gm_W E d 123 9 lv st (gm_sf h a 0 (.int x)) Q := gw_wr m123 f123_6 rfl rfl rfl rfl rfl (gs_put k4_7 hk (by decide) (by decide) ⟨rfl, rfl⟩ (by decide))
theorem f123_9 : gm_ft 123 9 = some (.aload_n 0, 1) := by decide +kernel
theorem r123_9 {E : Nat → Value} {d : Nat} {st : List Value} {h : gm_H} {Q : gm_R → gm_H → Prop} {a1 a2 a3 : Value} {x : Nat} : gm_W E d 123 9 [.ref x, a1, a2, a3] st h Q ↔ gm_W E d 123 10 [.ref x, a1, a2, a3] (.ref x :: st) h Q := gw_loc m123 f123_9 rfl rfl
theorem r123_9n {E : Nat → Value} {d : Nat} {st : List Value} {h : gm_H} {Q : gm_R → gm_H → Prop} {a1 a2 a3 : Value}  : gm_W E d 123 9 [.null, a1, a2, a3] st h Q ↔ gm_W E d 123 10 [.null, a1, a2, a3] (.null :: st) h Q := gw_loc m123 f123_9 rfl rfl
theorem f123_10 : gm_ft 123 10 = some (.aload_n 2, 1) := by decide +kernel
theorem r123_10 {E : Nat → Value} {d : Nat} {st : List Value} {h : gm_H} {Q : gm_R → gm_H → Prop} {a0 a1 a3 : Value} {x : Nat} : gm_W E d 123 10 [a0, a1, .ref x, a3] st h Q ↔ gm_W E d 123 11 [a0, a1, .ref x, a3] (.ref x :: st) h Q := gw_loc m123 f123_10 rfl rfl
theorem r123_10n {E : Nat → Value} {d : Nat} {st : List Value} {h : gm_H} {Q : gm_R → gm_H → Prop} {a0 a1 a3 : Value}  : gm_W E d 123 10 [a0, a1, .null, a3] st h Q ↔ gm_W E d 123 11 [a0, a1, .null, a3] (.null :: st) h Q := gw_loc m123 f123_10 rfl rfl
theorem f123_11 : gm_ft 123 11 = some (.putfield 13, 3) := by decide +kernel
theorem r123_11 {E : Nat → Value} {d : Nat} {st : List Value} {h : gm_H} {Q : gm_R → gm_H → Prop} {lv : List Value} {a : Nat} {b : Nat} (hk : gm_kd h a = 4) : gm_W E d 123 11 lv (.ref b :: .ref a :: st) h Q ↔ gm_W E d 123 14 lv st (gm_sf h a 1 (.ref b)) Q := gw_wr m123 f123_11 rfl rfl rfl rfl rfl (gs_put k4_13 hk (by decide) (by decide) ⟨rfl, rfl⟩ (by decide))
theorem r123_11n {E : Nat → Value} {d : Nat} {st : List Value} {h : gm_H} {Q : gm_R → gm_H → Prop} {lv : List Value} {a : Nat} (hk : gm_kd h a = 4) : gm_W E d 123 11 lv (.null :: .ref a :: st) h Q ↔ gm_W E d 123 14 lv st (gm_sf h a 1 (.null)) Q := gw_wr m123 f123_11 rfl rfl rfl rfl rfl (gs_put k4_13 hk (by decide) (by decide) ⟨rfl, rfl⟩ (by decide))
theorem f123_14 : gm_ft 123 14 = some (.aload_n 0, 1) := by decide +kernel
theorem r123_14 {E : Nat → Value} {d : Nat} {st : List Value} {h : gm_H} {Q : gm_R → gm_H → Prop} {a1 a2 a3 : Value} {x : Nat} : gm_W E d 123 14 [.ref x, a1, a2, a3] st h Q ↔ gm_W E d 123 15 [.ref x, a1, a2, a3] (.ref x :: st) h Q := gw_loc m123 f123_14 rfl rfl
theorem r123_14n {E : Nat → Value} {d : Nat} {st : List Value} {h : gm_H} {Q : gm_R → gm_H → Prop} {a1 a2 a3 : Value}  : gm_W E d 123 14 [.null, a1, a2, a3] st h Q ↔ gm_W E d 123 15 [.null, a1, a2, a3] (.null :: st) h Q := gw_loc m123 f123_14 rfl rfl
theorem f123_15 : gm_ft 123 15 = some (.iload_n 3, 1) := by decide +kernel
theorem r123_15 {E : Nat → Value} {d : Nat} {st : List Value} {h : gm_H} {Q : gm_R → gm_H → Prop} {a0 a1 a2 : Value} {x : Int32} : gm_W E d 123 15 [a0, a1, a2, .int x] st h Q ↔ gm_W E d 123 16 [a0, a1, a2, .int x] (.int x :: st) h Q := gw_loc m123 f123_15 rfl rfl
theorem f123_16 : gm_ft 123 16 = some (.newarray .long, 2) := by decide +kernel
theorem r123_16 {E : Nat → Value} {d : Nat} {st : List Value} {h : gm_H} {Q : gm_R → gm_H → Prop} {lv : List Value} {n : Nat} (hn : n ≤ 60000000) : gm_W E d 123 16 lv (.int (nI n) :: st) h Q ↔ gm_W E d 123 18 lv (.ref h.1 :: st) (gm_nw h (101, List.replicate n (.long 0)) n) Q := gw_nw m123 f123_16 rfl rfl rfl rfl rfl rfl (gs_new (q := 1) rfl hn (by decide))
theorem f123_18 : gm_ft 123 18 = some (.putfield 17, 3) := by decide +kernel
theorem r123_18 {E : Nat → Value} {d : Nat} {st : List Value} {h : gm_H} {Q : gm_R → gm_H → Prop} {lv : List Value} {a : Nat} {b : Nat} (hk : gm_kd h a = 4) : gm_W E d 123 18 lv (.ref b :: .ref a :: st) h Q ↔ gm_W E d 123 21 lv st (gm_sf h a 2 (.ref b)) Q := gw_wr m123 f123_18 rfl rfl rfl rfl rfl (gs_put k4_17 hk (by decide) (by decide) ⟨rfl, rfl⟩ (by decide))
theorem r123_18n {E : Nat → Value} {d : Nat} {st : List Value} {h : gm_H} {Q : gm_R → gm_H → Prop} {lv : List Value} {a : Nat} (hk : gm_kd h a = 4) : gm_W E d 123 18 lv (.null :: .ref a :: st) h Q ↔ gm_W E d 123 21 lv st (gm_sf h a 2 (.null)) Q := gw_wr m123 f123_18 rfl rfl rfl rfl rfl (gs_put k4_17 hk (by decide) (by decide) ⟨rfl, rfl⟩ (by decide))
theorem f123_21 : gm_ft 123 21 = some (.return_, 1) := by decide +kernel
theorem r123_21 {E : Nat → Value} {d : Nat} {h : gm_H} {Q : gm_R → gm_H → Prop} {lv : List Value} : gm_W E d 123 21 lv [] h Q ↔ Q (.inl none) h := gw_ret m123 f123_21 rfl rfl rfl rfl rfl rfl rfl rfl rfl
