/-! GraphReader.<init>(IIII)V -/
theorem m51 : gm_mt[51]? = some (⟨"GraphReader", "<init>", "(IIII)V"⟩, prog_1_method_1_code, 5, none, [], 0, 1) := rfl
theorem f51_0 : gm_ft 51 0 = some (.aload_n 0, 1) := by decide +kernel
theorem r51_0 {E : Nat → Value} {d : Nat} {st : List Value} {h : gm_H} {Q : gm_R → gm_H → Prop} {a1 a2 a3 a4 : Value} {x : Nat} : gm_W E d 51 0 [.ref x, a1, a2, a3, a4] st h Q ↔ gm_W E d 51 1 [.ref x, a1, a2, a3, a4] (.ref x :: st) h Q := gw_loc m51 f51_0 rfl rfl
theorem r51_0n {E : Nat → Value} {d : Nat} {st : List Value} {h : gm_H} {Q : gm_R → gm_H → Prop} {a1 a2 a3 a4 : Value}  : gm_W E d 51 0 [.null, a1, a2, a3, a4] st h Q ↔ gm_W E d 51 1 [.null, a1, a2, a3, a4] (.null :: st) h Q := gw_loc m51 f51_0 rfl rfl
theorem f51_1 : gm_ft 51 1 = some (.invokespecial 3, 3) := by decide +kernel
theorem r51_1 {E : Nat → Value} {d : Nat} {st : List Value} {h : gm_H} {Q : gm_R → gm_H → Prop} {lv : List Value} {a : Nat} (hs : (st.map fun v => v.category).sum ≤ 8) : gm_W E d 51 1 lv (.ref a :: st) h Q ↔ gm_W E d 51 4 lv st h Q := gw_oi m51 f51_1 rfl rfl rfl rfl rfl rfl rfl (gc_spec (w := 22) rfl hs (by decide))
theorem f51_4 : gm_ft 51 4 = some (.aload_n 0, 1) := by decide +kernel
theorem r51_4 {E : Nat → Value} {d : Nat} {st : List Value} {h : gm_H} {Q : gm_R → gm_H → Prop} {a1 a2 a3 a4 : Value} {x : Nat} : gm_W E d 51 4 [.ref x, a1, a2, a3, a4] st h Q ↔ gm_W E d 51 5 [.ref x, a1, a2, a3, a4] (.ref x :: st) h Q := gw_loc m51 f51_4 rfl rfl
theorem r51_4n {E : Nat → Value} {d : Nat} {st : List Value} {h : gm_H} {Q : gm_R → gm_H → Prop} {a1 a2 a3 a4 : Value}  : gm_W E d 51 4 [.null, a1, a2, a3, a4] st h Q ↔ gm_W E d 51 5 [.null, a1, a2, a3, a4] (.null :: st) h Q := gw_loc m51 f51_4 rfl rfl
theorem f51_5 : gm_ft 51 5 = some (.bipush 6, 2) := by decide +kernel
theorem r51_5 {E : Nat → Value} {d : Nat} {st : List Value} {h : gm_H} {Q : gm_R → gm_H → Prop} {lv : List Value} : gm_W E d 51 5 lv st h Q ↔ gm_W E d 51 7 lv (.int (6 : Int32) :: st) h Q := gw_pure m51 f51_5 rfl
theorem f51_7 : gm_ft 51 7 = some (.anewarray 9, 3) := by decide +kernel
theorem r51_7 {E : Nat → Value} {d : Nat} {st : List Value} {h : gm_H} {Q : gm_R → gm_H → Prop} {lv : List Value} : gm_W E d 51 7 lv (.int (6 : Int32) :: st) h Q ↔ gm_W E d 51 10 lv (.ref h.1 :: st) (gm_nw h (110, List.replicate 6 (.null)) 6) Q := gw_nw m51 f51_7 rfl rfl rfl rfl rfl rfl rfl
theorem f51_10 : gm_ft 51 10 = some (.putfield 11, 3) := by decide +kernel
theorem r51_10 {E : Nat → Value} {d : Nat} {st : List Value} {h : gm_H} {Q : gm_R → gm_H → Prop} {lv : List Value} {a : Nat} {b : Nat} (hk : gm_kd h a = 0) : gm_W E d 51 10 lv (.ref b :: .ref a :: st) h Q ↔ gm_W E d 51 13 lv st (gm_sf h a 4 (.ref b)) Q := gw_wr m51 f51_10 rfl rfl rfl rfl rfl (gs_put k0_11 hk (by decide) (by decide) ⟨rfl, rfl⟩ (by decide))
theorem r51_10n {E : Nat → Value} {d : Nat} {st : List Value} {h : gm_H} {Q : gm_R → gm_H → Prop} {lv : List Value} {a : Nat} (hk : gm_kd h a = 0) : gm_W E d 51 10 lv (.null :: .ref a :: st) h Q ↔ gm_W E d 51 13 lv st (gm_sf h a 4 (.null)) Q := gw_wr m51 f51_10 rfl rfl rfl rfl rfl (gs_put k0_11 hk (by decide) (by decide) ⟨rfl, rfl⟩ (by decide))
theorem f51_13 : gm_ft 51 13 = some (.aload_n 0, 1) := by decide +kernel
theorem r51_13 {E : Nat → Value} {d : Nat} {st : List Value} {h : gm_H} {Q : gm_R → gm_H → Prop} {a1 a2 a3 a4 : Value} {x : Nat} : gm_W E d 51 13 [.ref x, a1, a2, a3, a4] st h Q ↔ gm_W E d 51 14 [.ref x, a1, a2, a3, a4] (.ref x :: st) h Q := gw_loc m51 f51_13 rfl rfl
theorem r51_13n {E : Nat → Value} {d : Nat} {st : List Value} {h : gm_H} {Q : gm_R → gm_H → Prop} {a1 a2 a3 a4 : Value}  : gm_W E d 51 13 [.null, a1, a2, a3, a4] st h Q ↔ gm_W E d 51 14 [.null, a1, a2, a3, a4] (.null :: st) h Q := gw_loc m51 f51_13 rfl rfl
theorem f51_14 : gm_ft 51 14 = some (.sipush 700, 3) := by decide +kernel
theorem r51_14 {E : Nat → Value} {d : Nat} {st : List Value} {h : gm_H} {Q : gm_R → gm_H → Prop} {lv : List Value} : gm_W E d 51 14 lv st h Q ↔ gm_W E d 51 17 lv (.int (700 : Int32) :: st) h Q := gw_pure m51 f51_14 rfl
theorem f51_17 : gm_ft 51 17 = some (.newarray .byte, 2) := by decide +kernel
theorem r51_17 {E : Nat → Value} {d : Nat} {st : List Value} {h : gm_H} {Q : gm_R → gm_H → Prop} {lv : List Value} : gm_W E d 51 17 lv (.int (700 : Int32) :: st) h Q ↔ gm_W E d 51 19 lv (.ref h.1 :: st) (gm_nw h (102, List.replicate 700 (.int 0)) 700) Q := gw_nw m51 f51_17 rfl rfl rfl rfl rfl rfl rfl
theorem f51_19 : gm_ft 51 19 = some (.putfield 15, 3) := by decide +kernel
theorem r51_19 {E : Nat → Value} {d : Nat} {st : List Value} {h : gm_H} {Q : gm_R → gm_H → Prop} {lv : List Value} {a : Nat} {b : Nat} (hk : gm_kd h a = 0) : gm_W E d 51 19 lv (.ref b :: .ref a :: st) h Q ↔ gm_W E d 51 22 lv st (gm_sf h a 5 (.ref b)) Q := gw_wr m51 f51_19 rfl rfl rfl rfl rfl (gs_put k0_15 hk (by decide) (by decide) ⟨rfl, rfl⟩ (by decide))
theorem r51_19n {E : Nat → Value} {d : Nat} {st : List Value} {h : gm_H} {Q : gm_R → gm_H → Prop} {lv : List Value} {a : Nat} (hk : gm_kd h a = 0) : gm_W E d 51 19 lv (.null :: .ref a :: st) h Q ↔ gm_W E d 51 22 lv st (gm_sf h a 5 (.null)) Q := gw_wr m51 f51_19 rfl rfl rfl rfl rfl (gs_put k0_15 hk (by decide) (by decide) ⟨rfl, rfl⟩ (by decide))
theorem f51_22 : gm_ft 51 22 = some (.aload_n 0, 1) := by decide +kernel
theorem r51_22 {E : Nat → Value} {d : Nat} {st : List Value} {h : gm_H} {Q : gm_R → gm_H → Prop} {a1 a2 a3 a4 : Value} {x : Nat} : gm_W E d 51 22 [.ref x, a1, a2, a3, a4] st h Q ↔ gm_W E d 51 23 [.ref x, a1, a2, a3, a4] (.ref x :: st) h Q := gw_loc m51 f51_22 rfl rfl
theorem r51_22n {E : Nat → Value} {d : Nat} {st : List Value} {h : gm_H} {Q : gm_R → gm_H → Prop} {a1 a2 a3 a4 : Value}  : gm_W E d 51 22 [.null, a1, a2, a3, a4] st h Q ↔ gm_W E d 51 23 [.null, a1, a2, a3, a4] (.null :: st) h Q := gw_loc m51 f51_22 rfl rfl
theorem f51_23 : gm_ft 51 23 = some (.sipush 234, 3) := by decide +kernel
theorem r51_23 {E : Nat → Value} {d : Nat} {st : List Value} {h : gm_H} {Q : gm_R → gm_H → Prop} {lv : List Value} : gm_W E d 51 23 lv st h Q ↔ gm_W E d 51 26 lv (.int (234 : Int32) :: st) h Q := gw_pure m51 f51_23 rfl
theorem f51_26 : gm_ft 51 26 = some (.anewarray 19, 3) := by decide +kernel
theorem r51_26 {E : Nat → Value} {d : Nat} {st : List Value} {h : gm_H} {Q : gm_R → gm_H → Prop} {lv : List Value} : gm_W E d 51 26 lv (.int (234 : Int32) :: st) h Q ↔ gm_W E d 51 29 lv (.ref h.1 :: st) (gm_nw h (111, List.replicate 234 (.null)) 234) Q := gw_nw m51 f51_26 rfl rfl rfl rfl rfl rfl rfl
theorem f51_29 : gm_ft 51 29 = some (.putfield 21, 3) := by decide +kernel
theorem r51_29 {E : Nat → Value} {d : Nat} {st : List Value} {h : gm_H} {Q : gm_R → gm_H → Prop} {lv : List Value} {a : Nat} {b : Nat} (hk : gm_kd h a = 0) : gm_W E d 51 29 lv (.ref b :: .ref a :: st) h Q ↔ gm_W E d 51 32 lv st (gm_sf h a 8 (.ref b)) Q := gw_wr m51 f51_29 rfl rfl rfl rfl rfl (gs_put k0_21 hk (by decide) (by decide) ⟨rfl, rfl⟩ (by decide))
theorem r51_29n {E : Nat → Value} {d : Nat} {st : List Value} {h : gm_H} {Q : gm_R → gm_H → Prop} {lv : List Value} {a : Nat} (hk : gm_kd h a = 0) : gm_W E d 51 29 lv (.null :: .ref a :: st) h Q ↔ gm_W E d 51 32 lv st (gm_sf h a 8 (.null)) Q := gw_wr m51 f51_29 rfl rfl rfl rfl rfl (gs_put k0_21 hk (by decide) (by decide) ⟨rfl, rfl⟩ (by decide))
theorem f51_32 : gm_ft 51 32 = some (.aload_n 0, 1) := by decide +kernel
theorem r51_32 {E : Nat → Value} {d : Nat} {st : List Value} {h : gm_H} {Q : gm_R → gm_H → Prop} {a1 a2 a3 a4 : Value} {x : Nat} : gm_W E d 51 32 [.ref x, a1, a2, a3, a4] st h Q ↔ gm_W E d 51 33 [.ref x, a1, a2, a3, a4] (.ref x :: st) h Q := gw_loc m51 f51_32 rfl rfl
theorem r51_32n {E : Nat → Value} {d : Nat} {st : List Value} {h : gm_H} {Q : gm_R → gm_H → Prop} {a1 a2 a3 a4 : Value}  : gm_W E d 51 32 [.null, a1, a2, a3, a4] st h Q ↔ gm_W E d 51 33 [.null, a1, a2, a3, a4] (.null :: st) h Q := gw_loc m51 f51_32 rfl rfl
theorem f51_33 : gm_ft 51 33 = some (.new 25, 3) := by decide +kernel
theorem r51_33 {E : Nat → Value} {d : Nat} {st : List Value} {h : gm_H} {Q : gm_R → gm_H → Prop} {lv : List Value} : gm_W E d 51 33 lv st h Q ↔ gm_W E d 51 36 lv (.ref h.1 :: st) (gm_nw h (2, [.null, .null, .int 0, .int 0]) 4) Q := gw_nw m51 f51_33 rfl rfl rfl rfl rfl rfl rfl
theorem f51_36 : gm_ft 51 36 = some (.dup, 1) := by decide +kernel
theorem r51_36 {E : Nat → Value} {d : Nat} {st : List Value} {h : gm_H} {Q : gm_R → gm_H → Prop} {lv : List Value} {a : Nat} : gm_W E d 51 36 lv (.ref a :: st) h Q ↔ gm_W E d 51 37 lv (.ref a :: .ref a :: st) h Q := gw_pure m51 f51_36 rfl
theorem r51_36i {E : Nat → Value} {d : Nat} {st : List Value} {h : gm_H} {Q : gm_R → gm_H → Prop} {lv : List Value} {x : Int32} : gm_W E d 51 36 lv (.int x :: st) h Q ↔ gm_W E d 51 37 lv (.int x :: .int x :: st) h Q := gw_pure m51 f51_36 rfl
theorem f51_37 : gm_ft 51 37 = some (.invokespecial 27, 3) := by decide +kernel
theorem c51_37 {E : Nat → Value} {d : Nat} {st : List Value} {h : gm_H} {Q : gm_R → gm_H → Prop} {lv : List Value} {a : Nat} {Qc : gm_R → gm_H → Prop} (hs : (st.map fun v => v.category).sum ≤ 8) (hd : 1 ≤ d) (hc : gm_Ca E (d - 1) 110 [.ref a] h Qc) (kn : ∀ (v9 : Option Value) (h9 : gm_H), Qc (.inl v9) h9 → gm_W E d 51 40 lv (v9.toList ++ st) h9 Q) (kx : ∀ (x9 : Nat) (h9 : gm_H), Qc (.inr x9) h9 → Q (.inr x9) h9) : gm_W E d 51 37 lv (.ref a :: st) h Q := gw_call (gn_call m51 f51_37 rfl rfl rfl rfl rfl rfl rfl (gc_init (bs := []) (w := 31) (L := 1) rfl rfl rfl hs (by simp [gm_en1]) (by decide)) (by decide)) m51 rfl rfl hd hc kn kx
theorem f51_40 : gm_ft 51 40 = some (.putfield 28, 3) := by decide +kernel
theorem r51_40 {E : Nat → Value} {d : Nat} {st : List Value} {h : gm_H} {Q : gm_R → gm_H → Prop} {lv : List Value} {a : Nat} {b : Nat} (hk : gm_kd h a = 0) : gm_W E d 51 40 lv (.ref b :: .ref a :: st) h Q ↔ gm_W E d 51 43 lv st (gm_sf h a 10 (.ref b)) Q := gw_wr m51 f51_40 rfl rfl rfl rfl rfl (gs_put k0_28 hk (by decide) (by decide) ⟨rfl, rfl⟩ (by decide))
theorem r51_40n {E : Nat → Value} {d : Nat} {st : List Value} {h : gm_H} {Q : gm_R → gm_H → Prop} {lv : List Value} {a : Nat} (hk : gm_kd h a = 0) : gm_W E d 51 40 lv (.null :: .ref a :: st) h Q ↔ gm_W E d 51 43 lv st (gm_sf h a 10 (.null)) Q := gw_wr m51 f51_40 rfl rfl rfl rfl rfl (gs_put k0_28 hk (by decide) (by decide) ⟨rfl, rfl⟩ (by decide))
theorem f51_43 : gm_ft 51 43 = some (.aload_n 0, 1) := by decide +kernel
theorem r51_43 {E : Nat → Value} {d : Nat} {st : List Value} {h : gm_H} {Q : gm_R → gm_H → Prop} {a1 a2 a3 a4 : Value} {x : Nat} : gm_W E d 51 43 [.ref x, a1, a2, a3, a4] st h Q ↔ gm_W E d 51 44 [.ref x, a1, a2, a3, a4] (.ref x :: st) h Q := gw_loc m51 f51_43 rfl rfl
theorem r51_43n {E : Nat → Value} {d : Nat} {st : List Value} {h : gm_H} {Q : gm_R → gm_H → Prop} {a1 a2 a3 a4 : Value}  : gm_W E d 51 43 [.null, a1, a2, a3, a4] st h Q ↔ gm_W E d 51 44 [.null, a1, a2, a3, a4] (.null :: st) h Q := gw_loc m51 f51_43 rfl rfl
theorem f51_44 : gm_ft 51 44 = some (.iconst 1, 1) := by decide +kernel
theorem r51_44 {E : Nat → Value} {d : Nat} {st : List Value} {h : gm_H} {Q : gm_R → gm_H → Prop} {lv : List Value} : gm_W E d 51 44 lv st h Q ↔ gm_W E d 51 45 lv (.int (1 : Int32) :: st) h Q := gw_pure m51 f51_44 rfl
theorem f51_45 : gm_ft 51 45 = some (.iload_n 1, 1) := by decide +kernel
theorem r51_45 {E : Nat → Value} {d : Nat} {st : List Value} {h : gm_H} {Q : gm_R → gm_H → Prop} {a0 a2 a3 a4 : Value} {x : Int32} : gm_W E d 51 45 [a0, .int x, a2, a3, a4] st h Q ↔ gm_W E d 51 46 [a0, .int x, a2, a3, a4] (.int x :: st) h Q := gw_loc m51 f51_45 rfl rfl
theorem f51_46 : gm_ft 51 46 = some (.bipush 8, 2) := by decide +kernel
theorem r51_46 {E : Nat → Value} {d : Nat} {st : List Value} {h : gm_H} {Q : gm_R → gm_H → Prop} {lv : List Value} : gm_W E d 51 46 lv st h Q ↔ gm_W E d 51 48 lv (.int (8 : Int32) :: st) h Q := gw_pure m51 f51_46 rfl
theorem f51_48 : gm_ft 51 48 = some (.invokestatic 32, 3) := by decide +kernel
theorem c51_48 {E : Nat → Value} {d : Nat} {st : List Value} {h : gm_H} {Q : gm_R → gm_H → Prop} {lv : List Value} {b0 : Int32} {b1 : Int32} {Qc : gm_R → gm_H → Prop} (hs : (st.map fun v => v.category).sum ≤ 8) (hd : 1 ≤ d) (hc : gm_Ca E (d - 1) 125 [.int b0, .int b1] h Qc) (kn : ∀ (v9 : Option Value) (h9 : gm_H), Qc (.inl v9) h9 → gm_W E d 51 51 lv (v9.toList ++ st) h9 Q) (kx : ∀ (x9 : Nat) (h9 : gm_H), Qc (.inr x9) h9 → Q (.inr x9) h9) : gm_W E d 51 48 lv (.int b1 :: .int b0 :: st) h Q := gw_call (gn_call m51 f51_48 rfl rfl rfl rfl rfl rfl rfl (gc_stat (bs := [.int b1, .int b0]) (w := 56) (L := 2) rfl rfl rfl hs (by simp [gm_en1])) (by decide)) m51 rfl rfl hd hc kn kx
theorem f51_51 : gm_ft 51 51 = some (.invokestatic 38, 3) := by decide +kernel
theorem c51_51 {E : Nat → Value} {d : Nat} {st : List Value} {h : gm_H} {Q : gm_R → gm_H → Prop} {lv : List Value} {b0 : Int32} {b1 : Int32} {Qc : gm_R → gm_H → Prop} (hs : (st.map fun v => v.category).sum ≤ 8) (hd : 1 ≤ d) (hc : gm_Ca E (d - 1) 124 [.int b0, .int b1] h Qc) (kn : ∀ (v9 : Option Value) (h9 : gm_H), Qc (.inl v9) h9 → gm_W E d 51 54 lv (v9.toList ++ st) h9 Q) (kx : ∀ (x9 : Nat) (h9 : gm_H), Qc (.inr x9) h9 → Q (.inr x9) h9) : gm_W E d 51 51 lv (.int b1 :: .int b0 :: st) h Q := gw_call (gn_call m51 f51_51 rfl rfl rfl rfl rfl rfl rfl (gc_stat (bs := [.int b1, .int b0]) (w := 59) (L := 2) rfl rfl rfl hs (by simp [gm_en1])) (by decide)) m51 rfl rfl hd hc kn kx
theorem f51_54 : gm_ft 51 54 = some (.putfield 41, 3) := by decide +kernel
theorem r51_54 {E : Nat → Value} {d : Nat} {st : List Value} {h : gm_H} {Q : gm_R → gm_H → Prop} {lv : List Value} {a : Nat} {x : Int32} (hk : gm_kd h a = 0) : gm_W E d 51 54 lv (.int x :: .ref a :: st) h Q ↔ gm_W E d 51 57 lv st (gm_sf h a 0 (.int x)) Q := gw_wr m51 f51_54 rfl rfl rfl rfl rfl (gs_put k0_41 hk (by decide) (by decide) ⟨rfl, rfl⟩ (by decide))
theorem f51_57 : gm_ft 51 57 = some (.aload_n 0, 1) := by decide +kernel
theorem r51_57 {E : Nat → Value} {d : Nat} {st : List Value} {h : gm_H} {Q : gm_R → gm_H → Prop} {a1 a2 a3 a4 : Value} {x : Nat} : gm_W E d 51 57 [.ref x, a1, a2, a3, a4] st h Q ↔ gm_W E d 51 58 [.ref x, a1, a2, a3, a4] (.ref x :: st) h Q := gw_loc m51 f51_57 rfl rfl
theorem r51_57n {E : Nat → Value} {d : Nat} {st : List Value} {h : gm_H} {Q : gm_R → gm_H → Prop} {a1 a2 a3 a4 : Value}  : gm_W E d 51 57 [.null, a1, a2, a3, a4] st h Q ↔ gm_W E d 51 58 [.null, a1, a2, a3, a4] (.null :: st) h Q := gw_loc m51 f51_57 rfl rfl
theorem f51_58 : gm_ft 51 58 = some (.iconst 1, 1) := by decide +kernel
theorem r51_58 {E : Nat → Value} {d : Nat} {st : List Value} {h : gm_H} {Q : gm_R → gm_H → Prop} {lv : List Value} : gm_W E d 51 58 lv st h Q ↔ gm_W E d 51 59 lv (.int (1 : Int32) :: st) h Q := gw_pure m51 f51_58 rfl
theorem f51_59 : gm_ft 51 59 = some (.iload_n 2, 1) := by decide +kernel
theorem r51_59 {E : Nat → Value} {d : Nat} {st : List Value} {h : gm_H} {Q : gm_R → gm_H → Prop} {a0 a1 a3 a4 : Value} {x : Int32} : gm_W E d 51 59 [a0, a1, .int x, a3, a4] st h Q ↔ gm_W E d 51 60 [a0, a1, .int x, a3, a4] (.int x :: st) h Q := gw_loc m51 f51_59 rfl rfl
theorem f51_60 : gm_ft 51 60 = some (.bipush 60, 2) := by decide +kernel
theorem r51_60 {E : Nat → Value} {d : Nat} {st : List Value} {h : gm_H} {Q : gm_R → gm_H → Prop} {lv : List Value} : gm_W E d 51 60 lv st h Q ↔ gm_W E d 51 62 lv (.int (60 : Int32) :: st) h Q := gw_pure m51 f51_60 rfl
theorem f51_62 : gm_ft 51 62 = some (.invokestatic 32, 3) := by decide +kernel
theorem c51_62 {E : Nat → Value} {d : Nat} {st : List Value} {h : gm_H} {Q : gm_R → gm_H → Prop} {lv : List Value} {b0 : Int32} {b1 : Int32} {Qc : gm_R → gm_H → Prop} (hs : (st.map fun v => v.category).sum ≤ 8) (hd : 1 ≤ d) (hc : gm_Ca E (d - 1) 125 [.int b0, .int b1] h Qc) (kn : ∀ (v9 : Option Value) (h9 : gm_H), Qc (.inl v9) h9 → gm_W E d 51 65 lv (v9.toList ++ st) h9 Q) (kx : ∀ (x9 : Nat) (h9 : gm_H), Qc (.inr x9) h9 → Q (.inr x9) h9) : gm_W E d 51 62 lv (.int b1 :: .int b0 :: st) h Q := gw_call (gn_call m51 f51_62 rfl rfl rfl rfl rfl rfl rfl (gc_stat (bs := [.int b1, .int b0]) (w := 56) (L := 2) rfl rfl rfl hs (by simp [gm_en1])) (by decide)) m51 rfl rfl hd hc kn kx
theorem f51_65 : gm_ft 51 65 = some (.invokestatic 38, 3) := by decide +kernel
theorem c51_65 {E : Nat → Value} {d : Nat} {st : List Value} {h : gm_H} {Q : gm_R → gm_H → Prop} {lv : List Value} {b0 : Int32} {b1 : Int32} {Qc : gm_R → gm_H → Prop} (hs : (st.map fun v => v.category).sum ≤ 8) (hd : 1 ≤ d) (hc : gm_Ca E (d - 1) 124 [.int b0, .int b1] h Qc) (kn : ∀ (v9 : Option Value) (h9 : gm_H), Qc (.inl v9) h9 → gm_W E d 51 68 lv (v9.toList ++ st) h9 Q) (kx : ∀ (x9 : Nat) (h9 : gm_H), Qc (.inr x9) h9 → Q (.inr x9) h9) : gm_W E d 51 65 lv (.int b1 :: .int b0 :: st) h Q := gw_call (gn_call m51 f51_65 rfl rfl rfl rfl rfl rfl rfl (gc_stat (bs := [.int b1, .int b0]) (w := 59) (L := 2) rfl rfl rfl hs (by simp [gm_en1])) (by decide)) m51 rfl rfl hd hc kn kx
theorem f51_68 : gm_ft 51 68 = some (.putfield 45, 3) := by decide +kernel
theorem r51_68 {E : Nat → Value} {d : Nat} {st : List Value} {h : gm_H} {Q : gm_R → gm_H → Prop} {lv : List Value} {a : Nat} {x : Int32} (hk : gm_kd h a = 0) : gm_W E d 51 68 lv (.int x :: .ref a :: st) h Q ↔ gm_W E d 51 71 lv st (gm_sf h a 1 (.int x)) Q := gw_wr m51 f51_68 rfl rfl rfl rfl rfl (gs_put k0_45 hk (by decide) (by decide) ⟨rfl, rfl⟩ (by decide))
theorem f51_71 : gm_ft 51 71 = some (.aload_n 0, 1) := by decide +kernel
theorem r51_71 {E : Nat → Value} {d : Nat} {st : List Value} {h : gm_H} {Q : gm_R → gm_H → Prop} {a1 a2 a3 a4 : Value} {x : Nat} : gm_W E d 51 71 [.ref x, a1, a2, a3, a4] st h Q ↔ gm_W E d 51 72 [.ref x, a1, a2, a3, a4] (.ref x :: st) h Q := gw_loc m51 f51_71 rfl rfl
theorem r51_71n {E : Nat → Value} {d : Nat} {st : List Value} {h : gm_H} {Q : gm_R → gm_H → Prop} {a1 a2 a3 a4 : Value}  : gm_W E d 51 71 [.null, a1, a2, a3, a4] st h Q ↔ gm_W E d 51 72 [.null, a1, a2, a3, a4] (.null :: st) h Q := gw_loc m51 f51_71 rfl rfl
theorem f51_72 : gm_ft 51 72 = some (.iconst 0, 1) := by decide +kernel
theorem r51_72 {E : Nat → Value} {d : Nat} {st : List Value} {h : gm_H} {Q : gm_R → gm_H → Prop} {lv : List Value} : gm_W E d 51 72 lv st h Q ↔ gm_W E d 51 73 lv (.int (0 : Int32) :: st) h Q := gw_pure m51 f51_72 rfl
theorem f51_73 : gm_ft 51 73 = some (.iload_n 3, 1) := by decide +kernel
theorem r51_73 {E : Nat → Value} {d : Nat} {st : List Value} {h : gm_H} {Q : gm_R → gm_H → Prop} {a0 a1 a2 a4 : Value} {x : Int32} : gm_W E d 51 73 [a0, a1, a2, .int x, a4] st h Q ↔ gm_W E d 51 74 [a0, a1, a2, .int x, a4] (.int x :: st) h Q := gw_loc m51 f51_73 rfl rfl
theorem f51_74 : gm_ft 51 74 = some (.bipush 20, 2) := by decide +kernel
theorem r51_74 {E : Nat → Value} {d : Nat} {st : List Value} {h : gm_H} {Q : gm_R → gm_H → Prop} {lv : List Value} : gm_W E d 51 74 lv st h Q ↔ gm_W E d 51 76 lv (.int (20 : Int32) :: st) h Q := gw_pure m51 f51_74 rfl
theorem f51_76 : gm_ft 51 76 = some (.invokestatic 32, 3) := by decide +kernel
theorem c51_76 {E : Nat → Value} {d : Nat} {st : List Value} {h : gm_H} {Q : gm_R → gm_H → Prop} {lv : List Value} {b0 : Int32} {b1 : Int32} {Qc : gm_R → gm_H → Prop} (hs : (st.map fun v => v.category).sum ≤ 8) (hd : 1 ≤ d) (hc : gm_Ca E (d - 1) 125 [.int b0, .int b1] h Qc) (kn : ∀ (v9 : Option Value) (h9 : gm_H), Qc (.inl v9) h9 → gm_W E d 51 79 lv (v9.toList ++ st) h9 Q) (kx : ∀ (x9 : Nat) (h9 : gm_H), Qc (.inr x9) h9 → Q (.inr x9) h9) : gm_W E d 51 76 lv (.int b1 :: .int b0 :: st) h Q := gw_call (gn_call m51 f51_76 rfl rfl rfl rfl rfl rfl rfl (gc_stat (bs := [.int b1, .int b0]) (w := 56) (L := 2) rfl rfl rfl hs (by simp [gm_en1])) (by decide)) m51 rfl rfl hd hc kn kx
theorem f51_79 : gm_ft 51 79 = some (.invokestatic 38, 3) := by decide +kernel
theorem c51_79 {E : Nat → Value} {d : Nat} {st : List Value} {h : gm_H} {Q : gm_R → gm_H → Prop} {lv : List Value} {b0 : Int32} {b1 : Int32} {Qc : gm_R → gm_H → Prop} (hs : (st.map fun v => v.category).sum ≤ 8) (hd : 1 ≤ d) (hc : gm_Ca E (d - 1) 124 [.int b0, .int b1] h Qc) (kn : ∀ (v9 : Option Value) (h9 : gm_H), Qc (.inl v9) h9 → gm_W E d 51 82 lv (v9.toList ++ st) h9 Q) (kx : ∀ (x9 : Nat) (h9 : gm_H), Qc (.inr x9) h9 → Q (.inr x9) h9) : gm_W E d 51 79 lv (.int b1 :: .int b0 :: st) h Q := gw_call (gn_call m51 f51_79 rfl rfl rfl rfl rfl rfl rfl (gc_stat (bs := [.int b1, .int b0]) (w := 59) (L := 2) rfl rfl rfl hs (by simp [gm_en1])) (by decide)) m51 rfl rfl hd hc kn kx
theorem f51_82 : gm_ft 51 82 = some (.putfield 48, 3) := by decide +kernel
theorem r51_82 {E : Nat → Value} {d : Nat} {st : List Value} {h : gm_H} {Q : gm_R → gm_H → Prop} {lv : List Value} {a : Nat} {x : Int32} (hk : gm_kd h a = 0) : gm_W E d 51 82 lv (.int x :: .ref a :: st) h Q ↔ gm_W E d 51 85 lv st (gm_sf h a 2 (.int x)) Q := gw_wr m51 f51_82 rfl rfl rfl rfl rfl (gs_put k0_48 hk (by decide) (by decide) ⟨rfl, rfl⟩ (by decide))
theorem f51_85 : gm_ft 51 85 = some (.aload_n 0, 1) := by decide +kernel
theorem r51_85 {E : Nat → Value} {d : Nat} {st : List Value} {h : gm_H} {Q : gm_R → gm_H → Prop} {a1 a2 a3 a4 : Value} {x : Nat} : gm_W E d 51 85 [.ref x, a1, a2, a3, a4] st h Q ↔ gm_W E d 51 86 [.ref x, a1, a2, a3, a4] (.ref x :: st) h Q := gw_loc m51 f51_85 rfl rfl
theorem r51_85n {E : Nat → Value} {d : Nat} {st : List Value} {h : gm_H} {Q : gm_R → gm_H → Prop} {a1 a2 a3 a4 : Value}  : gm_W E d 51 85 [.null, a1, a2, a3, a4] st h Q ↔ gm_W E d 51 86 [.null, a1, a2, a3, a4] (.null :: st) h Q := gw_loc m51 f51_85 rfl rfl
theorem f51_86 : gm_ft 51 86 = some (.iconst 4, 1) := by decide +kernel
theorem r51_86 {E : Nat → Value} {d : Nat} {st : List Value} {h : gm_H} {Q : gm_R → gm_H → Prop} {lv : List Value} : gm_W E d 51 86 lv st h Q ↔ gm_W E d 51 87 lv (.int (4 : Int32) :: st) h Q := gw_pure m51 f51_86 rfl
theorem f51_87 : gm_ft 51 87 = some (.iload 4, 2) := by decide +kernel
theorem r51_87 {E : Nat → Value} {d : Nat} {st : List Value} {h : gm_H} {Q : gm_R → gm_H → Prop} {a0 a1 a2 a3 : Value} {x : Int32} : gm_W E d 51 87 [a0, a1, a2, a3, .int x] st h Q ↔ gm_W E d 51 89 [a0, a1, a2, a3, .int x] (.int x :: st) h Q := gw_loc m51 f51_87 rfl rfl
theorem f51_89 : gm_ft 51 89 = some (.sipush 700, 3) := by decide +kernel
theorem r51_89 {E : Nat → Value} {d : Nat} {st : List Value} {h : gm_H} {Q : gm_R → gm_H → Prop} {lv : List Value} : gm_W E d 51 89 lv st h Q ↔ gm_W E d 51 92 lv (.int (700 : Int32) :: st) h Q := gw_pure m51 f51_89 rfl
theorem f51_92 : gm_ft 51 92 = some (.invokestatic 32, 3) := by decide +kernel
theorem c51_92 {E : Nat → Value} {d : Nat} {st : List Value} {h : gm_H} {Q : gm_R → gm_H → Prop} {lv : List Value} {b0 : Int32} {b1 : Int32} {Qc : gm_R → gm_H → Prop} (hs : (st.map fun v => v.category).sum ≤ 8) (hd : 1 ≤ d) (hc : gm_Ca E (d - 1) 125 [.int b0, .int b1] h Qc) (kn : ∀ (v9 : Option Value) (h9 : gm_H), Qc (.inl v9) h9 → gm_W E d 51 95 lv (v9.toList ++ st) h9 Q) (kx : ∀ (x9 : Nat) (h9 : gm_H), Qc (.inr x9) h9 → Q (.inr x9) h9) : gm_W E d 51 92 lv (.int b1 :: .int b0 :: st) h Q := gw_call (gn_call m51 f51_92 rfl rfl rfl rfl rfl rfl rfl (gc_stat (bs := [.int b1, .int b0]) (w := 56) (L := 2) rfl rfl rfl hs (by simp [gm_en1])) (by decide)) m51 rfl rfl hd hc kn kx
theorem f51_95 : gm_ft 51 95 = some (.invokestatic 38, 3) := by decide +kernel
theorem c51_95 {E : Nat → Value} {d : Nat} {st : List Value} {h : gm_H} {Q : gm_R → gm_H → Prop} {lv : List Value} {b0 : Int32} {b1 : Int32} {Qc : gm_R → gm_H → Prop} (hs : (st.map fun v => v.category).sum ≤ 8) (hd : 1 ≤ d) (hc : gm_Ca E (d - 1) 124 [.int b0, .int b1] h Qc) (kn : ∀ (v9 : Option Value) (h9 : gm_H), Qc (.inl v9) h9 → gm_W E d 51 98 lv (v9.toList ++ st) h9 Q) (kx : ∀ (x9 : Nat) (h9 : gm_H), Qc (.inr x9) h9 → Q (.inr x9) h9) : gm_W E d 51 95 lv (.int b1 :: .int b0 :: st) h Q := gw_call (gn_call m51 f51_95 rfl rfl rfl rfl rfl rfl rfl (gc_stat (bs := [.int b1, .int b0]) (w := 59) (L := 2) rfl rfl rfl hs (by simp [gm_en1])) (by decide)) m51 rfl rfl hd hc kn kx
theorem f51_98 : gm_ft 51 98 = some (.putfield 51, 3) := by decide +kernel
theorem r51_98 {E : Nat → Value} {d : Nat} {st : List Value} {h : gm_H} {Q : gm_R → gm_H → Prop} {lv : List Value} {a : Nat} {x : Int32} (hk : gm_kd h a = 0) : gm_W E d 51 98 lv (.int x :: .ref a :: st) h Q ↔ gm_W E d 51 101 lv st (gm_sf h a 3 (.int x)) Q := gw_wr m51 f51_98 rfl rfl rfl rfl rfl (gs_put k0_51 hk (by decide) (by decide) ⟨rfl, rfl⟩ (by decide))
theorem f51_101 : gm_ft 51 101 = some (.return_, 1) := by decide +kernel
theorem r51_101 {E : Nat → Value} {d : Nat} {h : gm_H} {Q : gm_R → gm_H → Prop} {lv : List Value} : gm_W E d 51 101 lv [] h Q ↔ Q (.inl none) h := gw_ret m51 f51_101 rfl rfl rfl rfl rfl rfl rfl rfl rfl
/-! GraphReader.define(IIIJ)I -/
theorem m52 : gm_mt[52]? = some (⟨"GraphReader", "define", "(IIIJ)I"⟩, prog_1_method_2_code, 7, (some .int), [], 0, 1) := rfl
theorem f52_0 : gm_ft 52 0 = some (.iload_n 1, 1) := by decide +kernel
theorem r52_0 {E : Nat → Value} {d : Nat} {st : List Value} {h : gm_H} {Q : gm_R → gm_H → Prop} {a0 a2 a3 a4 a5 a6 : Value} {x : Int32} : gm_W E d 52 0 [a0, .int x, a2, a3, a4, a5, a6] st h Q ↔ gm_W E d 52 1 [a0, .int x, a2, a3, a4, a5, a6] (.int x :: st) h Q := gw_loc m52 f52_0 rfl rfl
theorem f52_1 : gm_ft 52 1 = some (.ifCond .lt 18, 3) := by decide +kernel
theorem r52_1 {E : Nat → Value} {d : Nat} {st : List Value} {h : gm_H} {Q : gm_R → gm_H → Prop} {lv : List Value} {x : Int32} : gm_W E d 52 1 lv (.int x :: st) h Q ↔ (if x < 0 then gm_W E d 52 19 lv st h Q else gm_W E d 52 4 lv st h Q) := (gw_br m52 f52_1 rfl rfl rfl rfl).trans gw_if
theorem f52_4 : gm_ft 52 4 = some (.iload_n 1, 1) := by decide +kernel
theorem r52_4 {E : Nat → Value} {d : Nat} {st : List Value} {h : gm_H} {Q : gm_R → gm_H → Prop} {a0 a2 a3 a4 a5 a6 : Value} {x : Int32} : gm_W E d 52 4 [a0, .int x, a2, a3, a4, a5, a6] st h Q ↔ gm_W E d 52 5 [a0, .int x, a2, a3, a4, a5, a6] (.int x :: st) h Q := gw_loc m52 f52_4 rfl rfl
theorem f52_5 : gm_ft 52 5 = some (.bipush 6, 2) := by decide +kernel
theorem r52_5 {E : Nat → Value} {d : Nat} {st : List Value} {h : gm_H} {Q : gm_R → gm_H → Prop} {lv : List Value} : gm_W E d 52 5 lv st h Q ↔ gm_W E d 52 7 lv (.int (6 : Int32) :: st) h Q := gw_pure m52 f52_5 rfl
theorem f52_7 : gm_ft 52 7 = some (.if_icmp .ge 12, 3) := by decide +kernel
theorem r52_7 {E : Nat → Value} {d : Nat} {st : List Value} {h : gm_H} {Q : gm_R → gm_H → Prop} {lv : List Value} {x y : Int32} : gm_W E d 52 7 lv (.int y :: .int x :: st) h Q ↔ (if y ≤ x then gm_W E d 52 19 lv st h Q else gm_W E d 52 10 lv st h Q) := (gw_br m52 f52_7 rfl rfl rfl rfl).trans gw_if
theorem f52_10 : gm_ft 52 10 = some (.iload_n 2, 1) := by decide +kernel
theorem r52_10 {E : Nat → Value} {d : Nat} {st : List Value} {h : gm_H} {Q : gm_R → gm_H → Prop} {a0 a1 a3 a4 a5 a6 : Value} {x : Int32} : gm_W E d 52 10 [a0, a1, .int x, a3, a4, a5, a6] st h Q ↔ gm_W E d 52 11 [a0, a1, .int x, a3, a4, a5, a6] (.int x :: st) h Q := gw_loc m52 f52_10 rfl rfl
theorem f52_11 : gm_ft 52 11 = some (.ifCond .lt 8, 3) := by decide +kernel
theorem r52_11 {E : Nat → Value} {d : Nat} {st : List Value} {h : gm_H} {Q : gm_R → gm_H → Prop} {lv : List Value} {x : Int32} : gm_W E d 52 11 lv (.int x :: st) h Q ↔ (if x < 0 then gm_W E d 52 19 lv st h Q else gm_W E d 52 14 lv st h Q) := (gw_br m52 f52_11 rfl rfl rfl rfl).trans gw_if
theorem f52_14 : gm_ft 52 14 = some (.iload_n 2, 1) := by decide +kernel
theorem r52_14 {E : Nat → Value} {d : Nat} {st : List Value} {h : gm_H} {Q : gm_R → gm_H → Prop} {a0 a1 a3 a4 a5 a6 : Value} {x : Int32} : gm_W E d 52 14 [a0, a1, .int x, a3, a4, a5, a6] st h Q ↔ gm_W E d 52 15 [a0, a1, .int x, a3, a4, a5, a6] (.int x :: st) h Q := gw_loc m52 f52_14 rfl rfl
theorem f52_15 : gm_ft 52 15 = some (.iconst 4, 1) := by decide +kernel
theorem r52_15 {E : Nat → Value} {d : Nat} {st : List Value} {h : gm_H} {Q : gm_R → gm_H → Prop} {lv : List Value} : gm_W E d 52 15 lv st h Q ↔ gm_W E d 52 16 lv (.int (4 : Int32) :: st) h Q := gw_pure m52 f52_15 rfl
theorem f52_16 : gm_ft 52 16 = some (.if_icmp .le 5, 3) := by decide +kernel
theorem r52_16 {E : Nat → Value} {d : Nat} {st : List Value} {h : gm_H} {Q : gm_R → gm_H → Prop} {lv : List Value} {x y : Int32} : gm_W E d 52 16 lv (.int y :: .int x :: st) h Q ↔ (if x ≤ y then gm_W E d 52 21 lv st h Q else gm_W E d 52 19 lv st h Q) := (gw_br m52 f52_16 rfl rfl rfl rfl).trans gw_if
theorem f52_19 : gm_ft 52 19 = some (.iconst (-1), 1) := by decide +kernel
theorem r52_19 {E : Nat → Value} {d : Nat} {st : List Value} {h : gm_H} {Q : gm_R → gm_H → Prop} {lv : List Value} : gm_W E d 52 19 lv st h Q ↔ gm_W E d 52 20 lv (.int (-1 : Int32) :: st) h Q := gw_pure m52 f52_19 rfl
theorem f52_20 : gm_ft 52 20 = some (.ireturn, 1) := by decide +kernel
theorem r52_20 {E : Nat → Value} {d : Nat} {h : gm_H} {Q : gm_R → gm_H → Prop} {lv : List Value} {x : Int32} : gm_W E d 52 20 lv [.int x] h Q ↔ Q (.inl (some (.int x))) h := gw_ret m52 f52_20 rfl rfl rfl rfl rfl rfl rfl rfl (by unfold gm_rt; dsimp only; rw [if_pos ⟨rfl, rfl⟩])
theorem f52_21 : gm_ft 52 21 = some (.iload_n 3, 1) := by decide +kernel
theorem r52_21 {E : Nat → Value} {d : Nat} {st : List Value} {h : gm_H} {Q : gm_R → gm_H → Prop} {a0 a1 a2 a4 a5 a6 : Value} {x : Int32} : gm_W E d 52 21 [a0, a1, a2, .int x, a4, a5, a6] st h Q ↔ gm_W E d 52 22 [a0, a1, a2, .int x, a4, a5, a6] (.int x :: st) h Q := gw_loc m52 f52_21 rfl rfl
theorem f52_22 : gm_ft 52 22 = some (.iconst (-1), 1) := by decide +kernel
theorem r52_22 {E : Nat → Value} {d : Nat} {st : List Value} {h : gm_H} {Q : gm_R → gm_H → Prop} {lv : List Value} : gm_W E d 52 22 lv st h Q ↔ gm_W E d 52 23 lv (.int (-1 : Int32) :: st) h Q := gw_pure m52 f52_22 rfl
theorem f52_23 : gm_ft 52 23 = some (.if_icmp .lt 17, 3) := by decide +kernel
theorem r52_23 {E : Nat → Value} {d : Nat} {st : List Value} {h : gm_H} {Q : gm_R → gm_H → Prop} {lv : List Value} {x y : Int32} : gm_W E d 52 23 lv (.int y :: .int x :: st) h Q ↔ (if x < y then gm_W E d 52 40 lv st h Q else gm_W E d 52 26 lv st h Q) := (gw_br m52 f52_23 rfl rfl rfl rfl).trans gw_if
theorem f52_26 : gm_ft 52 26 = some (.iload_n 3, 1) := by decide +kernel
theorem r52_26 {E : Nat → Value} {d : Nat} {st : List Value} {h : gm_H} {Q : gm_R → gm_H → Prop} {a0 a1 a2 a4 a5 a6 : Value} {x : Int32} : gm_W E d 52 26 [a0, a1, a2, .int x, a4, a5, a6] st h Q ↔ gm_W E d 52 27 [a0, a1, a2, .int x, a4, a5, a6] (.int x :: st) h Q := gw_loc m52 f52_26 rfl rfl
theorem f52_27 : gm_ft 52 27 = some (.iload_n 1, 1) := by decide +kernel
theorem r52_27 {E : Nat → Value} {d : Nat} {st : List Value} {h : gm_H} {Q : gm_R → gm_H → Prop} {a0 a2 a3 a4 a5 a6 : Value} {x : Int32} : gm_W E d 52 27 [a0, .int x, a2, a3, a4, a5, a6] st h Q ↔ gm_W E d 52 28 [a0, .int x, a2, a3, a4, a5, a6] (.int x :: st) h Q := gw_loc m52 f52_27 rfl rfl
theorem f52_28 : gm_ft 52 28 = some (.if_icmp .ge 12, 3) := by decide +kernel
theorem r52_28 {E : Nat → Value} {d : Nat} {st : List Value} {h : gm_H} {Q : gm_R → gm_H → Prop} {lv : List Value} {x y : Int32} : gm_W E d 52 28 lv (.int y :: .int x :: st) h Q ↔ (if y ≤ x then gm_W E d 52 40 lv st h Q else gm_W E d 52 31 lv st h Q) := (gw_br m52 f52_28 rfl rfl rfl rfl).trans gw_if
theorem f52_31 : gm_ft 52 31 = some (.aload_n 0, 1) := by decide +kernel
theorem r52_31 {E : Nat → Value} {d : Nat} {st : List Value} {h : gm_H} {Q : gm_R → gm_H → Prop} {a1 a2 a3 a4 a5 a6 : Value} {x : Nat} : gm_W E d 52 31 [.ref x, a1, a2, a3, a4, a5, a6] st h Q ↔ gm_W E d 52 32 [.ref x, a1, a2, a3, a4, a5, a6] (.ref x :: st) h Q := gw_loc m52 f52_31 rfl rfl
theorem r52_31n {E : Nat → Value} {d : Nat} {st : List Value} {h : gm_H} {Q : gm_R → gm_H → Prop} {a1 a2 a3 a4 a5 a6 : Value}  : gm_W E d 52 31 [.null, a1, a2, a3, a4, a5, a6] st h Q ↔ gm_W E d 52 32 [.null, a1, a2, a3, a4, a5, a6] (.null :: st) h Q := gw_loc m52 f52_31 rfl rfl
theorem f52_32 : gm_ft 52 32 = some (.getfield 11, 3) := by decide +kernel
theorem r52_32 {E : Nat → Value} {d : Nat} {st : List Value} {h : gm_H} {Q : gm_R → gm_H → Prop} {lv : List Value} {a : Nat} (hk : gm_kd h a = 0) : gm_W E d 52 32 lv (.ref a :: st) h Q ↔ gm_W E d 52 35 lv (gm_fv h a 4 :: st) h Q := gw_rd m52 f52_32 rfl rfl rfl rfl (gs_get k0_11 hk (by decide))
theorem f52_35 : gm_ft 52 35 = some (.iload_n 1, 1) := by decide +kernel
theorem r52_35 {E : Nat → Value} {d : Nat} {st : List Value} {h : gm_H} {Q : gm_R → gm_H → Prop} {a0 a2 a3 a4 a5 a6 : Value} {x : Int32} : gm_W E d 52 35 [a0, .int x, a2, a3, a4, a5, a6] st h Q ↔ gm_W E d 52 36 [a0, .int x, a2, a3, a4, a5, a6] (.int x :: st) h Q := gw_loc m52 f52_35 rfl rfl
theorem f52_36 : gm_ft 52 36 = some (.aaload, 1) := by decide +kernel
theorem r52_36 {E : Nat → Value} {d : Nat} {st : List Value} {h : gm_H} {Q : gm_R → gm_H → Prop} {lv : List Value} {a j : Nat} (hk : (gm_kd h a % 100 = 10 ∨ gm_kd h a % 100 = 11 ∨ gm_kd h a % 100 = 12) ∧ 100 ≤ gm_kd h a ∧ gm_kd h a < 900) (hj : j < gm_ln h a) (hl : gm_ln h a < 2 ^ 31) : gm_W E d 52 36 lv (.int (nI j) :: .ref a :: st) h Q ↔ gm_W E d 52 37 lv (gm_fv h a j :: st) h Q := gw_rd m52 f52_36 rfl rfl rfl rfl (gs_ld (P := fun t => t == 10 || t == 11 || t == 12) hk.2 (by have := hk.1; simp [this] <;> omega) hj hl)
theorem f52_37 : gm_ft 52 37 = some (.ifnull 5, 3) := by decide +kernel
theorem r52_37n {E : Nat → Value} {d : Nat} {st : List Value} {h : gm_H} {Q : gm_R → gm_H → Prop} {lv : List Value} : gm_W E d 52 37 lv (.null :: st) h Q ↔ gm_W E d 52 42 lv st h Q := gw_brT m52 f52_37 rfl rfl rfl rfl
theorem r52_37 {E : Nat → Value} {d : Nat} {st : List Value} {h : gm_H} {Q : gm_R → gm_H → Prop} {lv : List Value} {a : Nat} : gm_W E d 52 37 lv (.ref a :: st) h Q ↔ gm_W E d 52 40 lv st h Q := gw_brF m52 f52_37 rfl rfl rfl rfl
theorem f52_40 : gm_ft 52 40 = some (.iconst (-1), 1) := by decide +kernel
theorem r52_40 {E : Nat → Value} {d : Nat} {st : List Value} {h : gm_H} {Q : gm_R → gm_H → Prop} {lv : List Value} : gm_W E d 52 40 lv st h Q ↔ gm_W E d 52 41 lv (.int (-1 : Int32) :: st) h Q := gw_pure m52 f52_40 rfl
theorem f52_41 : gm_ft 52 41 = some (.ireturn, 1) := by decide +kernel
theorem r52_41 {E : Nat → Value} {d : Nat} {h : gm_H} {Q : gm_R → gm_H → Prop} {lv : List Value} {x : Int32} : gm_W E d 52 41 lv [.int x] h Q ↔ Q (.inl (some (.int x))) h := gw_ret m52 f52_41 rfl rfl rfl rfl rfl rfl rfl rfl (by unfold gm_rt; dsimp only; rw [if_pos ⟨rfl, rfl⟩])
theorem f52_42 : gm_ft 52 42 = some (.aconst_null, 1) := by decide +kernel
theorem r52_42 {E : Nat → Value} {d : Nat} {st : List Value} {h : gm_H} {Q : gm_R → gm_H → Prop} {lv : List Value} : gm_W E d 52 42 lv st h Q ↔ gm_W E d 52 43 lv (.null :: st) h Q := gw_pure m52 f52_42 rfl
theorem f52_43 : gm_ft 52 43 = some (.astore 6, 2) := by decide +kernel
theorem r52_43 {E : Nat → Value} {d : Nat} {st : List Value} {h : gm_H} {Q : gm_R → gm_H → Prop} {a0 a1 a2 a3 a4 a5 a6 : Value} {x : Nat} : gm_W E d 52 43 [a0, a1, a2, a3, a4, a5, a6] (.ref x :: st) h Q ↔ gm_W E d 52 45 [a0, a1, a2, a3, a4, gm_k a5, .ref x] st h Q := gw_loc m52 f52_43 rfl rfl
theorem r52_43n {E : Nat → Value} {d : Nat} {st : List Value} {h : gm_H} {Q : gm_R → gm_H → Prop} {a0 a1 a2 a3 a4 a5 a6 : Value}  : gm_W E d 52 43 [a0, a1, a2, a3, a4, a5, a6] (.null :: st) h Q ↔ gm_W E d 52 45 [a0, a1, a2, a3, a4, gm_k a5, .null] st h Q := gw_loc m52 f52_43 rfl rfl
theorem f52_45 : gm_ft 52 45 = some (.iload_n 3, 1) := by decide +kernel
theorem r52_45 {E : Nat → Value} {d : Nat} {st : List Value} {h : gm_H} {Q : gm_R → gm_H → Prop} {a0 a1 a2 a4 a5 a6 : Value} {x : Int32} : gm_W E d 52 45 [a0, a1, a2, .int x, a4, a5, a6] st h Q ↔ gm_W E d 52 46 [a0, a1, a2, .int x, a4, a5, a6] (.int x :: st) h Q := gw_loc m52 f52_45 rfl rfl
theorem f52_46 : gm_ft 52 46 = some (.ifCond .lt 30, 3) := by decide +kernel
theorem r52_46 {E : Nat → Value} {d : Nat} {st : List Value} {h : gm_H} {Q : gm_R → gm_H → Prop} {lv : List Value} {x : Int32} : gm_W E d 52 46 lv (.int x :: st) h Q ↔ (if x < 0 then gm_W E d 52 76 lv st h Q else gm_W E d 52 49 lv st h Q) := (gw_br m52 f52_46 rfl rfl rfl rfl).trans gw_if
theorem f52_49 : gm_ft 52 49 = some (.aload_n 0, 1) := by decide +kernel
theorem r52_49 {E : Nat → Value} {d : Nat} {st : List Value} {h : gm_H} {Q : gm_R → gm_H → Prop} {a1 a2 a3 a4 a5 a6 : Value} {x : Nat} : gm_W E d 52 49 [.ref x, a1, a2, a3, a4, a5, a6] st h Q ↔ gm_W E d 52 50 [.ref x, a1, a2, a3, a4, a5, a6] (.ref x :: st) h Q := gw_loc m52 f52_49 rfl rfl
theorem r52_49n {E : Nat → Value} {d : Nat} {st : List Value} {h : gm_H} {Q : gm_R → gm_H → Prop} {a1 a2 a3 a4 a5 a6 : Value}  : gm_W E d 52 49 [.null, a1, a2, a3, a4, a5, a6] st h Q ↔ gm_W E d 52 50 [.null, a1, a2, a3, a4, a5, a6] (.null :: st) h Q := gw_loc m52 f52_49 rfl rfl
theorem f52_50 : gm_ft 52 50 = some (.getfield 11, 3) := by decide +kernel
theorem r52_50 {E : Nat → Value} {d : Nat} {st : List Value} {h : gm_H} {Q : gm_R → gm_H → Prop} {lv : List Value} {a : Nat} (hk : gm_kd h a = 0) : gm_W E d 52 50 lv (.ref a :: st) h Q ↔ gm_W E d 52 53 lv (gm_fv h a 4 :: st) h Q := gw_rd m52 f52_50 rfl rfl rfl rfl (gs_get k0_11 hk (by decide))
theorem f52_53 : gm_ft 52 53 = some (.iload_n 3, 1) := by decide +kernel
theorem r52_53 {E : Nat → Value} {d : Nat} {st : List Value} {h : gm_H} {Q : gm_R → gm_H → Prop} {a0 a1 a2 a4 a5 a6 : Value} {x : Int32} : gm_W E d 52 53 [a0, a1, a2, .int x, a4, a5, a6] st h Q ↔ gm_W E d 52 54 [a0, a1, a2, .int x, a4, a5, a6] (.int x :: st) h Q := gw_loc m52 f52_53 rfl rfl
theorem f52_54 : gm_ft 52 54 = some (.aaload, 1) := by decide +kernel
theorem r52_54 {E : Nat → Value} {d : Nat} {st : List Value} {h : gm_H} {Q : gm_R → gm_H → Prop} {lv : List Value} {a j : Nat} (hk : (gm_kd h a % 100 = 10 ∨ gm_kd h a % 100 = 11 ∨ gm_kd h a % 100 = 12) ∧ 100 ≤ gm_kd h a ∧ gm_kd h a < 900) (hj : j < gm_ln h a) (hl : gm_ln h a < 2 ^ 31) : gm_W E d 52 54 lv (.int (nI j) :: .ref a :: st) h Q ↔ gm_W E d 52 55 lv (gm_fv h a j :: st) h Q := gw_rd m52 f52_54 rfl rfl rfl rfl (gs_ld (P := fun t => t == 10 || t == 11 || t == 12) hk.2 (by have := hk.1; simp [this] <;> omega) hj hl)
theorem f52_55 : gm_ft 52 55 = some (.astore 6, 2) := by decide +kernel
theorem r52_55 {E : Nat → Value} {d : Nat} {st : List Value} {h : gm_H} {Q : gm_R → gm_H → Prop} {a0 a1 a2 a3 a4 a5 a6 : Value} {x : Nat} : gm_W E d 52 55 [a0, a1, a2, a3, a4, a5, a6] (.ref x :: st) h Q ↔ gm_W E d 52 57 [a0, a1, a2, a3, a4, gm_k a5, .ref x] st h Q := gw_loc m52 f52_55 rfl rfl
theorem r52_55n {E : Nat → Value} {d : Nat} {st : List Value} {h : gm_H} {Q : gm_R → gm_H → Prop} {a0 a1 a2 a3 a4 a5 a6 : Value}  : gm_W E d 52 55 [a0, a1, a2, a3, a4, a5, a6] (.null :: st) h Q ↔ gm_W E d 52 57 [a0, a1, a2, a3, a4, gm_k a5, .null] st h Q := gw_loc m52 f52_55 rfl rfl
theorem f52_57 : gm_ft 52 57 = some (.aload 6, 2) := by decide +kernel
theorem r52_57 {E : Nat → Value} {d : Nat} {st : List Value} {h : gm_H} {Q : gm_R → gm_H → Prop} {a0 a1 a2 a3 a4 a5 : Value} {x : Nat} : gm_W E d 52 57 [a0, a1, a2, a3, a4, a5, .ref x] st h Q ↔ gm_W E d 52 59 [a0, a1, a2, a3, a4, a5, .ref x] (.ref x :: st) h Q := gw_loc m52 f52_57 rfl rfl
theorem r52_57n {E : Nat → Value} {d : Nat} {st : List Value} {h : gm_H} {Q : gm_R → gm_H → Prop} {a0 a1 a2 a3 a4 a5 : Value}  : gm_W E d 52 57 [a0, a1, a2, a3, a4, a5, .null] st h Q ↔ gm_W E d 52 59 [a0, a1, a2, a3, a4, a5, .null] (.null :: st) h Q := gw_loc m52 f52_57 rfl rfl
theorem f52_59 : gm_ft 52 59 = some (.ifnull 15, 3) := by decide +kernel
theorem r52_59n {E : Nat → Value} {d : Nat} {st : List Value} {h : gm_H} {Q : gm_R → gm_H → Prop} {lv : List Value} : gm_W E d 52 59 lv (.null :: st) h Q ↔ gm_W E d 52 74 lv st h Q := gw_brT m52 f52_59 rfl rfl rfl rfl
theorem r52_59 {E : Nat → Value} {d : Nat} {st : List Value} {h : gm_H} {Q : gm_R → gm_H → Prop} {lv : List Value} {a : Nat} : gm_W E d 52 59 lv (.ref a :: st) h Q ↔ gm_W E d 52 62 lv st h Q := gw_brF m52 f52_59 rfl rfl rfl rfl
theorem f52_62 : gm_ft 52 62 = some (.iload_n 2, 1) := by decide +kernel
theorem r52_62 {E : Nat → Value} {d : Nat} {st : List Value} {h : gm_H} {Q : gm_R → gm_H → Prop} {a0 a1 a3 a4 a5 a6 : Value} {x : Int32} : gm_W E d 52 62 [a0, a1, .int x, a3, a4, a5, a6] st h Q ↔ gm_W E d 52 63 [a0, a1, .int x, a3, a4, a5, a6] (.int x :: st) h Q := gw_loc m52 f52_62 rfl rfl
theorem f52_63 : gm_ft 52 63 = some (.aload 6, 2) := by decide +kernel
theorem r52_63 {E : Nat → Value} {d : Nat} {st : List Value} {h : gm_H} {Q : gm_R → gm_H → Prop} {a0 a1 a2 a3 a4 a5 : Value} {x : Nat} : gm_W E d 52 63 [a0, a1, a2, a3, a4, a5, .ref x] st h Q ↔ gm_W E d 52 65 [a0, a1, a2, a3, a4, a5, .ref x] (.ref x :: st) h Q := gw_loc m52 f52_63 rfl rfl
theorem r52_63n {E : Nat → Value} {d : Nat} {st : List Value} {h : gm_H} {Q : gm_R → gm_H → Prop} {a0 a1 a2 a3 a4 a5 : Value}  : gm_W E d 52 63 [a0, a1, a2, a3, a4, a5, .null] st h Q ↔ gm_W E d 52 65 [a0, a1, a2, a3, a4, a5, .null] (.null :: st) h Q := gw_loc m52 f52_63 rfl rfl
theorem f52_65 : gm_ft 52 65 = some (.getfield 54, 3) := by decide +kernel
theorem r52_65 {E : Nat → Value} {d : Nat} {st : List Value} {h : gm_H} {Q : gm_R → gm_H → Prop} {lv : List Value} {a : Nat} (hk : gm_kd h a = 3) : gm_W E d 52 65 lv (.ref a :: st) h Q ↔ gm_W E d 52 68 lv (gm_fv h a 1 :: st) h Q := gw_rd m52 f52_65 rfl rfl rfl rfl (gs_get k0_54 hk (by decide))
theorem f52_68 : gm_ft 52 68 = some (.invokestatic 57, 3) := by decide +kernel
theorem c52_68 {E : Nat → Value} {d : Nat} {st : List Value} {h : gm_H} {Q : gm_R → gm_H → Prop} {lv : List Value} {b0 : Int32} {b1 : Int32} {Qc : gm_R → gm_H → Prop} (hs : (st.map fun v => v.category).sum ≤ 8) (hd : 1 ≤ d) (hc : gm_Ca E (d - 1) 63 [.int b0, .int b1] h Qc) (kn : ∀ (v9 : Option Value) (h9 : gm_H), Qc (.inl v9) h9 → gm_W E d 52 71 lv (v9.toList ++ st) h9 Q) (kx : ∀ (x9 : Nat) (h9 : gm_H), Qc (.inr x9) h9 → Q (.inr x9) h9) : gm_W E d 52 68 lv (.int b1 :: .int b0 :: st) h Q := gw_call (gn_call m52 f52_68 rfl rfl rfl rfl rfl rfl rfl (gc_stat (bs := [.int b1, .int b0]) (w := 106) (L := 2) rfl rfl rfl hs (by simp [gm_en1])) (by decide)) m52 rfl rfl hd hc kn kx
theorem f52_71 : gm_ft 52 71 = some (.ifCond .ne 5, 3) := by decide +kernel
theorem r52_71 {E : Nat → Value} {d : Nat} {st : List Value} {h : gm_H} {Q : gm_R → gm_H → Prop} {lv : List Value} {x : Int32} : gm_W E d 52 71 lv (.int x :: st) h Q ↔ (if x = 0 then gm_W E d 52 74 lv st h Q else gm_W E d 52 76 lv st h Q) := (gw_br m52 f52_71 rfl rfl rfl rfl).trans gw_ifn
theorem f52_74 : gm_ft 52 74 = some (.iconst (-1), 1) := by decide +kernel
theorem r52_74 {E : Nat → Value} {d : Nat} {st : List Value} {h : gm_H} {Q : gm_R → gm_H → Prop} {lv : List Value} : gm_W E d 52 74 lv st h Q ↔ gm_W E d 52 75 lv (.int (-1 : Int32) :: st) h Q := gw_pure m52 f52_74 rfl
theorem f52_75 : gm_ft 52 75 = some (.ireturn, 1) := by decide +kernel
theorem r52_75 {E : Nat → Value} {d : Nat} {h : gm_H} {Q : gm_R → gm_H → Prop} {lv : List Value} {x : Int32} : gm_W E d 52 75 lv [.int x] h Q ↔ Q (.inl (some (.int x))) h := gw_ret m52 f52_75 rfl rfl rfl rfl rfl rfl rfl rfl (by unfold gm_rt; dsimp only; rw [if_pos ⟨rfl, rfl⟩])
theorem f52_76 : gm_ft 52 76 = some (.aload_n 0, 1) := by decide +kernel
theorem r52_76 {E : Nat → Value} {d : Nat} {st : List Value} {h : gm_H} {Q : gm_R → gm_H → Prop} {a1 a2 a3 a4 a5 a6 : Value} {x : Nat} : gm_W E d 52 76 [.ref x, a1, a2, a3, a4, a5, a6] st h Q ↔ gm_W E d 52 77 [.ref x, a1, a2, a3, a4, a5, a6] (.ref x :: st) h Q := gw_loc m52 f52_76 rfl rfl
theorem r52_76n {E : Nat → Value} {d : Nat} {st : List Value} {h : gm_H} {Q : gm_R → gm_H → Prop} {a1 a2 a3 a4 a5 a6 : Value}  : gm_W E d 52 76 [.null, a1, a2, a3, a4, a5, a6] st h Q ↔ gm_W E d 52 77 [.null, a1, a2, a3, a4, a5, a6] (.null :: st) h Q := gw_loc m52 f52_76 rfl rfl
theorem f52_77 : gm_ft 52 77 = some (.getfield 11, 3) := by decide +kernel
theorem r52_77 {E : Nat → Value} {d : Nat} {st : List Value} {h : gm_H} {Q : gm_R → gm_H → Prop} {lv : List Value} {a : Nat} (hk : gm_kd h a = 0) : gm_W E d 52 77 lv (.ref a :: st) h Q ↔ gm_W E d 52 80 lv (gm_fv h a 4 :: st) h Q := gw_rd m52 f52_77 rfl rfl rfl rfl (gs_get k0_11 hk (by decide))
theorem f52_80 : gm_ft 52 80 = some (.iload_n 1, 1) := by decide +kernel
theorem r52_80 {E : Nat → Value} {d : Nat} {st : List Value} {h : gm_H} {Q : gm_R → gm_H → Prop} {a0 a2 a3 a4 a5 a6 : Value} {x : Int32} : gm_W E d 52 80 [a0, .int x, a2, a3, a4, a5, a6] st h Q ↔ gm_W E d 52 81 [a0, .int x, a2, a3, a4, a5, a6] (.int x :: st) h Q := gw_loc m52 f52_80 rfl rfl
theorem f52_81 : gm_ft 52 81 = some (.new 9, 3) := by decide +kernel
theorem r52_81 {E : Nat → Value} {d : Nat} {st : List Value} {h : gm_H} {Q : gm_R → gm_H → Prop} {lv : List Value} : gm_W E d 52 81 lv st h Q ↔ gm_W E d 52 84 lv (.ref h.1 :: st) (gm_nw h (3, [.int 0, .int 0, .null, .long 0, .null, .null, .int 0, .int 0, .int 0]) 9) Q := gw_nw m52 f52_81 rfl rfl rfl rfl rfl rfl rfl
theorem f52_84 : gm_ft 52 84 = some (.dup, 1) := by decide +kernel
theorem r52_84 {E : Nat → Value} {d : Nat} {st : List Value} {h : gm_H} {Q : gm_R → gm_H → Prop} {lv : List Value} {a : Nat} : gm_W E d 52 84 lv (.ref a :: st) h Q ↔ gm_W E d 52 85 lv (.ref a :: .ref a :: st) h Q := gw_pure m52 f52_84 rfl
theorem r52_84i {E : Nat → Value} {d : Nat} {st : List Value} {h : gm_H} {Q : gm_R → gm_H → Prop} {lv : List Value} {x : Int32} : gm_W E d 52 84 lv (.int x :: st) h Q ↔ gm_W E d 52 85 lv (.int x :: .int x :: st) h Q := gw_pure m52 f52_84 rfl
theorem f52_85 : gm_ft 52 85 = some (.iload_n 1, 1) := by decide +kernel
theorem r52_85 {E : Nat → Value} {d : Nat} {st : List Value} {h : gm_H} {Q : gm_R → gm_H → Prop} {a0 a2 a3 a4 a5 a6 : Value} {x : Int32} : gm_W E d 52 85 [a0, .int x, a2, a3, a4, a5, a6] st h Q ↔ gm_W E d 52 86 [a0, .int x, a2, a3, a4, a5, a6] (.int x :: st) h Q := gw_loc m52 f52_85 rfl rfl
theorem f52_86 : gm_ft 52 86 = some (.iload_n 2, 1) := by decide +kernel
theorem r52_86 {E : Nat → Value} {d : Nat} {st : List Value} {h : gm_H} {Q : gm_R → gm_H → Prop} {a0 a1 a3 a4 a5 a6 : Value} {x : Int32} : gm_W E d 52 86 [a0, a1, .int x, a3, a4, a5, a6] st h Q ↔ gm_W E d 52 87 [a0, a1, .int x, a3, a4, a5, a6] (.int x :: st) h Q := gw_loc m52 f52_86 rfl rfl
theorem f52_87 : gm_ft 52 87 = some (.aload 6, 2) := by decide +kernel
theorem r52_87 {E : Nat → Value} {d : Nat} {st : List Value} {h : gm_H} {Q : gm_R → gm_H → Prop} {a0 a1 a2 a3 a4 a5 : Value} {x : Nat} : gm_W E d 52 87 [a0, a1, a2, a3, a4, a5, .ref x] st h Q ↔ gm_W E d 52 89 [a0, a1, a2, a3, a4, a5, .ref x] (.ref x :: st) h Q := gw_loc m52 f52_87 rfl rfl
theorem r52_87n {E : Nat → Value} {d : Nat} {st : List Value} {h : gm_H} {Q : gm_R → gm_H → Prop} {a0 a1 a2 a3 a4 a5 : Value}  : gm_W E d 52 87 [a0, a1, a2, a3, a4, a5, .null] st h Q ↔ gm_W E d 52 89 [a0, a1, a2, a3, a4, a5, .null] (.null :: st) h Q := gw_loc m52 f52_87 rfl rfl
theorem f52_89 : gm_ft 52 89 = some (.lload 4, 2) := by decide +kernel
theorem r52_89 {E : Nat → Value} {d : Nat} {st : List Value} {h : gm_H} {Q : gm_R → gm_H → Prop} {a0 a1 a2 a3 a5 a6 : Value} {x : Int64} : gm_W E d 52 89 [a0, a1, a2, a3, .long x, a5, a6] st h Q ↔ gm_W E d 52 91 [a0, a1, a2, a3, .long x, a5, a6] (.long x :: st) h Q := gw_loc m52 f52_89 rfl rfl
theorem f52_91 : gm_ft 52 91 = some (.invokespecial 61, 3) := by decide +kernel
theorem c52_91 {E : Nat → Value} {d : Nat} {st : List Value} {h : gm_H} {Q : gm_R → gm_H → Prop} {lv : List Value} {b0 : Int32} {b1 : Int32} {b2 : Value} {b3 : Int64} {a : Nat} {Qc : gm_R → gm_H → Prop} (hs : (st.map fun v => v.category).sum ≤ 8) (he : (gm_en1 [.ref a, .int b0, .int b1, b2, .long b3]).length ≤ 6) (hd : 1 ≤ d) (hc : gm_Ca E (d - 1) 114 [.ref a, .int b0, .int b1, b2, .long b3] h Qc) (kn : ∀ (v9 : Option Value) (h9 : gm_H), Qc (.inl v9) h9 → gm_W E d 52 94 lv (v9.toList ++ st) h9 Q) (kx : ∀ (x9 : Nat) (h9 : gm_H), Qc (.inr x9) h9 → Q (.inr x9) h9) : gm_W E d 52 91 lv (.long b3 :: b2 :: .int b1 :: .int b0 :: .ref a :: st) h Q := gw_call (gn_call m52 f52_91 rfl rfl rfl rfl rfl rfl rfl (gc_init (bs := [.long b3, b2, .int b1, .int b0]) (w := 110) (L := 6) rfl rfl rfl hs he (by decide)) (by decide)) m52 rfl rfl hd hc kn kx
theorem f52_94 : gm_ft 52 94 = some (.aastore, 1) := by decide +kernel
theorem r52_94 {E : Nat → Value} {d : Nat} {st : List Value} {h : gm_H} {Q : gm_R → gm_H → Prop} {lv : List Value} {a b j : Nat} (hb : gm_kd h b < 6) (hk : gm_kd h a = 100 + gm_cmp (gm_kd h b) ∧ gm_cmp (gm_kd h b) < 99) (hj : j < gm_ln h a) (hl : gm_ln h a < 2 ^ 31) : gm_W E d 52 94 lv (.ref b :: .int (nI j) :: .ref a :: st) h Q ↔ gm_W E d 52 95 lv st (gm_sf h a j (.ref b)) Q := gw_wr m52 f52_94 rfl rfl rfl rfl rfl (gs_ast hb hk hj hl)
theorem r52_94n {E : Nat → Value} {d : Nat} {st : List Value} {h : gm_H} {Q : gm_R → gm_H → Prop} {lv : List Value} {a j : Nat} (hk : gm_kd h a = 110 ∨ gm_kd h a = 111 ∨ gm_kd h a = 112) (hj : j < gm_ln h a) (hl : gm_ln h a < 2 ^ 31) : gm_W E d 52 94 lv (.null :: .int (nI j) :: .ref a :: st) h Q ↔ gm_W E d 52 95 lv st (gm_sf h a j .null) Q := gw_wr m52 f52_94 rfl rfl rfl rfl rfl (gs_astn hk hj hl)
theorem f52_95 : gm_ft 52 95 = some (.iconst 0, 1) := by decide +kernel
theorem r52_95 {E : Nat → Value} {d : Nat} {st : List Value} {h : gm_H} {Q : gm_R → gm_H → Prop} {lv : List Value} : gm_W E d 52 95 lv st h Q ↔ gm_W E d 52 96 lv (.int (0 : Int32) :: st) h Q := gw_pure m52 f52_95 rfl
theorem f52_96 : gm_ft 52 96 = some (.ireturn, 1) := by decide +kernel
theorem r52_96 {E : Nat → Value} {d : Nat} {h : gm_H} {Q : gm_R → gm_H → Prop} {lv : List Value} {x : Int32} : gm_W E d 52 96 lv [.int x] h Q ↔ Q (.inl (some (.int x))) h := gw_ret m52 f52_96 rfl rfl rfl rfl rfl rfl rfl rfl (by unfold gm_rt; dsimp only; rw [if_pos ⟨rfl, rfl⟩])
/-! GraphReader.field(III)I -/
theorem m53 : gm_mt[53]? = some (⟨"GraphReader", "field", "(III)I"⟩, prog_1_method_3_code, 5, (some .int), [], 0, 1) := rfl
theorem f53_0 : gm_ft 53 0 = some (.aload_n 0, 1) := by decide +kernel
theorem r53_0 {E : Nat → Value} {d : Nat} {st : List Value} {h : gm_H} {Q : gm_R → gm_H → Prop} {a1 a2 a3 a4 : Value} {x : Nat} : gm_W E d 53 0 [.ref x, a1, a2, a3, a4] st h Q ↔ gm_W E d 53 1 [.ref x, a1, a2, a3, a4] (.ref x :: st) h Q := gw_loc m53 f53_0 rfl rfl
theorem r53_0n {E : Nat → Value} {d : Nat} {st : List Value} {h : gm_H} {Q : gm_R → gm_H → Prop} {a1 a2 a3 a4 : Value}  : gm_W E d 53 0 [.null, a1, a2, a3, a4] st h Q ↔ gm_W E d 53 1 [.null, a1, a2, a3, a4] (.null :: st) h Q := gw_loc m53 f53_0 rfl rfl
theorem f53_1 : gm_ft 53 1 = some (.iload_n 1, 1) := by decide +kernel
theorem r53_1 {E : Nat → Value} {d : Nat} {st : List Value} {h : gm_H} {Q : gm_R → gm_H → Prop} {a0 a2 a3 a4 : Value} {x : Int32} : gm_W E d 53 1 [a0, .int x, a2, a3, a4] st h Q ↔ gm_W E d 53 2 [a0, .int x, a2, a3, a4] (.int x :: st) h Q := gw_loc m53 f53_1 rfl rfl
theorem f53_2 : gm_ft 53 2 = some (.invokevirtual 64, 3) := by decide +kernel
theorem c53_2 {E : Nat → Value} {d : Nat} {st : List Value} {h : gm_H} {Q : gm_R → gm_H → Prop} {lv : List Value} {b0 : Int32} {a : Nat} {Qc : gm_R → gm_H → Prop} (hs : (st.map fun v => v.category).sum ≤ 8) (hr : gm_kd h a = 0) (hd : 1 ≤ d) (hc : gm_Ca E (d - 1) 64 [.ref a, .int b0] h Qc) (kn : ∀ (v9 : Option Value) (h9 : gm_H), Qc (.inl v9) h9 → gm_W E d 53 5 lv (v9.toList ++ st) h9 Q) (kx : ∀ (x9 : Nat) (h9 : gm_H), Qc (.inr x9) h9 → Q (.inr x9) h9) : gm_W E d 53 2 lv (.int b0 :: .ref a :: st) h Q := gw_call (gn_call m53 f53_2 rfl rfl rfl rfl rfl rfl rfl (gs_virt (bs := [.int b0]) (w := 153) (L := 2) rfl rfl rfl rfl hs (by simp [gm_en1]) hr (by decide)) (by decide)) m53 rfl rfl hd hc kn kx
theorem f53_5 : gm_ft 53 5 = some (.astore 4, 2) := by decide +kernel
theorem r53_5 {E : Nat → Value} {d : Nat} {st : List Value} {h : gm_H} {Q : gm_R → gm_H → Prop} {a0 a1 a2 a3 a4 : Value} {x : Nat} : gm_W E d 53 5 [a0, a1, a2, a3, a4] (.ref x :: st) h Q ↔ gm_W E d 53 7 [a0, a1, a2, gm_k a3, .ref x] st h Q := gw_loc m53 f53_5 rfl rfl
theorem r53_5n {E : Nat → Value} {d : Nat} {st : List Value} {h : gm_H} {Q : gm_R → gm_H → Prop} {a0 a1 a2 a3 a4 : Value}  : gm_W E d 53 5 [a0, a1, a2, a3, a4] (.null :: st) h Q ↔ gm_W E d 53 7 [a0, a1, a2, gm_k a3, .null] st h Q := gw_loc m53 f53_5 rfl rfl
theorem f53_7 : gm_ft 53 7 = some (.aload 4, 2) := by decide +kernel
theorem r53_7 {E : Nat → Value} {d : Nat} {st : List Value} {h : gm_H} {Q : gm_R → gm_H → Prop} {a0 a1 a2 a3 : Value} {x : Nat} : gm_W E d 53 7 [a0, a1, a2, a3, .ref x] st h Q ↔ gm_W E d 53 9 [a0, a1, a2, a3, .ref x] (.ref x :: st) h Q := gw_loc m53 f53_7 rfl rfl
theorem r53_7n {E : Nat → Value} {d : Nat} {st : List Value} {h : gm_H} {Q : gm_R → gm_H → Prop} {a0 a1 a2 a3 : Value}  : gm_W E d 53 7 [a0, a1, a2, a3, .null] st h Q ↔ gm_W E d 53 9 [a0, a1, a2, a3, .null] (.null :: st) h Q := gw_loc m53 f53_7 rfl rfl
theorem f53_9 : gm_ft 53 9 = some (.ifnull 29, 3) := by decide +kernel
theorem r53_9n {E : Nat → Value} {d : Nat} {st : List Value} {h : gm_H} {Q : gm_R → gm_H → Prop} {lv : List Value} : gm_W E d 53 9 lv (.null :: st) h Q ↔ gm_W E d 53 38 lv st h Q := gw_brT m53 f53_9 rfl rfl rfl rfl
theorem r53_9 {E : Nat → Value} {d : Nat} {st : List Value} {h : gm_H} {Q : gm_R → gm_H → Prop} {lv : List Value} {a : Nat} : gm_W E d 53 9 lv (.ref a :: st) h Q ↔ gm_W E d 53 12 lv st h Q := gw_brF m53 f53_9 rfl rfl rfl rfl
theorem f53_12 : gm_ft 53 12 = some (.aload 4, 2) := by decide +kernel
theorem r53_12 {E : Nat → Value} {d : Nat} {st : List Value} {h : gm_H} {Q : gm_R → gm_H → Prop} {a0 a1 a2 a3 : Value} {x : Nat} : gm_W E d 53 12 [a0, a1, a2, a3, .ref x] st h Q ↔ gm_W E d 53 14 [a0, a1, a2, a3, .ref x] (.ref x :: st) h Q := gw_loc m53 f53_12 rfl rfl
theorem r53_12n {E : Nat → Value} {d : Nat} {st : List Value} {h : gm_H} {Q : gm_R → gm_H → Prop} {a0 a1 a2 a3 : Value}  : gm_W E d 53 12 [a0, a1, a2, a3, .null] st h Q ↔ gm_W E d 53 14 [a0, a1, a2, a3, .null] (.null :: st) h Q := gw_loc m53 f53_12 rfl rfl
theorem f53_14 : gm_ft 53 14 = some (.getfield 54, 3) := by decide +kernel
theorem r53_14 {E : Nat → Value} {d : Nat} {st : List Value} {h : gm_H} {Q : gm_R → gm_H → Prop} {lv : List Value} {a : Nat} (hk : gm_kd h a = 3) : gm_W E d 53 14 lv (.ref a :: st) h Q ↔ gm_W E d 53 17 lv (gm_fv h a 1 :: st) h Q := gw_rd m53 f53_14 rfl rfl rfl rfl (gs_get k0_54 hk (by decide))
theorem f53_17 : gm_ft 53 17 = some (.iconst 3, 1) := by decide +kernel
theorem r53_17 {E : Nat → Value} {d : Nat} {st : List Value} {h : gm_H} {Q : gm_R → gm_H → Prop} {lv : List Value} : gm_W E d 53 17 lv st h Q ↔ gm_W E d 53 18 lv (.int (3 : Int32) :: st) h Q := gw_pure m53 f53_17 rfl
theorem f53_18 : gm_ft 53 18 = some (.if_icmp .eq 20, 3) := by decide +kernel
theorem r53_18 {E : Nat → Value} {d : Nat} {st : List Value} {h : gm_H} {Q : gm_R → gm_H → Prop} {lv : List Value} {x y : Int32} : gm_W E d 53 18 lv (.int y :: .int x :: st) h Q ↔ (if x = y then gm_W E d 53 38 lv st h Q else gm_W E d 53 21 lv st h Q) := (gw_br m53 f53_18 rfl rfl rfl rfl).trans gw_if
theorem f53_21 : gm_ft 53 21 = some (.iload_n 2, 1) := by decide +kernel
theorem r53_21 {E : Nat → Value} {d : Nat} {st : List Value} {h : gm_H} {Q : gm_R → gm_H → Prop} {a0 a1 a3 a4 : Value} {x : Int32} : gm_W E d 53 21 [a0, a1, .int x, a3, a4] st h Q ↔ gm_W E d 53 22 [a0, a1, .int x, a3, a4] (.int x :: st) h Q := gw_loc m53 f53_21 rfl rfl
theorem f53_22 : gm_ft 53 22 = some (.invokestatic 68, 3) := by decide +kernel
theorem c53_22 {E : Nat → Value} {d : Nat} {st : List Value} {h : gm_H} {Q : gm_R → gm_H → Prop} {lv : List Value} {b0 : Int32} {Qc : gm_R → gm_H → Prop} (hs : (st.map fun v => v.category).sum ≤ 8) (hd : 1 ≤ d) (hc : gm_Ca E (d - 1) 62 [.int b0] h Qc) (kn : ∀ (v9 : Option Value) (h9 : gm_H), Qc (.inl v9) h9 → gm_W E d 53 25 lv (v9.toList ++ st) h9 Q) (kx : ∀ (x9 : Nat) (h9 : gm_H), Qc (.inr x9) h9 → Q (.inr x9) h9) : gm_W E d 53 22 lv (.int b0 :: st) h Q := gw_call (gn_call m53 f53_22 rfl rfl rfl rfl rfl rfl rfl (gc_stat (bs := [.int b0]) (w := 157) (L := 1) rfl rfl rfl hs (by simp [gm_en1])) (by decide)) m53 rfl rfl hd hc kn kx
theorem f53_25 : gm_ft 53 25 = some (.ifCond .eq 13, 3) := by decide +kernel
theorem r53_25 {E : Nat → Value} {d : Nat} {st : List Value} {h : gm_H} {Q : gm_R → gm_H → Prop} {lv : List Value} {x : Int32} : gm_W E d 53 25 lv (.int x :: st) h Q ↔ (if x = 0 then gm_W E d 53 38 lv st h Q else gm_W E d 53 28 lv st h Q) := (gw_br m53 f53_25 rfl rfl rfl rfl).trans gw_if
theorem f53_28 : gm_ft 53 28 = some (.iload_n 3, 1) := by decide +kernel
theorem r53_28 {E : Nat → Value} {d : Nat} {st : List Value} {h : gm_H} {Q : gm_R → gm_H → Prop} {a0 a1 a2 a4 : Value} {x : Int32} : gm_W E d 53 28 [a0, a1, a2, .int x, a4] st h Q ↔ gm_W E d 53 29 [a0, a1, a2, .int x, a4] (.int x :: st) h Q := gw_loc m53 f53_28 rfl rfl
theorem f53_29 : gm_ft 53 29 = some (.ifCond .lt 9, 3) := by decide +kernel
theorem r53_29 {E : Nat → Value} {d : Nat} {st : List Value} {h : gm_H} {Q : gm_R → gm_H → Prop} {lv : List Value} {x : Int32} : gm_W E d 53 29 lv (.int x :: st) h Q ↔ (if x < 0 then gm_W E d 53 38 lv st h Q else gm_W E d 53 32 lv st h Q) := (gw_br m53 f53_29 rfl rfl rfl rfl).trans gw_if
theorem f53_32 : gm_ft 53 32 = some (.iload_n 3, 1) := by decide +kernel
theorem r53_32 {E : Nat → Value} {d : Nat} {st : List Value} {h : gm_H} {Q : gm_R → gm_H → Prop} {a0 a1 a2 a4 : Value} {x : Int32} : gm_W E d 53 32 [a0, a1, a2, .int x, a4] st h Q ↔ gm_W E d 53 33 [a0, a1, a2, .int x, a4] (.int x :: st) h Q := gw_loc m53 f53_32 rfl rfl
theorem f53_33 : gm_ft 53 33 = some (.bipush 7, 2) := by decide +kernel
theorem r53_33 {E : Nat → Value} {d : Nat} {st : List Value} {h : gm_H} {Q : gm_R → gm_H → Prop} {lv : List Value} : gm_W E d 53 33 lv st h Q ↔ gm_W E d 53 35 lv (.int (7 : Int32) :: st) h Q := gw_pure m53 f53_33 rfl
theorem f53_35 : gm_ft 53 35 = some (.if_icmp .le 5, 3) := by decide +kernel
theorem r53_35 {E : Nat → Value} {d : Nat} {st : List Value} {h : gm_H} {Q : gm_R → gm_H → Prop} {lv : List Value} {x y : Int32} : gm_W E d 53 35 lv (.int y :: .int x :: st) h Q ↔ (if x ≤ y then gm_W E d 53 40 lv st h Q else gm_W E d 53 38 lv st h Q) := (gw_br m53 f53_35 rfl rfl rfl rfl).trans gw_if
theorem f53_38 : gm_ft 53 38 = some (.iconst (-1), 1) := by decide +kernel
theorem r53_38 {E : Nat → Value} {d : Nat} {st : List Value} {h : gm_H} {Q : gm_R → gm_H → Prop} {lv : List Value} : gm_W E d 53 38 lv st h Q ↔ gm_W E d 53 39 lv (.int (-1 : Int32) :: st) h Q := gw_pure m53 f53_38 rfl
theorem f53_39 : gm_ft 53 39 = some (.ireturn, 1) := by decide +kernel
theorem r53_39 {E : Nat → Value} {d : Nat} {h : gm_H} {Q : gm_R → gm_H → Prop} {lv : List Value} {x : Int32} : gm_W E d 53 39 lv [.int x] h Q ↔ Q (.inl (some (.int x))) h := gw_ret m53 f53_39 rfl rfl rfl rfl rfl rfl rfl rfl (by unfold gm_rt; dsimp only; rw [if_pos ⟨rfl, rfl⟩])
theorem f53_40 : gm_ft 53 40 = some (.aload_n 0, 1) := by decide +kernel
theorem r53_40 {E : Nat → Value} {d : Nat} {st : List Value} {h : gm_H} {Q : gm_R → gm_H → Prop} {a1 a2 a3 a4 : Value} {x : Nat} : gm_W E d 53 40 [.ref x, a1, a2, a3, a4] st h Q ↔ gm_W E d 53 41 [.ref x, a1, a2, a3, a4] (.ref x :: st) h Q := gw_loc m53 f53_40 rfl rfl
theorem r53_40n {E : Nat → Value} {d : Nat} {st : List Value} {h : gm_H} {Q : gm_R → gm_H → Prop} {a1 a2 a3 a4 : Value}  : gm_W E d 53 40 [.null, a1, a2, a3, a4] st h Q ↔ gm_W E d 53 41 [.null, a1, a2, a3, a4] (.null :: st) h Q := gw_loc m53 f53_40 rfl rfl
theorem f53_41 : gm_ft 53 41 = some (.getfield 72, 3) := by decide +kernel
theorem r53_41 {E : Nat → Value} {d : Nat} {st : List Value} {h : gm_H} {Q : gm_R → gm_H → Prop} {lv : List Value} {a : Nat} (hk : gm_kd h a = 0) : gm_W E d 53 41 lv (.ref a :: st) h Q ↔ gm_W E d 53 44 lv (gm_fv h a 9 :: st) h Q := gw_rd m53 f53_41 rfl rfl rfl rfl (gs_get k0_72 hk (by decide))
theorem f53_44 : gm_ft 53 44 = some (.ifCond .ne 21, 3) := by decide +kernel
theorem r53_44 {E : Nat → Value} {d : Nat} {st : List Value} {h : gm_H} {Q : gm_R → gm_H → Prop} {lv : List Value} {x : Int32} : gm_W E d 53 44 lv (.int x :: st) h Q ↔ (if x = 0 then gm_W E d 53 47 lv st h Q else gm_W E d 53 65 lv st h Q) := (gw_br m53 f53_44 rfl rfl rfl rfl).trans gw_ifn
theorem f53_47 : gm_ft 53 47 = some (.aload 4, 2) := by decide +kernel
theorem r53_47 {E : Nat → Value} {d : Nat} {st : List Value} {h : gm_H} {Q : gm_R → gm_H → Prop} {a0 a1 a2 a3 : Value} {x : Nat} : gm_W E d 53 47 [a0, a1, a2, a3, .ref x] st h Q ↔ gm_W E d 53 49 [a0, a1, a2, a3, .ref x] (.ref x :: st) h Q := gw_loc m53 f53_47 rfl rfl
theorem r53_47n {E : Nat → Value} {d : Nat} {st : List Value} {h : gm_H} {Q : gm_R → gm_H → Prop} {a0 a1 a2 a3 : Value}  : gm_W E d 53 47 [a0, a1, a2, a3, .null] st h Q ↔ gm_W E d 53 49 [a0, a1, a2, a3, .null] (.null :: st) h Q := gw_loc m53 f53_47 rfl rfl
theorem f53_49 : gm_ft 53 49 = some (.getfield 75, 3) := by decide +kernel
theorem r53_49 {E : Nat → Value} {d : Nat} {st : List Value} {h : gm_H} {Q : gm_R → gm_H → Prop} {lv : List Value} {a : Nat} (hk : gm_kd h a = 3) : gm_W E d 53 49 lv (.ref a :: st) h Q ↔ gm_W E d 53 52 lv (gm_fv h a 6 :: st) h Q := gw_rd m53 f53_49 rfl rfl rfl rfl (gs_get k0_75 hk (by decide))
theorem f53_52 : gm_ft 53 52 = some (.iconst 4, 1) := by decide +kernel
theorem r53_52 {E : Nat → Value} {d : Nat} {st : List Value} {h : gm_H} {Q : gm_R → gm_H → Prop} {lv : List Value} : gm_W E d 53 52 lv st h Q ↔ gm_W E d 53 53 lv (.int (4 : Int32) :: st) h Q := gw_pure m53 f53_52 rfl
theorem f53_53 : gm_ft 53 53 = some (.if_icmp .eq 12, 3) := by decide +kernel
theorem r53_53 {E : Nat → Value} {d : Nat} {st : List Value} {h : gm_H} {Q : gm_R → gm_H → Prop} {lv : List Value} {x y : Int32} : gm_W E d 53 53 lv (.int y :: .int x :: st) h Q ↔ (if x = y then gm_W E d 53 65 lv st h Q else gm_W E d 53 56 lv st h Q) := (gw_br m53 f53_53 rfl rfl rfl rfl).trans gw_if
theorem f53_56 : gm_ft 53 56 = some (.aload 4, 2) := by decide +kernel
theorem r53_56 {E : Nat → Value} {d : Nat} {st : List Value} {h : gm_H} {Q : gm_R → gm_H → Prop} {a0 a1 a2 a3 : Value} {x : Nat} : gm_W E d 53 56 [a0, a1, a2, a3, .ref x] st h Q ↔ gm_W E d 53 58 [a0, a1, a2, a3, .ref x] (.ref x :: st) h Q := gw_loc m53 f53_56 rfl rfl
theorem r53_56n {E : Nat → Value} {d : Nat} {st : List Value} {h : gm_H} {Q : gm_R → gm_H → Prop} {a0 a1 a2 a3 : Value}  : gm_W E d 53 56 [a0, a1, a2, a3, .null] st h Q ↔ gm_W E d 53 58 [a0, a1, a2, a3, .null] (.null :: st) h Q := gw_loc m53 f53_56 rfl rfl
theorem f53_58 : gm_ft 53 58 = some (.iload_n 2, 1) := by decide +kernel
theorem r53_58 {E : Nat → Value} {d : Nat} {st : List Value} {h : gm_H} {Q : gm_R → gm_H → Prop} {a0 a1 a3 a4 : Value} {x : Int32} : gm_W E d 53 58 [a0, a1, .int x, a3, a4] st h Q ↔ gm_W E d 53 59 [a0, a1, .int x, a3, a4] (.int x :: st) h Q := gw_loc m53 f53_58 rfl rfl
theorem f53_59 : gm_ft 53 59 = some (.invokevirtual 78, 3) := by decide +kernel
theorem c53_59 {E : Nat → Value} {d : Nat} {st : List Value} {h : gm_H} {Q : gm_R → gm_H → Prop} {lv : List Value} {b0 : Int32} {a : Nat} {Qc : gm_R → gm_H → Prop} (hs : (st.map fun v => v.category).sum ≤ 8) (hr : gm_kd h a = 3) (hd : 1 ≤ d) (hc : gm_Ca E (d - 1) 115 [.ref a, .int b0] h Qc) (kn : ∀ (v9 : Option Value) (h9 : gm_H), Qc (.inl v9) h9 → gm_W E d 53 62 lv (v9.toList ++ st) h9 Q) (kx : ∀ (x9 : Nat) (h9 : gm_H), Qc (.inr x9) h9 → Q (.inr x9) h9) : gm_W E d 53 59 lv (.int b0 :: .ref a :: st) h Q := gw_call (gn_call m53 f53_59 rfl rfl rfl rfl rfl rfl rfl (gs_virt (bs := [.int b0]) (w := 160) (L := 3) rfl rfl rfl rfl hs (by simp [gm_en1]) hr (by decide)) (by decide)) m53 rfl rfl hd hc kn kx
theorem f53_62 : gm_ft 53 62 = some (.ifCond .lt 5, 3) := by decide +kernel
theorem r53_62 {E : Nat → Value} {d : Nat} {st : List Value} {h : gm_H} {Q : gm_R → gm_H → Prop} {lv : List Value} {x : Int32} : gm_W E d 53 62 lv (.int x :: st) h Q ↔ (if x < 0 then gm_W E d 53 67 lv st h Q else gm_W E d 53 65 lv st h Q) := (gw_br m53 f53_62 rfl rfl rfl rfl).trans gw_if
theorem f53_65 : gm_ft 53 65 = some (.iconst (-1), 1) := by decide +kernel
theorem r53_65 {E : Nat → Value} {d : Nat} {st : List Value} {h : gm_H} {Q : gm_R → gm_H → Prop} {lv : List Value} : gm_W E d 53 65 lv st h Q ↔ gm_W E d 53 66 lv (.int (-1 : Int32) :: st) h Q := gw_pure m53 f53_65 rfl
theorem f53_66 : gm_ft 53 66 = some (.ireturn, 1) := by decide +kernel
theorem r53_66 {E : Nat → Value} {d : Nat} {h : gm_H} {Q : gm_R → gm_H → Prop} {lv : List Value} {x : Int32} : gm_W E d 53 66 lv [.int x] h Q ↔ Q (.inl (some (.int x))) h := gw_ret m53 f53_66 rfl rfl rfl rfl rfl rfl rfl rfl (by unfold gm_rt; dsimp only; rw [if_pos ⟨rfl, rfl⟩])
theorem f53_67 : gm_ft 53 67 = some (.aload 4, 2) := by decide +kernel
theorem r53_67 {E : Nat → Value} {d : Nat} {st : List Value} {h : gm_H} {Q : gm_R → gm_H → Prop} {a0 a1 a2 a3 : Value} {x : Nat} : gm_W E d 53 67 [a0, a1, a2, a3, .ref x] st h Q ↔ gm_W E d 53 69 [a0, a1, a2, a3, .ref x] (.ref x :: st) h Q := gw_loc m53 f53_67 rfl rfl
theorem r53_67n {E : Nat → Value} {d : Nat} {st : List Value} {h : gm_H} {Q : gm_R → gm_H → Prop} {a0 a1 a2 a3 : Value}  : gm_W E d 53 67 [a0, a1, a2, a3, .null] st h Q ↔ gm_W E d 53 69 [a0, a1, a2, a3, .null] (.null :: st) h Q := gw_loc m53 f53_67 rfl rfl
theorem f53_69 : gm_ft 53 69 = some (.iload_n 2, 1) := by decide +kernel
theorem r53_69 {E : Nat → Value} {d : Nat} {st : List Value} {h : gm_H} {Q : gm_R → gm_H → Prop} {a0 a1 a3 a4 : Value} {x : Int32} : gm_W E d 53 69 [a0, a1, .int x, a3, a4] st h Q ↔ gm_W E d 53 70 [a0, a1, .int x, a3, a4] (.int x :: st) h Q := gw_loc m53 f53_69 rfl rfl
theorem f53_70 : gm_ft 53 70 = some (.iload_n 3, 1) := by decide +kernel
theorem r53_70 {E : Nat → Value} {d : Nat} {st : List Value} {h : gm_H} {Q : gm_R → gm_H → Prop} {a0 a1 a2 a4 : Value} {x : Int32} : gm_W E d 53 70 [a0, a1, a2, .int x, a4] st h Q ↔ gm_W E d 53 71 [a0, a1, a2, .int x, a4] (.int x :: st) h Q := gw_loc m53 f53_70 rfl rfl
theorem f53_71 : gm_ft 53 71 = some (.invokevirtual 82, 3) := by decide +kernel
theorem c53_71 {E : Nat → Value} {d : Nat} {st : List Value} {h : gm_H} {Q : gm_R → gm_H → Prop} {lv : List Value} {b0 : Int32} {b1 : Int32} {a : Nat} {Qc : gm_R → gm_H → Prop} (hs : (st.map fun v => v.category).sum ≤ 8) (hr : gm_kd h a = 3) (hd : 1 ≤ d) (hc : gm_Ca E (d - 1) 116 [.ref a, .int b0, .int b1] h Qc) (kn : ∀ (v9 : Option Value) (h9 : gm_H), Qc (.inl v9) h9 → gm_W E d 53 74 lv (v9.toList ++ st) h9 Q) (kx : ∀ (x9 : Nat) (h9 : gm_H), Qc (.inr x9) h9 → Q (.inr x9) h9) : gm_W E d 53 71 lv (.int b1 :: .int b0 :: .ref a :: st) h Q := gw_call (gn_call m53 f53_71 rfl rfl rfl rfl rfl rfl rfl (gs_virt (bs := [.int b1, .int b0]) (w := 164) (L := 3) rfl rfl rfl rfl hs (by simp [gm_en1]) hr (by decide)) (by decide)) m53 rfl rfl hd hc kn kx
theorem f53_74 : gm_ft 53 74 = some (.aload 4, 2) := by decide +kernel
theorem r53_74 {E : Nat → Value} {d : Nat} {st : List Value} {h : gm_H} {Q : gm_R → gm_H → Prop} {a0 a1 a2 a3 : Value} {x : Nat} : gm_W E d 53 74 [a0, a1, a2, a3, .ref x] st h Q ↔ gm_W E d 53 76 [a0, a1, a2, a3, .ref x] (.ref x :: st) h Q := gw_loc m53 f53_74 rfl rfl
theorem r53_74n {E : Nat → Value} {d : Nat} {st : List Value} {h : gm_H} {Q : gm_R → gm_H → Prop} {a0 a1 a2 a3 : Value}  : gm_W E d 53 74 [a0, a1, a2, a3, .null] st h Q ↔ gm_W E d 53 76 [a0, a1, a2, a3, .null] (.null :: st) h Q := gw_loc m53 f53_74 rfl rfl
theorem f53_76 : gm_ft 53 76 = some (.getfield 75, 3) := by decide +kernel
theorem r53_76 {E : Nat → Value} {d : Nat} {st : List Value} {h : gm_H} {Q : gm_R → gm_H → Prop} {lv : List Value} {a : Nat} (hk : gm_kd h a = 3) : gm_W E d 53 76 lv (.ref a :: st) h Q ↔ gm_W E d 53 79 lv (gm_fv h a 6 :: st) h Q := gw_rd m53 f53_76 rfl rfl rfl rfl (gs_get k0_75 hk (by decide))
theorem f53_79 : gm_ft 53 79 = some (.ireturn, 1) := by decide +kernel
theorem r53_79 {E : Nat → Value} {d : Nat} {h : gm_H} {Q : gm_R → gm_H → Prop} {lv : List Value} {x : Int32} : gm_W E d 53 79 lv [.int x] h Q ↔ Q (.inl (some (.int x))) h := gw_ret m53 f53_79 rfl rfl rfl rfl rfl rfl rfl rfl (by unfold gm_rt; dsimp only; rw [if_pos ⟨rfl, rfl⟩])
/-! GraphReader.constant(IIZ)I -/
theorem m54 : gm_mt[54]? = some (⟨"GraphReader", "constant", "(IIZ)I"⟩, prog_1_method_4_code, 5, (some .int), [], 0, 1) := rfl
theorem f54_0 : gm_ft 54 0 = some (.aload_n 0, 1) := by decide +kernel
theorem r54_0 {E : Nat → Value} {d : Nat} {st : List Value} {h : gm_H} {Q : gm_R → gm_H → Prop} {a1 a2 a3 a4 : Value} {x : Nat} : gm_W E d 54 0 [.ref x, a1, a2, a3, a4] st h Q ↔ gm_W E d 54 1 [.ref x, a1, a2, a3, a4] (.ref x :: st) h Q := gw_loc m54 f54_0 rfl rfl
theorem r54_0n {E : Nat → Value} {d : Nat} {st : List Value} {h : gm_H} {Q : gm_R → gm_H → Prop} {a1 a2 a3 a4 : Value}  : gm_W E d 54 0 [.null, a1, a2, a3, a4] st h Q ↔ gm_W E d 54 1 [.null, a1, a2, a3, a4] (.null :: st) h Q := gw_loc m54 f54_0 rfl rfl
theorem f54_1 : gm_ft 54 1 = some (.iload_n 1, 1) := by decide +kernel
theorem r54_1 {E : Nat → Value} {d : Nat} {st : List Value} {h : gm_H} {Q : gm_R → gm_H → Prop} {a0 a2 a3 a4 : Value} {x : Int32} : gm_W E d 54 1 [a0, .int x, a2, a3, a4] st h Q ↔ gm_W E d 54 2 [a0, .int x, a2, a3, a4] (.int x :: st) h Q := gw_loc m54 f54_1 rfl rfl
theorem f54_2 : gm_ft 54 2 = some (.invokevirtual 64, 3) := by decide +kernel
theorem c54_2 {E : Nat → Value} {d : Nat} {st : List Value} {h : gm_H} {Q : gm_R → gm_H → Prop} {lv : List Value} {b0 : Int32} {a : Nat} {Qc : gm_R → gm_H → Prop} (hs : (st.map fun v => v.category).sum ≤ 8) (hr : gm_kd h a = 0) (hd : 1 ≤ d) (hc : gm_Ca E (d - 1) 64 [.ref a, .int b0] h Qc) (kn : ∀ (v9 : Option Value) (h9 : gm_H), Qc (.inl v9) h9 → gm_W E d 54 5 lv (v9.toList ++ st) h9 Q) (kx : ∀ (x9 : Nat) (h9 : gm_H), Qc (.inr x9) h9 → Q (.inr x9) h9) : gm_W E d 54 2 lv (.int b0 :: .ref a :: st) h Q := gw_call (gn_call m54 f54_2 rfl rfl rfl rfl rfl rfl rfl (gs_virt (bs := [.int b0]) (w := 153) (L := 2) rfl rfl rfl rfl hs (by simp [gm_en1]) hr (by decide)) (by decide)) m54 rfl rfl hd hc kn kx
theorem f54_5 : gm_ft 54 5 = some (.astore 4, 2) := by decide +kernel
theorem r54_5 {E : Nat → Value} {d : Nat} {st : List Value} {h : gm_H} {Q : gm_R → gm_H → Prop} {a0 a1 a2 a3 a4 : Value} {x : Nat} : gm_W E d 54 5 [a0, a1, a2, a3, a4] (.ref x :: st) h Q ↔ gm_W E d 54 7 [a0, a1, a2, gm_k a3, .ref x] st h Q := gw_loc m54 f54_5 rfl rfl
theorem r54_5n {E : Nat → Value} {d : Nat} {st : List Value} {h : gm_H} {Q : gm_R → gm_H → Prop} {a0 a1 a2 a3 a4 : Value}  : gm_W E d 54 5 [a0, a1, a2, a3, a4] (.null :: st) h Q ↔ gm_W E d 54 7 [a0, a1, a2, gm_k a3, .null] st h Q := gw_loc m54 f54_5 rfl rfl
theorem f54_7 : gm_ft 54 7 = some (.aload 4, 2) := by decide +kernel
theorem r54_7 {E : Nat → Value} {d : Nat} {st : List Value} {h : gm_H} {Q : gm_R → gm_H → Prop} {a0 a1 a2 a3 : Value} {x : Nat} : gm_W E d 54 7 [a0, a1, a2, a3, .ref x] st h Q ↔ gm_W E d 54 9 [a0, a1, a2, a3, .ref x] (.ref x :: st) h Q := gw_loc m54 f54_7 rfl rfl
theorem r54_7n {E : Nat → Value} {d : Nat} {st : List Value} {h : gm_H} {Q : gm_R → gm_H → Prop} {a0 a1 a2 a3 : Value}  : gm_W E d 54 7 [a0, a1, a2, a3, .null] st h Q ↔ gm_W E d 54 9 [a0, a1, a2, a3, .null] (.null :: st) h Q := gw_loc m54 f54_7 rfl rfl
theorem f54_9 : gm_ft 54 9 = some (.ifnonnull 5, 3) := by decide +kernel
theorem r54_9n {E : Nat → Value} {d : Nat} {st : List Value} {h : gm_H} {Q : gm_R → gm_H → Prop} {lv : List Value} : gm_W E d 54 9 lv (.null :: st) h Q ↔ gm_W E d 54 12 lv st h Q := gw_brF m54 f54_9 rfl rfl rfl rfl
theorem r54_9 {E : Nat → Value} {d : Nat} {st : List Value} {h : gm_H} {Q : gm_R → gm_H → Prop} {lv : List Value} {a : Nat} : gm_W E d 54 9 lv (.ref a :: st) h Q ↔ gm_W E d 54 14 lv st h Q := gw_brT m54 f54_9 rfl rfl rfl rfl
theorem f54_12 : gm_ft 54 12 = some (.iconst (-1), 1) := by decide +kernel
theorem r54_12 {E : Nat → Value} {d : Nat} {st : List Value} {h : gm_H} {Q : gm_R → gm_H → Prop} {lv : List Value} : gm_W E d 54 12 lv st h Q ↔ gm_W E d 54 13 lv (.int (-1 : Int32) :: st) h Q := gw_pure m54 f54_12 rfl
theorem f54_13 : gm_ft 54 13 = some (.ireturn, 1) := by decide +kernel
theorem r54_13 {E : Nat → Value} {d : Nat} {h : gm_H} {Q : gm_R → gm_H → Prop} {lv : List Value} {x : Int32} : gm_W E d 54 13 lv [.int x] h Q ↔ Q (.inl (some (.int x))) h := gw_ret m54 f54_13 rfl rfl rfl rfl rfl rfl rfl rfl (by unfold gm_rt; dsimp only; rw [if_pos ⟨rfl, rfl⟩])
theorem f54_14 : gm_ft 54 14 = some (.aload 4, 2) := by decide +kernel
theorem r54_14 {E : Nat → Value} {d : Nat} {st : List Value} {h : gm_H} {Q : gm_R → gm_H → Prop} {a0 a1 a2 a3 : Value} {x : Nat} : gm_W E d 54 14 [a0, a1, a2, a3, .ref x] st h Q ↔ gm_W E d 54 16 [a0, a1, a2, a3, .ref x] (.ref x :: st) h Q := gw_loc m54 f54_14 rfl rfl
theorem r54_14n {E : Nat → Value} {d : Nat} {st : List Value} {h : gm_H} {Q : gm_R → gm_H → Prop} {a0 a1 a2 a3 : Value}  : gm_W E d 54 14 [a0, a1, a2, a3, .null] st h Q ↔ gm_W E d 54 16 [a0, a1, a2, a3, .null] (.null :: st) h Q := gw_loc m54 f54_14 rfl rfl
theorem f54_16 : gm_ft 54 16 = some (.getfield 54, 3) := by decide +kernel
theorem r54_16 {E : Nat → Value} {d : Nat} {st : List Value} {h : gm_H} {Q : gm_R → gm_H → Prop} {lv : List Value} {a : Nat} (hk : gm_kd h a = 3) : gm_W E d 54 16 lv (.ref a :: st) h Q ↔ gm_W E d 54 19 lv (gm_fv h a 1 :: st) h Q := gw_rd m54 f54_16 rfl rfl rfl rfl (gs_get k0_54 hk (by decide))
theorem f54_19 : gm_ft 54 19 = some (.iconst 3, 1) := by decide +kernel
theorem r54_19 {E : Nat → Value} {d : Nat} {st : List Value} {h : gm_H} {Q : gm_R → gm_H → Prop} {lv : List Value} : gm_W E d 54 19 lv st h Q ↔ gm_W E d 54 20 lv (.int (3 : Int32) :: st) h Q := gw_pure m54 f54_19 rfl
theorem f54_20 : gm_ft 54 20 = some (.if_icmp .eq 11, 3) := by decide +kernel
theorem r54_20 {E : Nat → Value} {d : Nat} {st : List Value} {h : gm_H} {Q : gm_R → gm_H → Prop} {lv : List Value} {x y : Int32} : gm_W E d 54 20 lv (.int y :: .int x :: st) h Q ↔ (if x = y then gm_W E d 54 31 lv st h Q else gm_W E d 54 23 lv st h Q) := (gw_br m54 f54_20 rfl rfl rfl rfl).trans gw_if
theorem f54_23 : gm_ft 54 23 = some (.aload 4, 2) := by decide +kernel
theorem r54_23 {E : Nat → Value} {d : Nat} {st : List Value} {h : gm_H} {Q : gm_R → gm_H → Prop} {a0 a1 a2 a3 : Value} {x : Nat} : gm_W E d 54 23 [a0, a1, a2, a3, .ref x] st h Q ↔ gm_W E d 54 25 [a0, a1, a2, a3, .ref x] (.ref x :: st) h Q := gw_loc m54 f54_23 rfl rfl
theorem r54_23n {E : Nat → Value} {d : Nat} {st : List Value} {h : gm_H} {Q : gm_R → gm_H → Prop} {a0 a1 a2 a3 : Value}  : gm_W E d 54 23 [a0, a1, a2, a3, .null] st h Q ↔ gm_W E d 54 25 [a0, a1, a2, a3, .null] (.null :: st) h Q := gw_loc m54 f54_23 rfl rfl
theorem f54_25 : gm_ft 54 25 = some (.iload_n 3, 1) := by decide +kernel
theorem r54_25 {E : Nat → Value} {d : Nat} {st : List Value} {h : gm_H} {Q : gm_R → gm_H → Prop} {a0 a1 a2 a4 : Value} {x : Int32} : gm_W E d 54 25 [a0, a1, a2, .int x, a4] st h Q ↔ gm_W E d 54 26 [a0, a1, a2, .int x, a4] (.int x :: st) h Q := gw_loc m54 f54_25 rfl rfl
theorem f54_26 : gm_ft 54 26 = some (.putfield 86, 3) := by decide +kernel
theorem r54_26 {E : Nat → Value} {d : Nat} {st : List Value} {h : gm_H} {Q : gm_R → gm_H → Prop} {lv : List Value} {a : Nat} {x : Int32} (hx : x = 0 ∨ x = 1) (hk : gm_kd h a = 3) : gm_W E d 54 26 lv (.int x :: .ref a :: st) h Q ↔ gm_W E d 54 29 lv st (gm_sf h a 7 (.int x)) Q := gw_wr m54 f54_26 rfl rfl rfl rfl rfl (gs_put k0_86 hk (by decide) (by decide) (gs_nb hx) (by decide))
theorem f54_29 : gm_ft 54 29 = some (.iconst 0, 1) := by decide +kernel
theorem r54_29 {E : Nat → Value} {d : Nat} {st : List Value} {h : gm_H} {Q : gm_R → gm_H → Prop} {lv : List Value} : gm_W E d 54 29 lv st h Q ↔ gm_W E d 54 30 lv (.int (0 : Int32) :: st) h Q := gw_pure m54 f54_29 rfl
theorem f54_30 : gm_ft 54 30 = some (.ireturn, 1) := by decide +kernel
theorem r54_30 {E : Nat → Value} {d : Nat} {h : gm_H} {Q : gm_R → gm_H → Prop} {lv : List Value} {x : Int32} : gm_W E d 54 30 lv [.int x] h Q ↔ Q (.inl (some (.int x))) h := gw_ret m54 f54_30 rfl rfl rfl rfl rfl rfl rfl rfl (by unfold gm_rt; dsimp only; rw [if_pos ⟨rfl, rfl⟩])
theorem f54_31 : gm_ft 54 31 = some (.iload_n 2, 1) := by decide +kernel
theorem r54_31 {E : Nat → Value} {d : Nat} {st : List Value} {h : gm_H} {Q : gm_R → gm_H → Prop} {a0 a1 a3 a4 : Value} {x : Int32} : gm_W E d 54 31 [a0, a1, .int x, a3, a4] st h Q ↔ gm_W E d 54 32 [a0, a1, .int x, a3, a4] (.int x :: st) h Q := gw_loc m54 f54_31 rfl rfl
theorem f54_32 : gm_ft 54 32 = some (.invokestatic 68, 3) := by decide +kernel
theorem c54_32 {E : Nat → Value} {d : Nat} {st : List Value} {h : gm_H} {Q : gm_R → gm_H → Prop} {lv : List Value} {b0 : Int32} {Qc : gm_R → gm_H → Prop} (hs : (st.map fun v => v.category).sum ≤ 8) (hd : 1 ≤ d) (hc : gm_Ca E (d - 1) 62 [.int b0] h Qc) (kn : ∀ (v9 : Option Value) (h9 : gm_H), Qc (.inl v9) h9 → gm_W E d 54 35 lv (v9.toList ++ st) h9 Q) (kx : ∀ (x9 : Nat) (h9 : gm_H), Qc (.inr x9) h9 → Q (.inr x9) h9) : gm_W E d 54 32 lv (.int b0 :: st) h Q := gw_call (gn_call m54 f54_32 rfl rfl rfl rfl rfl rfl rfl (gc_stat (bs := [.int b0]) (w := 157) (L := 1) rfl rfl rfl hs (by simp [gm_en1])) (by decide)) m54 rfl rfl hd hc kn kx
theorem f54_35 : gm_ft 54 35 = some (.ifCond .ne 5, 3) := by decide +kernel
theorem r54_35 {E : Nat → Value} {d : Nat} {st : List Value} {h : gm_H} {Q : gm_R → gm_H → Prop} {lv : List Value} {x : Int32} : gm_W E d 54 35 lv (.int x :: st) h Q ↔ (if x = 0 then gm_W E d 54 38 lv st h Q else gm_W E d 54 40 lv st h Q) := (gw_br m54 f54_35 rfl rfl rfl rfl).trans gw_ifn
theorem f54_38 : gm_ft 54 38 = some (.iconst (-1), 1) := by decide +kernel
theorem r54_38 {E : Nat → Value} {d : Nat} {st : List Value} {h : gm_H} {Q : gm_R → gm_H → Prop} {lv : List Value} : gm_W E d 54 38 lv st h Q ↔ gm_W E d 54 39 lv (.int (-1 : Int32) :: st) h Q := gw_pure m54 f54_38 rfl
theorem f54_39 : gm_ft 54 39 = some (.ireturn, 1) := by decide +kernel
theorem r54_39 {E : Nat → Value} {d : Nat} {h : gm_H} {Q : gm_R → gm_H → Prop} {lv : List Value} {x : Int32} : gm_W E d 54 39 lv [.int x] h Q ↔ Q (.inl (some (.int x))) h := gw_ret m54 f54_39 rfl rfl rfl rfl rfl rfl rfl rfl (by unfold gm_rt; dsimp only; rw [if_pos ⟨rfl, rfl⟩])
theorem f54_40 : gm_ft 54 40 = some (.aload 4, 2) := by decide +kernel
theorem r54_40 {E : Nat → Value} {d : Nat} {st : List Value} {h : gm_H} {Q : gm_R → gm_H → Prop} {a0 a1 a2 a3 : Value} {x : Nat} : gm_W E d 54 40 [a0, a1, a2, a3, .ref x] st h Q ↔ gm_W E d 54 42 [a0, a1, a2, a3, .ref x] (.ref x :: st) h Q := gw_loc m54 f54_40 rfl rfl
theorem r54_40n {E : Nat → Value} {d : Nat} {st : List Value} {h : gm_H} {Q : gm_R → gm_H → Prop} {a0 a1 a2 a3 : Value}  : gm_W E d 54 40 [a0, a1, a2, a3, .null] st h Q ↔ gm_W E d 54 42 [a0, a1, a2, a3, .null] (.null :: st) h Q := gw_loc m54 f54_40 rfl rfl
theorem f54_42 : gm_ft 54 42 = some (.dup, 1) := by decide +kernel
theorem r54_42 {E : Nat → Value} {d : Nat} {st : List Value} {h : gm_H} {Q : gm_R → gm_H → Prop} {lv : List Value} {a : Nat} : gm_W E d 54 42 lv (.ref a :: st) h Q ↔ gm_W E d 54 43 lv (.ref a :: .ref a :: st) h Q := gw_pure m54 f54_42 rfl
theorem r54_42i {E : Nat → Value} {d : Nat} {st : List Value} {h : gm_H} {Q : gm_R → gm_H → Prop} {lv : List Value} {x : Int32} : gm_W E d 54 42 lv (.int x :: st) h Q ↔ gm_W E d 54 43 lv (.int x :: .int x :: st) h Q := gw_pure m54 f54_42 rfl
theorem f54_43 : gm_ft 54 43 = some (.getfield 90, 3) := by decide +kernel
theorem r54_43 {E : Nat → Value} {d : Nat} {st : List Value} {h : gm_H} {Q : gm_R → gm_H → Prop} {lv : List Value} {a : Nat} (hk : gm_kd h a = 3) : gm_W E d 54 43 lv (.ref a :: st) h Q ↔ gm_W E d 54 46 lv (gm_fv h a 8 :: st) h Q := gw_rd m54 f54_43 rfl rfl rfl rfl (gs_get k0_90 hk (by decide))
theorem f54_46 : gm_ft 54 46 = some (.iconst 1, 1) := by decide +kernel
theorem r54_46 {E : Nat → Value} {d : Nat} {st : List Value} {h : gm_H} {Q : gm_R → gm_H → Prop} {lv : List Value} : gm_W E d 54 46 lv st h Q ↔ gm_W E d 54 47 lv (.int (1 : Int32) :: st) h Q := gw_pure m54 f54_46 rfl
theorem f54_47 : gm_ft 54 47 = some (.iload_n 2, 1) := by decide +kernel
theorem r54_47 {E : Nat → Value} {d : Nat} {st : List Value} {h : gm_H} {Q : gm_R → gm_H → Prop} {a0 a1 a3 a4 : Value} {x : Int32} : gm_W E d 54 47 [a0, a1, .int x, a3, a4] st h Q ↔ gm_W E d 54 48 [a0, a1, .int x, a3, a4] (.int x :: st) h Q := gw_loc m54 f54_47 rfl rfl
theorem f54_48 : gm_ft 54 48 = some (.ishl, 1) := by decide +kernel
theorem r54_48 {E : Nat → Value} {d : Nat} {st : List Value} {h : gm_H} {Q : gm_R → gm_H → Prop} {lv : List Value} {x y : Int32} : gm_W E d 54 48 lv (.int y :: .int x :: st) h Q ↔ gm_W E d 54 49 lv (.int (x <<< (y &&& 31)) :: st) h Q := gw_pure m54 f54_48 rfl
theorem f54_49 : gm_ft 54 49 = some (.ior, 1) := by decide +kernel
theorem r54_49 {E : Nat → Value} {d : Nat} {st : List Value} {h : gm_H} {Q : gm_R → gm_H → Prop} {lv : List Value} {x y : Int32} : gm_W E d 54 49 lv (.int y :: .int x :: st) h Q ↔ gm_W E d 54 50 lv (.int (x ||| y) :: st) h Q := gw_pure m54 f54_49 rfl
theorem f54_50 : gm_ft 54 50 = some (.putfield 90, 3) := by decide +kernel
theorem r54_50 {E : Nat → Value} {d : Nat} {st : List Value} {h : gm_H} {Q : gm_R → gm_H → Prop} {lv : List Value} {a : Nat} {x : Int32} (hk : gm_kd h a = 3) : gm_W E d 54 50 lv (.int x :: .ref a :: st) h Q ↔ gm_W E d 54 53 lv st (gm_sf h a 8 (.int x)) Q := gw_wr m54 f54_50 rfl rfl rfl rfl rfl (gs_put k0_90 hk (by decide) (by decide) ⟨rfl, rfl⟩ (by decide))
theorem f54_53 : gm_ft 54 53 = some (.iconst 0, 1) := by decide +kernel
theorem r54_53 {E : Nat → Value} {d : Nat} {st : List Value} {h : gm_H} {Q : gm_R → gm_H → Prop} {lv : List Value} : gm_W E d 54 53 lv st h Q ↔ gm_W E d 54 54 lv (.int (0 : Int32) :: st) h Q := gw_pure m54 f54_53 rfl
theorem f54_54 : gm_ft 54 54 = some (.ireturn, 1) := by decide +kernel
theorem r54_54 {E : Nat → Value} {d : Nat} {h : gm_H} {Q : gm_R → gm_H → Prop} {lv : List Value} {x : Int32} : gm_W E d 54 54 lv [.int x] h Q ↔ Q (.inl (some (.int x))) h := gw_ret m54 f54_54 rfl rfl rfl rfl rfl rfl rfl rfl (by unfold gm_rt; dsimp only; rw [if_pos ⟨rfl, rfl⟩])
/-! GraphReader.put(JI)I -/
theorem m55 : gm_mt[55]? = some (⟨"GraphReader", "put", "(JI)I"⟩, prog_1_method_5_code, 5, (some .int), [], 0, 1) := rfl
theorem f55_0 : gm_ft 55 0 = some (.iload_n 3, 1) := by decide +kernel
theorem r55_0 {E : Nat → Value} {d : Nat} {st : List Value} {h : gm_H} {Q : gm_R → gm_H → Prop} {a0 a1 a2 a4 : Value} {x : Int32} : gm_W E d 55 0 [a0, a1, a2, .int x, a4] st h Q ↔ gm_W E d 55 1 [a0, a1, a2, .int x, a4] (.int x :: st) h Q := gw_loc m55 f55_0 rfl rfl
theorem f55_1 : gm_ft 55 1 = some (.iconst 1, 1) := by decide +kernel
theorem r55_1 {E : Nat → Value} {d : Nat} {st : List Value} {h : gm_H} {Q : gm_R → gm_H → Prop} {lv : List Value} : gm_W E d 55 1 lv st h Q ↔ gm_W E d 55 2 lv (.int (1 : Int32) :: st) h Q := gw_pure m55 f55_1 rfl
theorem f55_2 : gm_ft 55 2 = some (.if_icmp .lt 21, 3) := by decide +kernel
theorem r55_2 {E : Nat → Value} {d : Nat} {st : List Value} {h : gm_H} {Q : gm_R → gm_H → Prop} {lv : List Value} {x y : Int32} : gm_W E d 55 2 lv (.int y :: .int x :: st) h Q ↔ (if x < y then gm_W E d 55 23 lv st h Q else gm_W E d 55 5 lv st h Q) := (gw_br m55 f55_2 rfl rfl rfl rfl).trans gw_if
theorem f55_5 : gm_ft 55 5 = some (.iload_n 3, 1) := by decide +kernel
theorem r55_5 {E : Nat → Value} {d : Nat} {st : List Value} {h : gm_H} {Q : gm_R → gm_H → Prop} {a0 a1 a2 a4 : Value} {x : Int32} : gm_W E d 55 5 [a0, a1, a2, .int x, a4] st h Q ↔ gm_W E d 55 6 [a0, a1, a2, .int x, a4] (.int x :: st) h Q := gw_loc m55 f55_5 rfl rfl
theorem f55_6 : gm_ft 55 6 = some (.bipush 8, 2) := by decide +kernel
theorem r55_6 {E : Nat → Value} {d : Nat} {st : List Value} {h : gm_H} {Q : gm_R → gm_H → Prop} {lv : List Value} : gm_W E d 55 6 lv st h Q ↔ gm_W E d 55 8 lv (.int (8 : Int32) :: st) h Q := gw_pure m55 f55_6 rfl
theorem f55_8 : gm_ft 55 8 = some (.if_icmp .gt 15, 3) := by decide +kernel
theorem r55_8 {E : Nat → Value} {d : Nat} {st : List Value} {h : gm_H} {Q : gm_R → gm_H → Prop} {lv : List Value} {x y : Int32} : gm_W E d 55 8 lv (.int y :: .int x :: st) h Q ↔ (if y < x then gm_W E d 55 23 lv st h Q else gm_W E d 55 11 lv st h Q) := (gw_br m55 f55_8 rfl rfl rfl rfl).trans gw_if
theorem f55_11 : gm_ft 55 11 = some (.aload_n 0, 1) := by decide +kernel
theorem r55_11 {E : Nat → Value} {d : Nat} {st : List Value} {h : gm_H} {Q : gm_R → gm_H → Prop} {a1 a2 a3 a4 : Value} {x : Nat} : gm_W E d 55 11 [.ref x, a1, a2, a3, a4] st h Q ↔ gm_W E d 55 12 [.ref x, a1, a2, a3, a4] (.ref x :: st) h Q := gw_loc m55 f55_11 rfl rfl
theorem r55_11n {E : Nat → Value} {d : Nat} {st : List Value} {h : gm_H} {Q : gm_R → gm_H → Prop} {a1 a2 a3 a4 : Value}  : gm_W E d 55 11 [.null, a1, a2, a3, a4] st h Q ↔ gm_W E d 55 12 [.null, a1, a2, a3, a4] (.null :: st) h Q := gw_loc m55 f55_11 rfl rfl
theorem f55_12 : gm_ft 55 12 = some (.getfield 93, 3) := by decide +kernel
theorem r55_12 {E : Nat → Value} {d : Nat} {st : List Value} {h : gm_H} {Q : gm_R → gm_H → Prop} {lv : List Value} {a : Nat} (hk : gm_kd h a = 0) : gm_W E d 55 12 lv (.ref a :: st) h Q ↔ gm_W E d 55 15 lv (gm_fv h a 6 :: st) h Q := gw_rd m55 f55_12 rfl rfl rfl rfl (gs_get k0_93 hk (by decide))
theorem f55_15 : gm_ft 55 15 = some (.iload_n 3, 1) := by decide +kernel
theorem r55_15 {E : Nat → Value} {d : Nat} {st : List Value} {h : gm_H} {Q : gm_R → gm_H → Prop} {a0 a1 a2 a4 : Value} {x : Int32} : gm_W E d 55 15 [a0, a1, a2, .int x, a4] st h Q ↔ gm_W E d 55 16 [a0, a1, a2, .int x, a4] (.int x :: st) h Q := gw_loc m55 f55_15 rfl rfl
theorem f55_16 : gm_ft 55 16 = some (.iadd, 1) := by decide +kernel
theorem r55_16 {E : Nat → Value} {d : Nat} {st : List Value} {h : gm_H} {Q : gm_R → gm_H → Prop} {lv : List Value} {x y : Int32} : gm_W E d 55 16 lv (.int y :: .int x :: st) h Q ↔ gm_W E d 55 17 lv (.int (x + y) :: st) h Q := gw_pure m55 f55_16 rfl
theorem f55_17 : gm_ft 55 17 = some (.sipush 700, 3) := by decide +kernel
theorem r55_17 {E : Nat → Value} {d : Nat} {st : List Value} {h : gm_H} {Q : gm_R → gm_H → Prop} {lv : List Value} : gm_W E d 55 17 lv st h Q ↔ gm_W E d 55 20 lv (.int (700 : Int32) :: st) h Q := gw_pure m55 f55_17 rfl
theorem f55_20 : gm_ft 55 20 = some (.if_icmp .le 5, 3) := by decide +kernel
theorem r55_20 {E : Nat → Value} {d : Nat} {st : List Value} {h : gm_H} {Q : gm_R → gm_H → Prop} {lv : List Value} {x y : Int32} : gm_W E d 55 20 lv (.int y :: .int x :: st) h Q ↔ (if x ≤ y then gm_W E d 55 25 lv st h Q else gm_W E d 55 23 lv st h Q) := (gw_br m55 f55_20 rfl rfl rfl rfl).trans gw_if
theorem f55_23 : gm_ft 55 23 = some (.iconst (-1), 1) := by decide +kernel
theorem r55_23 {E : Nat → Value} {d : Nat} {st : List Value} {h : gm_H} {Q : gm_R → gm_H → Prop} {lv : List Value} : gm_W E d 55 23 lv st h Q ↔ gm_W E d 55 24 lv (.int (-1 : Int32) :: st) h Q := gw_pure m55 f55_23 rfl
theorem f55_24 : gm_ft 55 24 = some (.ireturn, 1) := by decide +kernel
theorem r55_24 {E : Nat → Value} {d : Nat} {h : gm_H} {Q : gm_R → gm_H → Prop} {lv : List Value} {x : Int32} : gm_W E d 55 24 lv [.int x] h Q ↔ Q (.inl (some (.int x))) h := gw_ret m55 f55_24 rfl rfl rfl rfl rfl rfl rfl rfl (by unfold gm_rt; dsimp only; rw [if_pos ⟨rfl, rfl⟩])
theorem f55_25 : gm_ft 55 25 = some (.iload_n 3, 1) := by decide +kernel
theorem r55_25 {E : Nat → Value} {d : Nat} {st : List Value} {h : gm_H} {Q : gm_R → gm_H → Prop} {a0 a1 a2 a4 : Value} {x : Int32} : gm_W E d 55 25 [a0, a1, a2, .int x, a4] st h Q ↔ gm_W E d 55 26 [a0, a1, a2, .int x, a4] (.int x :: st) h Q := gw_loc m55 f55_25 rfl rfl
theorem f55_26 : gm_ft 55 26 = some (.iconst 1, 1) := by decide +kernel
theorem r55_26 {E : Nat → Value} {d : Nat} {st : List Value} {h : gm_H} {Q : gm_R → gm_H → Prop} {lv : List Value} : gm_W E d 55 26 lv st h Q ↔ gm_W E d 55 27 lv (.int (1 : Int32) :: st) h Q := gw_pure m55 f55_26 rfl
theorem f55_27 : gm_ft 55 27 = some (.isub, 1) := by decide +kernel
theorem r55_27 {E : Nat → Value} {d : Nat} {st : List Value} {h : gm_H} {Q : gm_R → gm_H → Prop} {lv : List Value} {x y : Int32} : gm_W E d 55 27 lv (.int y :: .int x :: st) h Q ↔ gm_W E d 55 28 lv (.int (x - y) :: st) h Q := gw_pure m55 f55_27 rfl
theorem f55_28 : gm_ft 55 28 = some (.istore 4, 2) := by decide +kernel
theorem r55_28 {E : Nat → Value} {d : Nat} {st : List Value} {h : gm_H} {Q : gm_R → gm_H → Prop} {a0 a1 a2 a3 a4 : Value} {x : Int32} : gm_W E d 55 28 [a0, a1, a2, a3, a4] (.int x :: st) h Q ↔ gm_W E d 55 30 [a0, a1, a2, gm_k a3, .int x] st h Q := gw_loc m55 f55_28 rfl rfl
theorem f55_30 : gm_ft 55 30 = some (.iload 4, 2) := by decide +kernel
theorem r55_30 {E : Nat → Value} {d : Nat} {st : List Value} {h : gm_H} {Q : gm_R → gm_H → Prop} {a0 a1 a2 a3 : Value} {x : Int32} : gm_W E d 55 30 [a0, a1, a2, a3, .int x] st h Q ↔ gm_W E d 55 32 [a0, a1, a2, a3, .int x] (.int x :: st) h Q := gw_loc m55 f55_30 rfl rfl
theorem f55_32 : gm_ft 55 32 = some (.ifCond .lt 37, 3) := by decide +kernel
theorem r55_32 {E : Nat → Value} {d : Nat} {st : List Value} {h : gm_H} {Q : gm_R → gm_H → Prop} {lv : List Value} {x : Int32} : gm_W E d 55 32 lv (.int x :: st) h Q ↔ (if x < 0 then gm_W E d 55 69 lv st h Q else gm_W E d 55 35 lv st h Q) := (gw_br m55 f55_32 rfl rfl rfl rfl).trans gw_if
theorem f55_35 : gm_ft 55 35 = some (.aload_n 0, 1) := by decide +kernel
theorem r55_35 {E : Nat → Value} {d : Nat} {st : List Value} {h : gm_H} {Q : gm_R → gm_H → Prop} {a1 a2 a3 a4 : Value} {x : Nat} : gm_W E d 55 35 [.ref x, a1, a2, a3, a4] st h Q ↔ gm_W E d 55 36 [.ref x, a1, a2, a3, a4] (.ref x :: st) h Q := gw_loc m55 f55_35 rfl rfl
theorem r55_35n {E : Nat → Value} {d : Nat} {st : List Value} {h : gm_H} {Q : gm_R → gm_H → Prop} {a1 a2 a3 a4 : Value}  : gm_W E d 55 35 [.null, a1, a2, a3, a4] st h Q ↔ gm_W E d 55 36 [.null, a1, a2, a3, a4] (.null :: st) h Q := gw_loc m55 f55_35 rfl rfl
theorem f55_36 : gm_ft 55 36 = some (.getfield 15, 3) := by decide +kernel
theorem r55_36 {E : Nat → Value} {d : Nat} {st : List Value} {h : gm_H} {Q : gm_R → gm_H → Prop} {lv : List Value} {a : Nat} (hk : gm_kd h a = 0) : gm_W E d 55 36 lv (.ref a :: st) h Q ↔ gm_W E d 55 39 lv (gm_fv h a 5 :: st) h Q := gw_rd m55 f55_36 rfl rfl rfl rfl (gs_get k0_15 hk (by decide))
theorem f55_39 : gm_ft 55 39 = some (.aload_n 0, 1) := by decide +kernel
theorem r55_39 {E : Nat → Value} {d : Nat} {st : List Value} {h : gm_H} {Q : gm_R → gm_H → Prop} {a1 a2 a3 a4 : Value} {x : Nat} : gm_W E d 55 39 [.ref x, a1, a2, a3, a4] st h Q ↔ gm_W E d 55 40 [.ref x, a1, a2, a3, a4] (.ref x :: st) h Q := gw_loc m55 f55_39 rfl rfl
theorem r55_39n {E : Nat → Value} {d : Nat} {st : List Value} {h : gm_H} {Q : gm_R → gm_H → Prop} {a1 a2 a3 a4 : Value}  : gm_W E d 55 39 [.null, a1, a2, a3, a4] st h Q ↔ gm_W E d 55 40 [.null, a1, a2, a3, a4] (.null :: st) h Q := gw_loc m55 f55_39 rfl rfl
theorem f55_40 : gm_ft 55 40 = some (.getfield 93, 3) := by decide +kernel
theorem r55_40 {E : Nat → Value} {d : Nat} {st : List Value} {h : gm_H} {Q : gm_R → gm_H → Prop} {lv : List Value} {a : Nat} (hk : gm_kd h a = 0) : gm_W E d 55 40 lv (.ref a :: st) h Q ↔ gm_W E d 55 43 lv (gm_fv h a 6 :: st) h Q := gw_rd m55 f55_40 rfl rfl rfl rfl (gs_get k0_93 hk (by decide))
theorem f55_43 : gm_ft 55 43 = some (.lload_n 1, 1) := by decide +kernel
theorem r55_43 {E : Nat → Value} {d : Nat} {st : List Value} {h : gm_H} {Q : gm_R → gm_H → Prop} {a0 a2 a3 a4 : Value} {x : Int64} : gm_W E d 55 43 [a0, .long x, a2, a3, a4] st h Q ↔ gm_W E d 55 44 [a0, .long x, a2, a3, a4] (.long x :: st) h Q := gw_loc m55 f55_43 rfl rfl
theorem f55_44 : gm_ft 55 44 = some (.bipush 8, 2) := by decide +kernel
theorem r55_44 {E : Nat → Value} {d : Nat} {st : List Value} {h : gm_H} {Q : gm_R → gm_H → Prop} {lv : List Value} : gm_W E d 55 44 lv st h Q ↔ gm_W E d 55 46 lv (.int (8 : Int32) :: st) h Q := gw_pure m55 f55_44 rfl
theorem f55_46 : gm_ft 55 46 = some (.iload 4, 2) := by decide +kernel
theorem r55_46 {E : Nat → Value} {d : Nat} {st : List Value} {h : gm_H} {Q : gm_R → gm_H → Prop} {a0 a1 a2 a3 : Value} {x : Int32} : gm_W E d 55 46 [a0, a1, a2, a3, .int x] st h Q ↔ gm_W E d 55 48 [a0, a1, a2, a3, .int x] (.int x :: st) h Q := gw_loc m55 f55_46 rfl rfl
theorem f55_48 : gm_ft 55 48 = some (.imul, 1) := by decide +kernel
theorem r55_48 {E : Nat → Value} {d : Nat} {st : List Value} {h : gm_H} {Q : gm_R → gm_H → Prop} {lv : List Value} {x y : Int32} : gm_W E d 55 48 lv (.int y :: .int x :: st) h Q ↔ gm_W E d 55 49 lv (.int (x * y) :: st) h Q := gw_pure m55 f55_48 rfl
theorem f55_49 : gm_ft 55 49 = some (.lushr, 1) := by decide +kernel
theorem r55_49 {E : Nat → Value} {d : Nat} {st : List Value} {h : gm_H} {Q : gm_R → gm_H → Prop} {lv : List Value} {x : Int64} {y : Int32} : gm_W E d 55 49 lv (.int y :: .long x :: st) h Q ↔ gm_W E d 55 50 lv (.long ((x.toUInt64 >>> (y.toInt64.toUInt64 &&& Int64.toUInt64 63)).toInt64) :: st) h Q := gw_pure m55 f55_49 rfl
theorem f55_50 : gm_ft 55 50 = some (.l2i, 1) := by decide +kernel
theorem r55_50 {E : Nat → Value} {d : Nat} {st : List Value} {h : gm_H} {Q : gm_R → gm_H → Prop} {lv : List Value} {x : Int64} : gm_W E d 55 50 lv (.long x :: st) h Q ↔ gm_W E d 55 51 lv (.int (x.toInt32) :: st) h Q := gw_pure m55 f55_50 rfl
theorem f55_51 : gm_ft 55 51 = some (.i2b, 1) := by decide +kernel
theorem r55_51 {E : Nat → Value} {d : Nat} {st : List Value} {h : gm_H} {Q : gm_R → gm_H → Prop} {lv : List Value} {x : Int32} : gm_W E d 55 51 lv (.int x :: st) h Q ↔ gm_W E d 55 52 lv (.int (x.toInt8.toInt32) :: st) h Q := gw_pure m55 f55_51 rfl
theorem f55_52 : gm_ft 55 52 = some (.bastore, 1) := by decide +kernel
theorem r55_52 {E : Nat → Value} {d : Nat} {st : List Value} {h : gm_H} {Q : gm_R → gm_H → Prop} {lv : List Value} {a j : Nat} {x : Int32} (hk : gm_kd h a = 102) (hj : j < gm_ln h a) (hl : gm_ln h a < 2 ^ 31) : gm_W E d 55 52 lv (.int x :: .int (nI j) :: .ref a :: st) h Q ↔ gm_W E d 55 53 lv st (gm_sf h a j (.int x.toInt8.toInt32)) Q := gw_wr m55 f55_52 rfl rfl rfl rfl rfl (gs_bst hk (by decide) hj hl)
theorem r55_52z {E : Nat → Value} {d : Nat} {st : List Value} {h : gm_H} {Q : gm_R → gm_H → Prop} {lv : List Value} {a j : Nat} {x : Int32} (hk : gm_kd h a = 103) (hj : j < gm_ln h a) (hl : gm_ln h a < 2 ^ 31) : gm_W E d 55 52 lv (.int x :: .int (nI j) :: .ref a :: st) h Q ↔ gm_W E d 55 53 lv st (gm_sf h a j (.int (x &&& 1))) Q := gw_wr m55 f55_52 rfl rfl rfl rfl rfl (gs_zst hk (by decide) hj hl)
theorem f55_53 : gm_ft 55 53 = some (.aload_n 0, 1) := by decide +kernel
theorem r55_53 {E : Nat → Value} {d : Nat} {st : List Value} {h : gm_H} {Q : gm_R → gm_H → Prop} {a1 a2 a3 a4 : Value} {x : Nat} : gm_W E d 55 53 [.ref x, a1, a2, a3, a4] st h Q ↔ gm_W E d 55 54 [.ref x, a1, a2, a3, a4] (.ref x :: st) h Q := gw_loc m55 f55_53 rfl rfl
theorem r55_53n {E : Nat → Value} {d : Nat} {st : List Value} {h : gm_H} {Q : gm_R → gm_H → Prop} {a1 a2 a3 a4 : Value}  : gm_W E d 55 53 [.null, a1, a2, a3, a4] st h Q ↔ gm_W E d 55 54 [.null, a1, a2, a3, a4] (.null :: st) h Q := gw_loc m55 f55_53 rfl rfl
theorem f55_54 : gm_ft 55 54 = some (.dup, 1) := by decide +kernel
theorem r55_54 {E : Nat → Value} {d : Nat} {st : List Value} {h : gm_H} {Q : gm_R → gm_H → Prop} {lv : List Value} {a : Nat} : gm_W E d 55 54 lv (.ref a :: st) h Q ↔ gm_W E d 55 55 lv (.ref a :: .ref a :: st) h Q := gw_pure m55 f55_54 rfl
theorem r55_54i {E : Nat → Value} {d : Nat} {st : List Value} {h : gm_H} {Q : gm_R → gm_H → Prop} {lv : List Value} {x : Int32} : gm_W E d 55 54 lv (.int x :: st) h Q ↔ gm_W E d 55 55 lv (.int x :: .int x :: st) h Q := gw_pure m55 f55_54 rfl
theorem f55_55 : gm_ft 55 55 = some (.getfield 93, 3) := by decide +kernel
theorem r55_55 {E : Nat → Value} {d : Nat} {st : List Value} {h : gm_H} {Q : gm_R → gm_H → Prop} {lv : List Value} {a : Nat} (hk : gm_kd h a = 0) : gm_W E d 55 55 lv (.ref a :: st) h Q ↔ gm_W E d 55 58 lv (gm_fv h a 6 :: st) h Q := gw_rd m55 f55_55 rfl rfl rfl rfl (gs_get k0_93 hk (by decide))
theorem f55_58 : gm_ft 55 58 = some (.iconst 1, 1) := by decide +kernel
theorem r55_58 {E : Nat → Value} {d : Nat} {st : List Value} {h : gm_H} {Q : gm_R → gm_H → Prop} {lv : List Value} : gm_W E d 55 58 lv st h Q ↔ gm_W E d 55 59 lv (.int (1 : Int32) :: st) h Q := gw_pure m55 f55_58 rfl
theorem f55_59 : gm_ft 55 59 = some (.iadd, 1) := by decide +kernel
theorem r55_59 {E : Nat → Value} {d : Nat} {st : List Value} {h : gm_H} {Q : gm_R → gm_H → Prop} {lv : List Value} {x y : Int32} : gm_W E d 55 59 lv (.int y :: .int x :: st) h Q ↔ gm_W E d 55 60 lv (.int (x + y) :: st) h Q := gw_pure m55 f55_59 rfl
theorem f55_60 : gm_ft 55 60 = some (.putfield 93, 3) := by decide +kernel
theorem r55_60 {E : Nat → Value} {d : Nat} {st : List Value} {h : gm_H} {Q : gm_R → gm_H → Prop} {lv : List Value} {a : Nat} {x : Int32} (hk : gm_kd h a = 0) : gm_W E d 55 60 lv (.int x :: .ref a :: st) h Q ↔ gm_W E d 55 63 lv st (gm_sf h a 6 (.int x)) Q := gw_wr m55 f55_60 rfl rfl rfl rfl rfl (gs_put k0_93 hk (by decide) (by decide) ⟨rfl, rfl⟩ (by decide))
theorem f55_63 : gm_ft 55 63 = some (.iinc 4 (-1), 3) := by decide +kernel
theorem r55_63 {E : Nat → Value} {d : Nat} {st : List Value} {h : gm_H} {Q : gm_R → gm_H → Prop} {a0 a1 a2 a3 : Value} {x : Int32} : gm_W E d 55 63 [a0, a1, a2, a3, .int x] st h Q ↔ gm_W E d 55 66 [a0, a1, a2, gm_k a3, .int (x + (-1 : Int32))] st h Q := gw_loc m55 f55_63 rfl rfl
theorem f55_66 : gm_ft 55 66 = some (.goto (-36), 3) := by decide +kernel
theorem r55_66 {E : Nat → Value} {d : Nat} {st : List Value} {h : gm_H} {Q : gm_R → gm_H → Prop} {lv : List Value} : gm_W E d 55 66 lv st h Q ↔ gm_W E d 55 30 lv st h Q := gw_brT m55 f55_66 rfl rfl rfl rfl
theorem f55_69 : gm_ft 55 69 = some (.aload_n 0, 1) := by decide +kernel
theorem r55_69 {E : Nat → Value} {d : Nat} {st : List Value} {h : gm_H} {Q : gm_R → gm_H → Prop} {a1 a2 a3 a4 : Value} {x : Nat} : gm_W E d 55 69 [.ref x, a1, a2, a3, a4] st h Q ↔ gm_W E d 55 70 [.ref x, a1, a2, a3, a4] (.ref x :: st) h Q := gw_loc m55 f55_69 rfl rfl
theorem r55_69n {E : Nat → Value} {d : Nat} {st : List Value} {h : gm_H} {Q : gm_R → gm_H → Prop} {a1 a2 a3 a4 : Value}  : gm_W E d 55 69 [.null, a1, a2, a3, a4] st h Q ↔ gm_W E d 55 70 [.null, a1, a2, a3, a4] (.null :: st) h Q := gw_loc m55 f55_69 rfl rfl
theorem f55_70 : gm_ft 55 70 = some (.getfield 93, 3) := by decide +kernel
theorem r55_70 {E : Nat → Value} {d : Nat} {st : List Value} {h : gm_H} {Q : gm_R → gm_H → Prop} {lv : List Value} {a : Nat} (hk : gm_kd h a = 0) : gm_W E d 55 70 lv (.ref a :: st) h Q ↔ gm_W E d 55 73 lv (gm_fv h a 6 :: st) h Q := gw_rd m55 f55_70 rfl rfl rfl rfl (gs_get k0_93 hk (by decide))
theorem f55_73 : gm_ft 55 73 = some (.ireturn, 1) := by decide +kernel
theorem r55_73 {E : Nat → Value} {d : Nat} {h : gm_H} {Q : gm_R → gm_H → Prop} {lv : List Value} {x : Int32} : gm_W E d 55 73 lv [.int x] h Q ↔ Q (.inl (some (.int x))) h := gw_ret m55 f55_73 rfl rfl rfl rfl rfl rfl rfl rfl (by unfold gm_rt; dsimp only; rw [if_pos ⟨rfl, rfl⟩])
/-! GraphReader.begin()I -/
theorem m56 : gm_mt[56]? = some (⟨"GraphReader", "begin", "()I"⟩, prog_1_method_6_code, 1, (some .int), [], 0, 1) := rfl
theorem f56_0 : gm_ft 56 0 = some (.aload_n 0, 1) := by decide +kernel
theorem r56_0 {E : Nat → Value} {d : Nat} {st : List Value} {h : gm_H} {Q : gm_R → gm_H → Prop}  {x : Nat} : gm_W E d 56 0 [.ref x] st h Q ↔ gm_W E d 56 1 [.ref x] (.ref x :: st) h Q := gw_loc m56 f56_0 rfl rfl
theorem r56_0n {E : Nat → Value} {d : Nat} {st : List Value} {h : gm_H} {Q : gm_R → gm_H → Prop}   : gm_W E d 56 0 [.null] st h Q ↔ gm_W E d 56 1 [.null] (.null :: st) h Q := gw_loc m56 f56_0 rfl rfl
theorem f56_1 : gm_ft 56 1 = some (.iconst 0, 1) := by decide +kernel
theorem r56_1 {E : Nat → Value} {d : Nat} {st : List Value} {h : gm_H} {Q : gm_R → gm_H → Prop} {lv : List Value} : gm_W E d 56 1 lv st h Q ↔ gm_W E d 56 2 lv (.int (0 : Int32) :: st) h Q := gw_pure m56 f56_1 rfl
theorem f56_2 : gm_ft 56 2 = some (.putfield 96, 3) := by decide +kernel
theorem r56_2 {E : Nat → Value} {d : Nat} {st : List Value} {h : gm_H} {Q : gm_R → gm_H → Prop} {lv : List Value} {a : Nat} {x : Int32} (hk : gm_kd h a = 0) : gm_W E d 56 2 lv (.int x :: .ref a :: st) h Q ↔ gm_W E d 56 5 lv st (gm_sf h a 7 (.int x)) Q := gw_wr m56 f56_2 rfl rfl rfl rfl rfl (gs_put k0_96 hk (by decide) (by decide) ⟨rfl, rfl⟩ (by decide))
theorem f56_5 : gm_ft 56 5 = some (.aload_n 0, 1) := by decide +kernel
theorem r56_5 {E : Nat → Value} {d : Nat} {st : List Value} {h : gm_H} {Q : gm_R → gm_H → Prop}  {x : Nat} : gm_W E d 56 5 [.ref x] st h Q ↔ gm_W E d 56 6 [.ref x] (.ref x :: st) h Q := gw_loc m56 f56_5 rfl rfl
theorem r56_5n {E : Nat → Value} {d : Nat} {st : List Value} {h : gm_H} {Q : gm_R → gm_H → Prop}   : gm_W E d 56 5 [.null] st h Q ↔ gm_W E d 56 6 [.null] (.null :: st) h Q := gw_loc m56 f56_5 rfl rfl
theorem f56_6 : gm_ft 56 6 = some (.iconst 0, 1) := by decide +kernel
theorem r56_6 {E : Nat → Value} {d : Nat} {st : List Value} {h : gm_H} {Q : gm_R → gm_H → Prop} {lv : List Value} : gm_W E d 56 6 lv st h Q ↔ gm_W E d 56 7 lv (.int (0 : Int32) :: st) h Q := gw_pure m56 f56_6 rfl
theorem f56_7 : gm_ft 56 7 = some (.putfield 72, 3) := by decide +kernel
theorem r56_7 {E : Nat → Value} {d : Nat} {st : List Value} {h : gm_H} {Q : gm_R → gm_H → Prop} {lv : List Value} {a : Nat} {x : Int32} (hk : gm_kd h a = 0) : gm_W E d 56 7 lv (.int x :: .ref a :: st) h Q ↔ gm_W E d 56 10 lv st (gm_sf h a 9 (.int x)) Q := gw_wr m56 f56_7 rfl rfl rfl rfl rfl (gs_put k0_72 hk (by decide) (by decide) ⟨rfl, rfl⟩ (by decide))
theorem f56_10 : gm_ft 56 10 = some (.aload_n 0, 1) := by decide +kernel
theorem r56_10 {E : Nat → Value} {d : Nat} {st : List Value} {h : gm_H} {Q : gm_R → gm_H → Prop}  {x : Nat} : gm_W E d 56 10 [.ref x] st h Q ↔ gm_W E d 56 11 [.ref x] (.ref x :: st) h Q := gw_loc m56 f56_10 rfl rfl
theorem r56_10n {E : Nat → Value} {d : Nat} {st : List Value} {h : gm_H} {Q : gm_R → gm_H → Prop}   : gm_W E d 56 10 [.null] st h Q ↔ gm_W E d 56 11 [.null] (.null :: st) h Q := gw_loc m56 f56_10 rfl rfl
theorem f56_11 : gm_ft 56 11 = some (.getfield 28, 3) := by decide +kernel
theorem r56_11 {E : Nat → Value} {d : Nat} {st : List Value} {h : gm_H} {Q : gm_R → gm_H → Prop} {lv : List Value} {a : Nat} (hk : gm_kd h a = 0) : gm_W E d 56 11 lv (.ref a :: st) h Q ↔ gm_W E d 56 14 lv (gm_fv h a 10 :: st) h Q := gw_rd m56 f56_11 rfl rfl rfl rfl (gs_get k0_28 hk (by decide))
theorem f56_14 : gm_ft 56 14 = some (.iconst 0, 1) := by decide +kernel
theorem r56_14 {E : Nat → Value} {d : Nat} {st : List Value} {h : gm_H} {Q : gm_R → gm_H → Prop} {lv : List Value} : gm_W E d 56 14 lv st h Q ↔ gm_W E d 56 15 lv (.int (0 : Int32) :: st) h Q := gw_pure m56 f56_14 rfl
theorem f56_15 : gm_ft 56 15 = some (.iconst 0, 1) := by decide +kernel
theorem r56_15 {E : Nat → Value} {d : Nat} {st : List Value} {h : gm_H} {Q : gm_R → gm_H → Prop} {lv : List Value} : gm_W E d 56 15 lv st h Q ↔ gm_W E d 56 16 lv (.int (0 : Int32) :: st) h Q := gw_pure m56 f56_15 rfl
theorem f56_16 : gm_ft 56 16 = some (.invokevirtual 99, 3) := by decide +kernel
theorem c56_16 {E : Nat → Value} {d : Nat} {st : List Value} {h : gm_H} {Q : gm_R → gm_H → Prop} {lv : List Value} {b0 : Int32} {b1 : Int32} {a : Nat} {Qc : gm_R → gm_H → Prop} (hs : (st.map fun v => v.category).sum ≤ 8) (hr : gm_kd h a = 2) (hd : 1 ≤ d) (hc : gm_Ca E (d - 1) 112 [.ref a, .int b0, .int b1] h Qc) (kn : ∀ (v9 : Option Value) (h9 : gm_H), Qc (.inl v9) h9 → gm_W E d 56 19 lv (v9.toList ++ st) h9 Q) (kx : ∀ (x9 : Nat) (h9 : gm_H), Qc (.inr x9) h9 → Q (.inr x9) h9) : gm_W E d 56 16 lv (.int b1 :: .int b0 :: .ref a :: st) h Q := gw_call (gn_call m56 f56_16 rfl rfl rfl rfl rfl rfl rfl (gs_virt (bs := [.int b1, .int b0]) (w := 180) (L := 3) rfl rfl rfl rfl hs (by simp [gm_en1]) hr (by decide)) (by decide)) m56 rfl rfl hd hc kn kx
theorem f56_19 : gm_ft 56 19 = some (.aload_n 0, 1) := by decide +kernel
theorem r56_19 {E : Nat → Value} {d : Nat} {st : List Value} {h : gm_H} {Q : gm_R → gm_H → Prop}  {x : Nat} : gm_W E d 56 19 [.ref x] st h Q ↔ gm_W E d 56 20 [.ref x] (.ref x :: st) h Q := gw_loc m56 f56_19 rfl rfl
theorem r56_19n {E : Nat → Value} {d : Nat} {st : List Value} {h : gm_H} {Q : gm_R → gm_H → Prop}   : gm_W E d 56 19 [.null] st h Q ↔ gm_W E d 56 20 [.null] (.null :: st) h Q := gw_loc m56 f56_19 rfl rfl
theorem f56_20 : gm_ft 56 20 = some (.iconst 0, 1) := by decide +kernel
theorem r56_20 {E : Nat → Value} {d : Nat} {st : List Value} {h : gm_H} {Q : gm_R → gm_H → Prop} {lv : List Value} : gm_W E d 56 20 lv st h Q ↔ gm_W E d 56 21 lv (.int (0 : Int32) :: st) h Q := gw_pure m56 f56_20 rfl
theorem f56_21 : gm_ft 56 21 = some (.putfield 102, 3) := by decide +kernel
theorem r56_21 {E : Nat → Value} {d : Nat} {st : List Value} {h : gm_H} {Q : gm_R → gm_H → Prop} {lv : List Value} {a : Nat} {x : Int32} (hk : gm_kd h a = 0) : gm_W E d 56 21 lv (.int x :: .ref a :: st) h Q ↔ gm_W E d 56 24 lv st (gm_sf h a 11 (.int x)) Q := gw_wr m56 f56_21 rfl rfl rfl rfl rfl (gs_put k0_102 hk (by decide) (by decide) ⟨rfl, rfl⟩ (by decide))
theorem f56_24 : gm_ft 56 24 = some (.aload_n 0, 1) := by decide +kernel
theorem r56_24 {E : Nat → Value} {d : Nat} {st : List Value} {h : gm_H} {Q : gm_R → gm_H → Prop}  {x : Nat} : gm_W E d 56 24 [.ref x] st h Q ↔ gm_W E d 56 25 [.ref x] (.ref x :: st) h Q := gw_loc m56 f56_24 rfl rfl
theorem r56_24n {E : Nat → Value} {d : Nat} {st : List Value} {h : gm_H} {Q : gm_R → gm_H → Prop}   : gm_W E d 56 24 [.null] st h Q ↔ gm_W E d 56 25 [.null] (.null :: st) h Q := gw_loc m56 f56_24 rfl rfl
theorem f56_25 : gm_ft 56 25 = some (.getfield 93, 3) := by decide +kernel
theorem r56_25 {E : Nat → Value} {d : Nat} {st : List Value} {h : gm_H} {Q : gm_R → gm_H → Prop} {lv : List Value} {a : Nat} (hk : gm_kd h a = 0) : gm_W E d 56 25 lv (.ref a :: st) h Q ↔ gm_W E d 56 28 lv (gm_fv h a 6 :: st) h Q := gw_rd m56 f56_25 rfl rfl rfl rfl (gs_get k0_93 hk (by decide))
theorem f56_28 : gm_ft 56 28 = some (.iconst 4, 1) := by decide +kernel
theorem r56_28 {E : Nat → Value} {d : Nat} {st : List Value} {h : gm_H} {Q : gm_R → gm_H → Prop} {lv : List Value} : gm_W E d 56 28 lv st h Q ↔ gm_W E d 56 29 lv (.int (4 : Int32) :: st) h Q := gw_pure m56 f56_28 rfl
theorem f56_29 : gm_ft 56 29 = some (.if_icmp .ge 12, 3) := by decide +kernel
theorem r56_29 {E : Nat → Value} {d : Nat} {st : List Value} {h : gm_H} {Q : gm_R → gm_H → Prop} {lv : List Value} {x y : Int32} : gm_W E d 56 29 lv (.int y :: .int x :: st) h Q ↔ (if y ≤ x then gm_W E d 56 41 lv st h Q else gm_W E d 56 32 lv st h Q) := (gw_br m56 f56_29 rfl rfl rfl rfl).trans gw_if
theorem f56_32 : gm_ft 56 32 = some (.aload_n 0, 1) := by decide +kernel
theorem r56_32 {E : Nat → Value} {d : Nat} {st : List Value} {h : gm_H} {Q : gm_R → gm_H → Prop}  {x : Nat} : gm_W E d 56 32 [.ref x] st h Q ↔ gm_W E d 56 33 [.ref x] (.ref x :: st) h Q := gw_loc m56 f56_32 rfl rfl
theorem r56_32n {E : Nat → Value} {d : Nat} {st : List Value} {h : gm_H} {Q : gm_R → gm_H → Prop}   : gm_W E d 56 32 [.null] st h Q ↔ gm_W E d 56 33 [.null] (.null :: st) h Q := gw_loc m56 f56_32 rfl rfl
theorem f56_33 : gm_ft 56 33 = some (.bipush (-3), 2) := by decide +kernel
theorem r56_33 {E : Nat → Value} {d : Nat} {st : List Value} {h : gm_H} {Q : gm_R → gm_H → Prop} {lv : List Value} : gm_W E d 56 33 lv st h Q ↔ gm_W E d 56 35 lv (.int (-3 : Int32) :: st) h Q := gw_pure m56 f56_33 rfl
theorem f56_35 : gm_ft 56 35 = some (.putfield 102, 3) := by decide +kernel
theorem r56_35 {E : Nat → Value} {d : Nat} {st : List Value} {h : gm_H} {Q : gm_R → gm_H → Prop} {lv : List Value} {a : Nat} {x : Int32} (hk : gm_kd h a = 0) : gm_W E d 56 35 lv (.int x :: .ref a :: st) h Q ↔ gm_W E d 56 38 lv st (gm_sf h a 11 (.int x)) Q := gw_wr m56 f56_35 rfl rfl rfl rfl rfl (gs_put k0_102 hk (by decide) (by decide) ⟨rfl, rfl⟩ (by decide))
theorem f56_38 : gm_ft 56 38 = some (.bipush (-3), 2) := by decide +kernel
theorem r56_38 {E : Nat → Value} {d : Nat} {st : List Value} {h : gm_H} {Q : gm_R → gm_H → Prop} {lv : List Value} : gm_W E d 56 38 lv st h Q ↔ gm_W E d 56 40 lv (.int (-3 : Int32) :: st) h Q := gw_pure m56 f56_38 rfl
theorem f56_40 : gm_ft 56 40 = some (.ireturn, 1) := by decide +kernel
theorem r56_40 {E : Nat → Value} {d : Nat} {h : gm_H} {Q : gm_R → gm_H → Prop} {lv : List Value} {x : Int32} : gm_W E d 56 40 lv [.int x] h Q ↔ Q (.inl (some (.int x))) h := gw_ret m56 f56_40 rfl rfl rfl rfl rfl rfl rfl rfl (by unfold gm_rt; dsimp only; rw [if_pos ⟨rfl, rfl⟩])
theorem f56_41 : gm_ft 56 41 = some (.aload_n 0, 1) := by decide +kernel
theorem r56_41 {E : Nat → Value} {d : Nat} {st : List Value} {h : gm_H} {Q : gm_R → gm_H → Prop}  {x : Nat} : gm_W E d 56 41 [.ref x] st h Q ↔ gm_W E d 56 42 [.ref x] (.ref x :: st) h Q := gw_loc m56 f56_41 rfl rfl
theorem r56_41n {E : Nat → Value} {d : Nat} {st : List Value} {h : gm_H} {Q : gm_R → gm_H → Prop}   : gm_W E d 56 41 [.null] st h Q ↔ gm_W E d 56 42 [.null] (.null :: st) h Q := gw_loc m56 f56_41 rfl rfl
theorem f56_42 : gm_ft 56 42 = some (.iconst 0, 1) := by decide +kernel
theorem r56_42 {E : Nat → Value} {d : Nat} {st : List Value} {h : gm_H} {Q : gm_R → gm_H → Prop} {lv : List Value} : gm_W E d 56 42 lv st h Q ↔ gm_W E d 56 43 lv (.int (0 : Int32) :: st) h Q := gw_pure m56 f56_42 rfl
theorem f56_43 : gm_ft 56 43 = some (.iconst 4, 1) := by decide +kernel
theorem r56_43 {E : Nat → Value} {d : Nat} {st : List Value} {h : gm_H} {Q : gm_R → gm_H → Prop} {lv : List Value} : gm_W E d 56 43 lv st h Q ↔ gm_W E d 56 44 lv (.int (4 : Int32) :: st) h Q := gw_pure m56 f56_43 rfl
theorem f56_44 : gm_ft 56 44 = some (.invokevirtual 105, 3) := by decide +kernel
theorem c56_44 {E : Nat → Value} {d : Nat} {st : List Value} {h : gm_H} {Q : gm_R → gm_H → Prop} {lv : List Value} {b0 : Int32} {b1 : Int32} {a : Nat} {Qc : gm_R → gm_H → Prop} (hs : (st.map fun v => v.category).sum ≤ 8) (hr : gm_kd h a = 0) (hd : 1 ≤ d) (hc : gm_Ca E (d - 1) 67 [.ref a, .int b0, .int b1] h Qc) (kn : ∀ (v9 : Option Value) (h9 : gm_H), Qc (.inl v9) h9 → gm_W E d 56 47 lv (v9.toList ++ st) h9 Q) (kx : ∀ (x9 : Nat) (h9 : gm_H), Qc (.inr x9) h9 → Q (.inr x9) h9) : gm_W E d 56 44 lv (.int b1 :: .int b0 :: .ref a :: st) h Q := gw_call (gn_call m56 f56_44 rfl rfl rfl rfl rfl rfl rfl (gs_virt (bs := [.int b1, .int b0]) (w := 184) (L := 6) rfl rfl rfl rfl hs (by simp [gm_en1]) hr (by decide)) (by decide)) m56 rfl rfl hd hc kn kx
theorem f56_47 : gm_ft 56 47 = some (.l2i, 1) := by decide +kernel
theorem r56_47 {E : Nat → Value} {d : Nat} {st : List Value} {h : gm_H} {Q : gm_R → gm_H → Prop} {lv : List Value} {x : Int64} : gm_W E d 56 47 lv (.long x :: st) h Q ↔ gm_W E d 56 48 lv (.int (x.toInt32) :: st) h Q := gw_pure m56 f56_47 rfl
theorem f56_48 : gm_ft 56 48 = some (.ldc 109, 2) := by decide +kernel
theorem r56_48 {E : Nat → Value} {d : Nat} {st : List Value} {h : gm_H} {Q : gm_R → gm_H → Prop} {lv : List Value} : gm_W E d 56 48 lv st h Q ↔ gm_W E d 56 50 lv (.int (-1393754107 : Int32) :: st) h Q := gw_rd m56 f56_48 rfl rfl rfl rfl rfl
theorem f56_50 : gm_ft 56 50 = some (.if_icmp .eq 12, 3) := by decide +kernel
theorem r56_50 {E : Nat → Value} {d : Nat} {st : List Value} {h : gm_H} {Q : gm_R → gm_H → Prop} {lv : List Value} {x y : Int32} : gm_W E d 56 50 lv (.int y :: .int x :: st) h Q ↔ (if x = y then gm_W E d 56 62 lv st h Q else gm_W E d 56 53 lv st h Q) := (gw_br m56 f56_50 rfl rfl rfl rfl).trans gw_if
theorem f56_53 : gm_ft 56 53 = some (.aload_n 0, 1) := by decide +kernel
theorem r56_53 {E : Nat → Value} {d : Nat} {st : List Value} {h : gm_H} {Q : gm_R → gm_H → Prop}  {x : Nat} : gm_W E d 56 53 [.ref x] st h Q ↔ gm_W E d 56 54 [.ref x] (.ref x :: st) h Q := gw_loc m56 f56_53 rfl rfl
theorem r56_53n {E : Nat → Value} {d : Nat} {st : List Value} {h : gm_H} {Q : gm_R → gm_H → Prop}   : gm_W E d 56 53 [.null] st h Q ↔ gm_W E d 56 54 [.null] (.null :: st) h Q := gw_loc m56 f56_53 rfl rfl
theorem f56_54 : gm_ft 56 54 = some (.bipush (-4), 2) := by decide +kernel
theorem r56_54 {E : Nat → Value} {d : Nat} {st : List Value} {h : gm_H} {Q : gm_R → gm_H → Prop} {lv : List Value} : gm_W E d 56 54 lv st h Q ↔ gm_W E d 56 56 lv (.int (-4 : Int32) :: st) h Q := gw_pure m56 f56_54 rfl
theorem f56_56 : gm_ft 56 56 = some (.putfield 102, 3) := by decide +kernel
theorem r56_56 {E : Nat → Value} {d : Nat} {st : List Value} {h : gm_H} {Q : gm_R → gm_H → Prop} {lv : List Value} {a : Nat} {x : Int32} (hk : gm_kd h a = 0) : gm_W E d 56 56 lv (.int x :: .ref a :: st) h Q ↔ gm_W E d 56 59 lv st (gm_sf h a 11 (.int x)) Q := gw_wr m56 f56_56 rfl rfl rfl rfl rfl (gs_put k0_102 hk (by decide) (by decide) ⟨rfl, rfl⟩ (by decide))
theorem f56_59 : gm_ft 56 59 = some (.bipush (-4), 2) := by decide +kernel
theorem r56_59 {E : Nat → Value} {d : Nat} {st : List Value} {h : gm_H} {Q : gm_R → gm_H → Prop} {lv : List Value} : gm_W E d 56 59 lv st h Q ↔ gm_W E d 56 61 lv (.int (-4 : Int32) :: st) h Q := gw_pure m56 f56_59 rfl
theorem f56_61 : gm_ft 56 61 = some (.ireturn, 1) := by decide +kernel
theorem r56_61 {E : Nat → Value} {d : Nat} {h : gm_H} {Q : gm_R → gm_H → Prop} {lv : List Value} {x : Int32} : gm_W E d 56 61 lv [.int x] h Q ↔ Q (.inl (some (.int x))) h := gw_ret m56 f56_61 rfl rfl rfl rfl rfl rfl rfl rfl (by unfold gm_rt; dsimp only; rw [if_pos ⟨rfl, rfl⟩])
theorem f56_62 : gm_ft 56 62 = some (.aload_n 0, 1) := by decide +kernel
theorem r56_62 {E : Nat → Value} {d : Nat} {st : List Value} {h : gm_H} {Q : gm_R → gm_H → Prop}  {x : Nat} : gm_W E d 56 62 [.ref x] st h Q ↔ gm_W E d 56 63 [.ref x] (.ref x :: st) h Q := gw_loc m56 f56_62 rfl rfl
theorem r56_62n {E : Nat → Value} {d : Nat} {st : List Value} {h : gm_H} {Q : gm_R → gm_H → Prop}   : gm_W E d 56 62 [.null] st h Q ↔ gm_W E d 56 63 [.null] (.null :: st) h Q := gw_loc m56 f56_62 rfl rfl
theorem f56_63 : gm_ft 56 63 = some (.iconst 4, 1) := by decide +kernel
theorem r56_63 {E : Nat → Value} {d : Nat} {st : List Value} {h : gm_H} {Q : gm_R → gm_H → Prop} {lv : List Value} : gm_W E d 56 63 lv st h Q ↔ gm_W E d 56 64 lv (.int (4 : Int32) :: st) h Q := gw_pure m56 f56_63 rfl
theorem f56_64 : gm_ft 56 64 = some (.putfield 96, 3) := by decide +kernel
theorem r56_64 {E : Nat → Value} {d : Nat} {st : List Value} {h : gm_H} {Q : gm_R → gm_H → Prop} {lv : List Value} {a : Nat} {x : Int32} (hk : gm_kd h a = 0) : gm_W E d 56 64 lv (.int x :: .ref a :: st) h Q ↔ gm_W E d 56 67 lv st (gm_sf h a 7 (.int x)) Q := gw_wr m56 f56_64 rfl rfl rfl rfl rfl (gs_put k0_96 hk (by decide) (by decide) ⟨rfl, rfl⟩ (by decide))
theorem f56_67 : gm_ft 56 67 = some (.aload_n 0, 1) := by decide +kernel
theorem r56_67 {E : Nat → Value} {d : Nat} {st : List Value} {h : gm_H} {Q : gm_R → gm_H → Prop}  {x : Nat} : gm_W E d 56 67 [.ref x] st h Q ↔ gm_W E d 56 68 [.ref x] (.ref x :: st) h Q := gw_loc m56 f56_67 rfl rfl
theorem r56_67n {E : Nat → Value} {d : Nat} {st : List Value} {h : gm_H} {Q : gm_R → gm_H → Prop}   : gm_W E d 56 67 [.null] st h Q ↔ gm_W E d 56 68 [.null] (.null :: st) h Q := gw_loc m56 f56_67 rfl rfl
theorem f56_68 : gm_ft 56 68 = some (.getfield 96, 3) := by decide +kernel
theorem r56_68 {E : Nat → Value} {d : Nat} {st : List Value} {h : gm_H} {Q : gm_R → gm_H → Prop} {lv : List Value} {a : Nat} (hk : gm_kd h a = 0) : gm_W E d 56 68 lv (.ref a :: st) h Q ↔ gm_W E d 56 71 lv (gm_fv h a 7 :: st) h Q := gw_rd m56 f56_68 rfl rfl rfl rfl (gs_get k0_96 hk (by decide))
theorem f56_71 : gm_ft 56 71 = some (.ireturn, 1) := by decide +kernel
theorem r56_71 {E : Nat → Value} {d : Nat} {h : gm_H} {Q : gm_R → gm_H → Prop} {lv : List Value} {x : Int32} : gm_W E d 56 71 lv [.int x] h Q ↔ Q (.inl (some (.int x))) h := gw_ret m56 f56_71 rfl rfl rfl rfl rfl rfl rfl rfl (by unfold gm_rt; dsimp only; rw [if_pos ⟨rfl, rfl⟩])
/-! GraphReader.read()I -/
theorem m57 : gm_mt[57]? = some (⟨"GraphReader", "read", "()I"⟩, prog_1_method_7_code, 6, (some .int), [(39, 43, 44, 120)], 0, 1) := rfl
theorem f57_0 : gm_ft 57 0 = some (.aload_n 0, 1) := by decide +kernel
theorem r57_0 {E : Nat → Value} {d : Nat} {st : List Value} {h : gm_H} {Q : gm_R → gm_H → Prop} {a1 a2 a3 a4 a5 : Value} {x : Nat} : gm_W E d 57 0 [.ref x, a1, a2, a3, a4, a5] st h Q ↔ gm_W E d 57 1 [.ref x, a1, a2, a3, a4, a5] (.ref x :: st) h Q := gw_loc m57 f57_0 rfl rfl
theorem r57_0n {E : Nat → Value} {d : Nat} {st : List Value} {h : gm_H} {Q : gm_R → gm_H → Prop} {a1 a2 a3 a4 a5 : Value}  : gm_W E d 57 0 [.null, a1, a2, a3, a4, a5] st h Q ↔ gm_W E d 57 1 [.null, a1, a2, a3, a4, a5] (.null :: st) h Q := gw_loc m57 f57_0 rfl rfl
theorem f57_1 : gm_ft 57 1 = some (.getfield 102, 3) := by decide +kernel
theorem r57_1 {E : Nat → Value} {d : Nat} {st : List Value} {h : gm_H} {Q : gm_R → gm_H → Prop} {lv : List Value} {a : Nat} (hk : gm_kd h a = 0) : gm_W E d 57 1 lv (.ref a :: st) h Q ↔ gm_W E d 57 4 lv (gm_fv h a 11 :: st) h Q := gw_rd m57 f57_1 rfl rfl rfl rfl (gs_get k0_102 hk (by decide))
theorem f57_4 : gm_ft 57 4 = some (.ifCond .eq 8, 3) := by decide +kernel
theorem r57_4 {E : Nat → Value} {d : Nat} {st : List Value} {h : gm_H} {Q : gm_R → gm_H → Prop} {lv : List Value} {x : Int32} : gm_W E d 57 4 lv (.int x :: st) h Q ↔ (if x = 0 then gm_W E d 57 12 lv st h Q else gm_W E d 57 7 lv st h Q) := (gw_br m57 f57_4 rfl rfl rfl rfl).trans gw_if
theorem f57_7 : gm_ft 57 7 = some (.aload_n 0, 1) := by decide +kernel
theorem r57_7 {E : Nat → Value} {d : Nat} {st : List Value} {h : gm_H} {Q : gm_R → gm_H → Prop} {a1 a2 a3 a4 a5 : Value} {x : Nat} : gm_W E d 57 7 [.ref x, a1, a2, a3, a4, a5] st h Q ↔ gm_W E d 57 8 [.ref x, a1, a2, a3, a4, a5] (.ref x :: st) h Q := gw_loc m57 f57_7 rfl rfl
theorem r57_7n {E : Nat → Value} {d : Nat} {st : List Value} {h : gm_H} {Q : gm_R → gm_H → Prop} {a1 a2 a3 a4 a5 : Value}  : gm_W E d 57 7 [.null, a1, a2, a3, a4, a5] st h Q ↔ gm_W E d 57 8 [.null, a1, a2, a3, a4, a5] (.null :: st) h Q := gw_loc m57 f57_7 rfl rfl
theorem f57_8 : gm_ft 57 8 = some (.getfield 102, 3) := by decide +kernel
theorem r57_8 {E : Nat → Value} {d : Nat} {st : List Value} {h : gm_H} {Q : gm_R → gm_H → Prop} {lv : List Value} {a : Nat} (hk : gm_kd h a = 0) : gm_W E d 57 8 lv (.ref a :: st) h Q ↔ gm_W E d 57 11 lv (gm_fv h a 11 :: st) h Q := gw_rd m57 f57_8 rfl rfl rfl rfl (gs_get k0_102 hk (by decide))
theorem f57_11 : gm_ft 57 11 = some (.ireturn, 1) := by decide +kernel
theorem r57_11 {E : Nat → Value} {d : Nat} {h : gm_H} {Q : gm_R → gm_H → Prop} {lv : List Value} {x : Int32} : gm_W E d 57 11 lv [.int x] h Q ↔ Q (.inl (some (.int x))) h := gw_ret m57 f57_11 rfl rfl rfl rfl rfl rfl rfl rfl (by unfold gm_rt; dsimp only; rw [if_pos ⟨rfl, rfl⟩])
theorem f57_12 : gm_ft 57 12 = some (.aload_n 0, 1) := by decide +kernel
theorem r57_12 {E : Nat → Value} {d : Nat} {st : List Value} {h : gm_H} {Q : gm_R → gm_H → Prop} {a1 a2 a3 a4 a5 : Value} {x : Nat} : gm_W E d 57 12 [.ref x, a1, a2, a3, a4, a5] st h Q ↔ gm_W E d 57 13 [.ref x, a1, a2, a3, a4, a5] (.ref x :: st) h Q := gw_loc m57 f57_12 rfl rfl
theorem r57_12n {E : Nat → Value} {d : Nat} {st : List Value} {h : gm_H} {Q : gm_R → gm_H → Prop} {a1 a2 a3 a4 a5 : Value}  : gm_W E d 57 12 [.null, a1, a2, a3, a4, a5] st h Q ↔ gm_W E d 57 13 [.null, a1, a2, a3, a4, a5] (.null :: st) h Q := gw_loc m57 f57_12 rfl rfl
theorem f57_13 : gm_ft 57 13 = some (.getfield 96, 3) := by decide +kernel
theorem r57_13 {E : Nat → Value} {d : Nat} {st : List Value} {h : gm_H} {Q : gm_R → gm_H → Prop} {lv : List Value} {a : Nat} (hk : gm_kd h a = 0) : gm_W E d 57 13 lv (.ref a :: st) h Q ↔ gm_W E d 57 16 lv (gm_fv h a 7 :: st) h Q := gw_rd m57 f57_13 rfl rfl rfl rfl (gs_get k0_96 hk (by decide))
theorem f57_16 : gm_ft 57 16 = some (.istore_n 1, 1) := by decide +kernel
theorem r57_16 {E : Nat → Value} {d : Nat} {st : List Value} {h : gm_H} {Q : gm_R → gm_H → Prop} {a0 a1 a2 a3 a4 a5 : Value} {x : Int32} : gm_W E d 57 16 [a0, a1, a2, a3, a4, a5] (.int x :: st) h Q ↔ gm_W E d 57 17 [gm_k a0, .int x, a2, a3, a4, a5] st h Q := gw_loc m57 f57_16 rfl rfl
theorem f57_17 : gm_ft 57 17 = some (.aload_n 0, 1) := by decide +kernel
theorem r57_17 {E : Nat → Value} {d : Nat} {st : List Value} {h : gm_H} {Q : gm_R → gm_H → Prop} {a1 a2 a3 a4 a5 : Value} {x : Nat} : gm_W E d 57 17 [.ref x, a1, a2, a3, a4, a5] st h Q ↔ gm_W E d 57 18 [.ref x, a1, a2, a3, a4, a5] (.ref x :: st) h Q := gw_loc m57 f57_17 rfl rfl
theorem r57_17n {E : Nat → Value} {d : Nat} {st : List Value} {h : gm_H} {Q : gm_R → gm_H → Prop} {a1 a2 a3 a4 a5 : Value}  : gm_W E d 57 17 [.null, a1, a2, a3, a4, a5] st h Q ↔ gm_W E d 57 18 [.null, a1, a2, a3, a4, a5] (.null :: st) h Q := gw_loc m57 f57_17 rfl rfl
theorem f57_18 : gm_ft 57 18 = some (.getfield 72, 3) := by decide +kernel
theorem r57_18 {E : Nat → Value} {d : Nat} {st : List Value} {h : gm_H} {Q : gm_R → gm_H → Prop} {lv : List Value} {a : Nat} (hk : gm_kd h a = 0) : gm_W E d 57 18 lv (.ref a :: st) h Q ↔ gm_W E d 57 21 lv (gm_fv h a 9 :: st) h Q := gw_rd m57 f57_18 rfl rfl rfl rfl (gs_get k0_72 hk (by decide))
theorem f57_21 : gm_ft 57 21 = some (.istore_n 2, 1) := by decide +kernel
theorem r57_21 {E : Nat → Value} {d : Nat} {st : List Value} {h : gm_H} {Q : gm_R → gm_H → Prop} {a0 a1 a2 a3 a4 a5 : Value} {x : Int32} : gm_W E d 57 21 [a0, a1, a2, a3, a4, a5] (.int x :: st) h Q ↔ gm_W E d 57 22 [a0, gm_k a1, .int x, a3, a4, a5] st h Q := gw_loc m57 f57_21 rfl rfl
theorem f57_22 : gm_ft 57 22 = some (.aload_n 0, 1) := by decide +kernel
theorem r57_22 {E : Nat → Value} {d : Nat} {st : List Value} {h : gm_H} {Q : gm_R → gm_H → Prop} {a1 a2 a3 a4 a5 : Value} {x : Nat} : gm_W E d 57 22 [.ref x, a1, a2, a3, a4, a5] st h Q ↔ gm_W E d 57 23 [.ref x, a1, a2, a3, a4, a5] (.ref x :: st) h Q := gw_loc m57 f57_22 rfl rfl
theorem r57_22n {E : Nat → Value} {d : Nat} {st : List Value} {h : gm_H} {Q : gm_R → gm_H → Prop} {a1 a2 a3 a4 a5 : Value}  : gm_W E d 57 22 [.null, a1, a2, a3, a4, a5] st h Q ↔ gm_W E d 57 23 [.null, a1, a2, a3, a4, a5] (.null :: st) h Q := gw_loc m57 f57_22 rfl rfl
theorem f57_23 : gm_ft 57 23 = some (.getfield 28, 3) := by decide +kernel
theorem r57_23 {E : Nat → Value} {d : Nat} {st : List Value} {h : gm_H} {Q : gm_R → gm_H → Prop} {lv : List Value} {a : Nat} (hk : gm_kd h a = 0) : gm_W E d 57 23 lv (.ref a :: st) h Q ↔ gm_W E d 57 26 lv (gm_fv h a 10 :: st) h Q := gw_rd m57 f57_23 rfl rfl rfl rfl (gs_get k0_28 hk (by decide))
theorem f57_26 : gm_ft 57 26 = some (.getfield 110, 3) := by decide +kernel
theorem r57_26 {E : Nat → Value} {d : Nat} {st : List Value} {h : gm_H} {Q : gm_R → gm_H → Prop} {lv : List Value} {a : Nat} (hk : gm_kd h a = 2) : gm_W E d 57 26 lv (.ref a :: st) h Q ↔ gm_W E d 57 29 lv (gm_fv h a 2 :: st) h Q := gw_rd m57 f57_26 rfl rfl rfl rfl (gs_get k0_110 hk (by decide))
theorem f57_29 : gm_ft 57 29 = some (.istore_n 3, 1) := by decide +kernel
theorem r57_29 {E : Nat → Value} {d : Nat} {st : List Value} {h : gm_H} {Q : gm_R → gm_H → Prop} {a0 a1 a2 a3 a4 a5 : Value} {x : Int32} : gm_W E d 57 29 [a0, a1, a2, a3, a4, a5] (.int x :: st) h Q ↔ gm_W E d 57 30 [a0, a1, gm_k a2, .int x, a4, a5] st h Q := gw_loc m57 f57_29 rfl rfl
theorem f57_30 : gm_ft 57 30 = some (.aload_n 0, 1) := by decide +kernel
theorem r57_30 {E : Nat → Value} {d : Nat} {st : List Value} {h : gm_H} {Q : gm_R → gm_H → Prop} {a1 a2 a3 a4 a5 : Value} {x : Nat} : gm_W E d 57 30 [.ref x, a1, a2, a3, a4, a5] st h Q ↔ gm_W E d 57 31 [.ref x, a1, a2, a3, a4, a5] (.ref x :: st) h Q := gw_loc m57 f57_30 rfl rfl
theorem r57_30n {E : Nat → Value} {d : Nat} {st : List Value} {h : gm_H} {Q : gm_R → gm_H → Prop} {a1 a2 a3 a4 a5 : Value}  : gm_W E d 57 30 [.null, a1, a2, a3, a4, a5] st h Q ↔ gm_W E d 57 31 [.null, a1, a2, a3, a4, a5] (.null :: st) h Q := gw_loc m57 f57_30 rfl rfl
theorem f57_31 : gm_ft 57 31 = some (.getfield 28, 3) := by decide +kernel
theorem r57_31 {E : Nat → Value} {d : Nat} {st : List Value} {h : gm_H} {Q : gm_R → gm_H → Prop} {lv : List Value} {a : Nat} (hk : gm_kd h a = 0) : gm_W E d 57 31 lv (.ref a :: st) h Q ↔ gm_W E d 57 34 lv (gm_fv h a 10 :: st) h Q := gw_rd m57 f57_31 rfl rfl rfl rfl (gs_get k0_28 hk (by decide))
theorem f57_34 : gm_ft 57 34 = some (.getfield 113, 3) := by decide +kernel
theorem r57_34 {E : Nat → Value} {d : Nat} {st : List Value} {h : gm_H} {Q : gm_R → gm_H → Prop} {lv : List Value} {a : Nat} (hk : gm_kd h a = 2) : gm_W E d 57 34 lv (.ref a :: st) h Q ↔ gm_W E d 57 37 lv (gm_fv h a 3 :: st) h Q := gw_rd m57 f57_34 rfl rfl rfl rfl (gs_get k0_113 hk (by decide))
theorem f57_37 : gm_ft 57 37 = some (.istore 4, 2) := by decide +kernel
theorem r57_37 {E : Nat → Value} {d : Nat} {st : List Value} {h : gm_H} {Q : gm_R → gm_H → Prop} {a0 a1 a2 a3 a4 a5 : Value} {x : Int32} : gm_W E d 57 37 [a0, a1, a2, a3, a4, a5] (.int x :: st) h Q ↔ gm_W E d 57 39 [a0, a1, a2, gm_k a3, .int x, a5] st h Q := gw_loc m57 f57_37 rfl rfl
theorem f57_39 : gm_ft 57 39 = some (.aload_n 0, 1) := by decide +kernel
theorem r57_39 {E : Nat → Value} {d : Nat} {st : List Value} {h : gm_H} {Q : gm_R → gm_H → Prop} {a1 a2 a3 a4 a5 : Value} {x : Nat} : gm_W E d 57 39 [.ref x, a1, a2, a3, a4, a5] st h Q ↔ gm_W E d 57 40 [.ref x, a1, a2, a3, a4, a5] (.ref x :: st) h Q := gw_loc m57 f57_39 rfl rfl
theorem r57_39n {E : Nat → Value} {d : Nat} {st : List Value} {h : gm_H} {Q : gm_R → gm_H → Prop} {a1 a2 a3 a4 a5 : Value}  : gm_W E d 57 39 [.null, a1, a2, a3, a4, a5] st h Q ↔ gm_W E d 57 40 [.null, a1, a2, a3, a4, a5] (.null :: st) h Q := gw_loc m57 f57_39 rfl rfl
theorem f57_40 : gm_ft 57 40 = some (.invokevirtual 116, 3) := by decide +kernel
theorem c57_40 {E : Nat → Value} {d : Nat} {st : List Value} {h : gm_H} {Q : gm_R → gm_H → Prop} {lv : List Value} {a : Nat} {Qc : gm_R → gm_H → Prop} (hs : (st.map fun v => v.category).sum ≤ 8) (hr : gm_kd h a = 0) (hd : 1 ≤ d) (hc : gm_Ca E (d - 1) 81 [.ref a] h Qc) (kn : ∀ (v9 : Option Value) (h9 : gm_H), Qc (.inl v9) h9 → gm_W E d 57 43 lv (v9.toList ++ st) h9 Q) (kx : ∀ (x9 : Nat) (h9 : gm_H), Qc (.inr x9) h9 → gm_W E d 57 44 lv [.ref x9] h9 Q) : gm_W E d 57 40 lv (.ref a :: st) h Q := gw_callC (gn_call m57 f57_40 rfl rfl rfl rfl rfl rfl rfl (gs_virt (bs := []) (w := 194) (L := 1) rfl rfl rfl rfl hs (by simp [gm_en1]) hr (by decide)) (by decide)) m57 rfl rfl hd hc kn kx
theorem f57_43 : gm_ft 57 43 = some (.ireturn, 1) := by decide +kernel
theorem r57_43 {E : Nat → Value} {d : Nat} {h : gm_H} {Q : gm_R → gm_H → Prop} {lv : List Value} {x : Int32} : gm_W E d 57 43 lv [.int x] h Q ↔ Q (.inl (some (.int x))) h := gw_ret m57 f57_43 rfl rfl rfl rfl rfl rfl rfl rfl (by unfold gm_rt; dsimp only; rw [if_pos ⟨rfl, rfl⟩])
theorem f57_44 : gm_ft 57 44 = some (.astore 5, 2) := by decide +kernel
theorem r57_44 {E : Nat → Value} {d : Nat} {st : List Value} {h : gm_H} {Q : gm_R → gm_H → Prop} {a0 a1 a2 a3 a4 a5 : Value} {x : Nat} : gm_W E d 57 44 [a0, a1, a2, a3, a4, a5] (.ref x :: st) h Q ↔ gm_W E d 57 46 [a0, a1, a2, a3, gm_k a4, .ref x] st h Q := gw_loc m57 f57_44 rfl rfl
theorem r57_44n {E : Nat → Value} {d : Nat} {st : List Value} {h : gm_H} {Q : gm_R → gm_H → Prop} {a0 a1 a2 a3 a4 a5 : Value}  : gm_W E d 57 44 [a0, a1, a2, a3, a4, a5] (.null :: st) h Q ↔ gm_W E d 57 46 [a0, a1, a2, a3, gm_k a4, .null] st h Q := gw_loc m57 f57_44 rfl rfl
theorem f57_46 : gm_ft 57 46 = some (.aload_n 0, 1) := by decide +kernel
theorem r57_46 {E : Nat → Value} {d : Nat} {st : List Value} {h : gm_H} {Q : gm_R → gm_H → Prop} {a1 a2 a3 a4 a5 : Value} {x : Nat} : gm_W E d 57 46 [.ref x, a1, a2, a3, a4, a5] st h Q ↔ gm_W E d 57 47 [.ref x, a1, a2, a3, a4, a5] (.ref x :: st) h Q := gw_loc m57 f57_46 rfl rfl
theorem r57_46n {E : Nat → Value} {d : Nat} {st : List Value} {h : gm_H} {Q : gm_R → gm_H → Prop} {a1 a2 a3 a4 a5 : Value}  : gm_W E d 57 46 [.null, a1, a2, a3, a4, a5] st h Q ↔ gm_W E d 57 47 [.null, a1, a2, a3, a4, a5] (.null :: st) h Q := gw_loc m57 f57_46 rfl rfl
theorem f57_47 : gm_ft 57 47 = some (.iload_n 1, 1) := by decide +kernel
theorem r57_47 {E : Nat → Value} {d : Nat} {st : List Value} {h : gm_H} {Q : gm_R → gm_H → Prop} {a0 a2 a3 a4 a5 : Value} {x : Int32} : gm_W E d 57 47 [a0, .int x, a2, a3, a4, a5] st h Q ↔ gm_W E d 57 48 [a0, .int x, a2, a3, a4, a5] (.int x :: st) h Q := gw_loc m57 f57_47 rfl rfl
theorem f57_48 : gm_ft 57 48 = some (.putfield 96, 3) := by decide +kernel
theorem r57_48 {E : Nat → Value} {d : Nat} {st : List Value} {h : gm_H} {Q : gm_R → gm_H → Prop} {lv : List Value} {a : Nat} {x : Int32} (hk : gm_kd h a = 0) : gm_W E d 57 48 lv (.int x :: .ref a :: st) h Q ↔ gm_W E d 57 51 lv st (gm_sf h a 7 (.int x)) Q := gw_wr m57 f57_48 rfl rfl rfl rfl rfl (gs_put k0_96 hk (by decide) (by decide) ⟨rfl, rfl⟩ (by decide))
theorem f57_51 : gm_ft 57 51 = some (.aload_n 0, 1) := by decide +kernel
theorem r57_51 {E : Nat → Value} {d : Nat} {st : List Value} {h : gm_H} {Q : gm_R → gm_H → Prop} {a1 a2 a3 a4 a5 : Value} {x : Nat} : gm_W E d 57 51 [.ref x, a1, a2, a3, a4, a5] st h Q ↔ gm_W E d 57 52 [.ref x, a1, a2, a3, a4, a5] (.ref x :: st) h Q := gw_loc m57 f57_51 rfl rfl
theorem r57_51n {E : Nat → Value} {d : Nat} {st : List Value} {h : gm_H} {Q : gm_R → gm_H → Prop} {a1 a2 a3 a4 a5 : Value}  : gm_W E d 57 51 [.null, a1, a2, a3, a4, a5] st h Q ↔ gm_W E d 57 52 [.null, a1, a2, a3, a4, a5] (.null :: st) h Q := gw_loc m57 f57_51 rfl rfl
theorem f57_52 : gm_ft 57 52 = some (.iload_n 2, 1) := by decide +kernel
theorem r57_52 {E : Nat → Value} {d : Nat} {st : List Value} {h : gm_H} {Q : gm_R → gm_H → Prop} {a0 a1 a3 a4 a5 : Value} {x : Int32} : gm_W E d 57 52 [a0, a1, .int x, a3, a4, a5] st h Q ↔ gm_W E d 57 53 [a0, a1, .int x, a3, a4, a5] (.int x :: st) h Q := gw_loc m57 f57_52 rfl rfl
theorem f57_53 : gm_ft 57 53 = some (.putfield 72, 3) := by decide +kernel
theorem r57_53 {E : Nat → Value} {d : Nat} {st : List Value} {h : gm_H} {Q : gm_R → gm_H → Prop} {lv : List Value} {a : Nat} {x : Int32} (hk : gm_kd h a = 0) : gm_W E d 57 53 lv (.int x :: .ref a :: st) h Q ↔ gm_W E d 57 56 lv st (gm_sf h a 9 (.int x)) Q := gw_wr m57 f57_53 rfl rfl rfl rfl rfl (gs_put k0_72 hk (by decide) (by decide) ⟨rfl, rfl⟩ (by decide))
theorem f57_56 : gm_ft 57 56 = some (.aload_n 0, 1) := by decide +kernel
theorem r57_56 {E : Nat → Value} {d : Nat} {st : List Value} {h : gm_H} {Q : gm_R → gm_H → Prop} {a1 a2 a3 a4 a5 : Value} {x : Nat} : gm_W E d 57 56 [.ref x, a1, a2, a3, a4, a5] st h Q ↔ gm_W E d 57 57 [.ref x, a1, a2, a3, a4, a5] (.ref x :: st) h Q := gw_loc m57 f57_56 rfl rfl
theorem r57_56n {E : Nat → Value} {d : Nat} {st : List Value} {h : gm_H} {Q : gm_R → gm_H → Prop} {a1 a2 a3 a4 a5 : Value}  : gm_W E d 57 56 [.null, a1, a2, a3, a4, a5] st h Q ↔ gm_W E d 57 57 [.null, a1, a2, a3, a4, a5] (.null :: st) h Q := gw_loc m57 f57_56 rfl rfl
theorem f57_57 : gm_ft 57 57 = some (.getfield 28, 3) := by decide +kernel
theorem r57_57 {E : Nat → Value} {d : Nat} {st : List Value} {h : gm_H} {Q : gm_R → gm_H → Prop} {lv : List Value} {a : Nat} (hk : gm_kd h a = 0) : gm_W E d 57 57 lv (.ref a :: st) h Q ↔ gm_W E d 57 60 lv (gm_fv h a 10 :: st) h Q := gw_rd m57 f57_57 rfl rfl rfl rfl (gs_get k0_28 hk (by decide))
theorem f57_60 : gm_ft 57 60 = some (.iload_n 3, 1) := by decide +kernel
theorem r57_60 {E : Nat → Value} {d : Nat} {st : List Value} {h : gm_H} {Q : gm_R → gm_H → Prop} {a0 a1 a2 a4 a5 : Value} {x : Int32} : gm_W E d 57 60 [a0, a1, a2, .int x, a4, a5] st h Q ↔ gm_W E d 57 61 [a0, a1, a2, .int x, a4, a5] (.int x :: st) h Q := gw_loc m57 f57_60 rfl rfl
theorem f57_61 : gm_ft 57 61 = some (.iload 4, 2) := by decide +kernel
theorem r57_61 {E : Nat → Value} {d : Nat} {st : List Value} {h : gm_H} {Q : gm_R → gm_H → Prop} {a0 a1 a2 a3 a5 : Value} {x : Int32} : gm_W E d 57 61 [a0, a1, a2, a3, .int x, a5] st h Q ↔ gm_W E d 57 63 [a0, a1, a2, a3, .int x, a5] (.int x :: st) h Q := gw_loc m57 f57_61 rfl rfl
theorem f57_63 : gm_ft 57 63 = some (.invokevirtual 99, 3) := by decide +kernel
theorem c57_63 {E : Nat → Value} {d : Nat} {st : List Value} {h : gm_H} {Q : gm_R → gm_H → Prop} {lv : List Value} {b0 : Int32} {b1 : Int32} {a : Nat} {Qc : gm_R → gm_H → Prop} (hs : (st.map fun v => v.category).sum ≤ 8) (hr : gm_kd h a = 2) (hd : 1 ≤ d) (hc : gm_Ca E (d - 1) 112 [.ref a, .int b0, .int b1] h Qc) (kn : ∀ (v9 : Option Value) (h9 : gm_H), Qc (.inl v9) h9 → gm_W E d 57 66 lv (v9.toList ++ st) h9 Q) (kx : ∀ (x9 : Nat) (h9 : gm_H), Qc (.inr x9) h9 → Q (.inr x9) h9) : gm_W E d 57 63 lv (.int b1 :: .int b0 :: .ref a :: st) h Q := gw_call (gn_call m57 f57_63 rfl rfl rfl rfl rfl rfl rfl (gs_virt (bs := [.int b1, .int b0]) (w := 180) (L := 3) rfl rfl rfl rfl hs (by simp [gm_en1]) hr (by decide)) (by decide)) m57 rfl rfl hd hc kn kx
theorem f57_66 : gm_ft 57 66 = some (.aload_n 0, 1) := by decide +kernel
theorem r57_66 {E : Nat → Value} {d : Nat} {st : List Value} {h : gm_H} {Q : gm_R → gm_H → Prop} {a1 a2 a3 a4 a5 : Value} {x : Nat} : gm_W E d 57 66 [.ref x, a1, a2, a3, a4, a5] st h Q ↔ gm_W E d 57 67 [.ref x, a1, a2, a3, a4, a5] (.ref x :: st) h Q := gw_loc m57 f57_66 rfl rfl
theorem r57_66n {E : Nat → Value} {d : Nat} {st : List Value} {h : gm_H} {Q : gm_R → gm_H → Prop} {a1 a2 a3 a4 a5 : Value}  : gm_W E d 57 66 [.null, a1, a2, a3, a4, a5] st h Q ↔ gm_W E d 57 67 [.null, a1, a2, a3, a4, a5] (.null :: st) h Q := gw_loc m57 f57_66 rfl rfl
theorem f57_67 : gm_ft 57 67 = some (.getfield 122, 3) := by decide +kernel
theorem r57_67 {E : Nat → Value} {d : Nat} {st : List Value} {h : gm_H} {Q : gm_R → gm_H → Prop} {lv : List Value} {a : Nat} (hk : gm_kd h a = 0) : gm_W E d 57 67 lv (.ref a :: st) h Q ↔ gm_W E d 57 70 lv (gm_fv h a 12 :: st) h Q := gw_rd m57 f57_67 rfl rfl rfl rfl (gs_get k0_122 hk (by decide))
theorem f57_70 : gm_ft 57 70 = some (.bipush (-7), 2) := by decide +kernel
theorem r57_70 {E : Nat → Value} {d : Nat} {st : List Value} {h : gm_H} {Q : gm_R → gm_H → Prop} {lv : List Value} : gm_W E d 57 70 lv st h Q ↔ gm_W E d 57 72 lv (.int (-7 : Int32) :: st) h Q := gw_pure m57 f57_70 rfl
theorem f57_72 : gm_ft 57 72 = some (.if_icmp .eq 11, 3) := by decide +kernel
theorem r57_72 {E : Nat → Value} {d : Nat} {st : List Value} {h : gm_H} {Q : gm_R → gm_H → Prop} {lv : List Value} {x y : Int32} : gm_W E d 57 72 lv (.int y :: .int x :: st) h Q ↔ (if x = y then gm_W E d 57 83 lv st h Q else gm_W E d 57 75 lv st h Q) := (gw_br m57 f57_72 rfl rfl rfl rfl).trans gw_if
theorem f57_75 : gm_ft 57 75 = some (.aload_n 0, 1) := by decide +kernel
theorem r57_75 {E : Nat → Value} {d : Nat} {st : List Value} {h : gm_H} {Q : gm_R → gm_H → Prop} {a1 a2 a3 a4 a5 : Value} {x : Nat} : gm_W E d 57 75 [.ref x, a1, a2, a3, a4, a5] st h Q ↔ gm_W E d 57 76 [.ref x, a1, a2, a3, a4, a5] (.ref x :: st) h Q := gw_loc m57 f57_75 rfl rfl
theorem r57_75n {E : Nat → Value} {d : Nat} {st : List Value} {h : gm_H} {Q : gm_R → gm_H → Prop} {a1 a2 a3 a4 a5 : Value}  : gm_W E d 57 75 [.null, a1, a2, a3, a4, a5] st h Q ↔ gm_W E d 57 76 [.null, a1, a2, a3, a4, a5] (.null :: st) h Q := gw_loc m57 f57_75 rfl rfl
theorem f57_76 : gm_ft 57 76 = some (.aload_n 0, 1) := by decide +kernel
theorem r57_76 {E : Nat → Value} {d : Nat} {st : List Value} {h : gm_H} {Q : gm_R → gm_H → Prop} {a1 a2 a3 a4 a5 : Value} {x : Nat} : gm_W E d 57 76 [.ref x, a1, a2, a3, a4, a5] st h Q ↔ gm_W E d 57 77 [.ref x, a1, a2, a3, a4, a5] (.ref x :: st) h Q := gw_loc m57 f57_76 rfl rfl
theorem r57_76n {E : Nat → Value} {d : Nat} {st : List Value} {h : gm_H} {Q : gm_R → gm_H → Prop} {a1 a2 a3 a4 a5 : Value}  : gm_W E d 57 76 [.null, a1, a2, a3, a4, a5] st h Q ↔ gm_W E d 57 77 [.null, a1, a2, a3, a4, a5] (.null :: st) h Q := gw_loc m57 f57_76 rfl rfl
theorem f57_77 : gm_ft 57 77 = some (.getfield 122, 3) := by decide +kernel
theorem r57_77 {E : Nat → Value} {d : Nat} {st : List Value} {h : gm_H} {Q : gm_R → gm_H → Prop} {lv : List Value} {a : Nat} (hk : gm_kd h a = 0) : gm_W E d 57 77 lv (.ref a :: st) h Q ↔ gm_W E d 57 80 lv (gm_fv h a 12 :: st) h Q := gw_rd m57 f57_77 rfl rfl rfl rfl (gs_get k0_122 hk (by decide))
theorem f57_80 : gm_ft 57 80 = some (.putfield 102, 3) := by decide +kernel
theorem r57_80 {E : Nat → Value} {d : Nat} {st : List Value} {h : gm_H} {Q : gm_R → gm_H → Prop} {lv : List Value} {a : Nat} {x : Int32} (hk : gm_kd h a = 0) : gm_W E d 57 80 lv (.int x :: .ref a :: st) h Q ↔ gm_W E d 57 83 lv st (gm_sf h a 11 (.int x)) Q := gw_wr m57 f57_80 rfl rfl rfl rfl rfl (gs_put k0_102 hk (by decide) (by decide) ⟨rfl, rfl⟩ (by decide))
theorem f57_83 : gm_ft 57 83 = some (.aload_n 0, 1) := by decide +kernel
theorem r57_83 {E : Nat → Value} {d : Nat} {st : List Value} {h : gm_H} {Q : gm_R → gm_H → Prop} {a1 a2 a3 a4 a5 : Value} {x : Nat} : gm_W E d 57 83 [.ref x, a1, a2, a3, a4, a5] st h Q ↔ gm_W E d 57 84 [.ref x, a1, a2, a3, a4, a5] (.ref x :: st) h Q := gw_loc m57 f57_83 rfl rfl
theorem r57_83n {E : Nat → Value} {d : Nat} {st : List Value} {h : gm_H} {Q : gm_R → gm_H → Prop} {a1 a2 a3 a4 a5 : Value}  : gm_W E d 57 83 [.null, a1, a2, a3, a4, a5] st h Q ↔ gm_W E d 57 84 [.null, a1, a2, a3, a4, a5] (.null :: st) h Q := gw_loc m57 f57_83 rfl rfl
theorem f57_84 : gm_ft 57 84 = some (.getfield 122, 3) := by decide +kernel
theorem r57_84 {E : Nat → Value} {d : Nat} {st : List Value} {h : gm_H} {Q : gm_R → gm_H → Prop} {lv : List Value} {a : Nat} (hk : gm_kd h a = 0) : gm_W E d 57 84 lv (.ref a :: st) h Q ↔ gm_W E d 57 87 lv (gm_fv h a 12 :: st) h Q := gw_rd m57 f57_84 rfl rfl rfl rfl (gs_get k0_122 hk (by decide))
theorem f57_87 : gm_ft 57 87 = some (.ireturn, 1) := by decide +kernel
theorem r57_87 {E : Nat → Value} {d : Nat} {h : gm_H} {Q : gm_R → gm_H → Prop} {lv : List Value} {x : Int32} : gm_W E d 57 87 lv [.int x] h Q ↔ Q (.inl (some (.int x))) h := gw_ret m57 f57_87 rfl rfl rfl rfl rfl rfl rfl rfl (by unfold gm_rt; dsimp only; rw [if_pos ⟨rfl, rfl⟩])
/-! GraphReader.passBlock()I -/
theorem m58 : gm_mt[58]? = some (⟨"GraphReader", "passBlock", "()I"⟩, prog_1_method_8_code, 3, (some .int), [(45, 49, 50, 120)], 0, 1) := rfl
theorem f58_0 : gm_ft 58 0 = some (.aload_n 0, 1) := by decide +kernel
theorem r58_0 {E : Nat → Value} {d : Nat} {st : List Value} {h : gm_H} {Q : gm_R → gm_H → Prop} {a1 a2 : Value} {x : Nat} : gm_W E d 58 0 [.ref x, a1, a2] st h Q ↔ gm_W E d 58 1 [.ref x, a1, a2] (.ref x :: st) h Q := gw_loc m58 f58_0 rfl rfl
theorem r58_0n {E : Nat → Value} {d : Nat} {st : List Value} {h : gm_H} {Q : gm_R → gm_H → Prop} {a1 a2 : Value}  : gm_W E d 58 0 [.null, a1, a2] st h Q ↔ gm_W E d 58 1 [.null, a1, a2] (.null :: st) h Q := gw_loc m58 f58_0 rfl rfl
theorem f58_1 : gm_ft 58 1 = some (.getfield 102, 3) := by decide +kernel
theorem r58_1 {E : Nat → Value} {d : Nat} {st : List Value} {h : gm_H} {Q : gm_R → gm_H → Prop} {lv : List Value} {a : Nat} (hk : gm_kd h a = 0) : gm_W E d 58 1 lv (.ref a :: st) h Q ↔ gm_W E d 58 4 lv (gm_fv h a 11 :: st) h Q := gw_rd m58 f58_1 rfl rfl rfl rfl (gs_get k0_102 hk (by decide))
theorem f58_4 : gm_ft 58 4 = some (.ifCond .eq 8, 3) := by decide +kernel
theorem r58_4 {E : Nat → Value} {d : Nat} {st : List Value} {h : gm_H} {Q : gm_R → gm_H → Prop} {lv : List Value} {x : Int32} : gm_W E d 58 4 lv (.int x :: st) h Q ↔ (if x = 0 then gm_W E d 58 12 lv st h Q else gm_W E d 58 7 lv st h Q) := (gw_br m58 f58_4 rfl rfl rfl rfl).trans gw_if
theorem f58_7 : gm_ft 58 7 = some (.aload_n 0, 1) := by decide +kernel
theorem r58_7 {E : Nat → Value} {d : Nat} {st : List Value} {h : gm_H} {Q : gm_R → gm_H → Prop} {a1 a2 : Value} {x : Nat} : gm_W E d 58 7 [.ref x, a1, a2] st h Q ↔ gm_W E d 58 8 [.ref x, a1, a2] (.ref x :: st) h Q := gw_loc m58 f58_7 rfl rfl
theorem r58_7n {E : Nat → Value} {d : Nat} {st : List Value} {h : gm_H} {Q : gm_R → gm_H → Prop} {a1 a2 : Value}  : gm_W E d 58 7 [.null, a1, a2] st h Q ↔ gm_W E d 58 8 [.null, a1, a2] (.null :: st) h Q := gw_loc m58 f58_7 rfl rfl
theorem f58_8 : gm_ft 58 8 = some (.getfield 102, 3) := by decide +kernel
theorem r58_8 {E : Nat → Value} {d : Nat} {st : List Value} {h : gm_H} {Q : gm_R → gm_H → Prop} {lv : List Value} {a : Nat} (hk : gm_kd h a = 0) : gm_W E d 58 8 lv (.ref a :: st) h Q ↔ gm_W E d 58 11 lv (gm_fv h a 11 :: st) h Q := gw_rd m58 f58_8 rfl rfl rfl rfl (gs_get k0_102 hk (by decide))
theorem f58_11 : gm_ft 58 11 = some (.ireturn, 1) := by decide +kernel
theorem r58_11 {E : Nat → Value} {d : Nat} {h : gm_H} {Q : gm_R → gm_H → Prop} {lv : List Value} {x : Int32} : gm_W E d 58 11 lv [.int x] h Q ↔ Q (.inl (some (.int x))) h := gw_ret m58 f58_11 rfl rfl rfl rfl rfl rfl rfl rfl (by unfold gm_rt; dsimp only; rw [if_pos ⟨rfl, rfl⟩])
theorem f58_12 : gm_ft 58 12 = some (.aload_n 0, 1) := by decide +kernel
theorem r58_12 {E : Nat → Value} {d : Nat} {st : List Value} {h : gm_H} {Q : gm_R → gm_H → Prop} {a1 a2 : Value} {x : Nat} : gm_W E d 58 12 [.ref x, a1, a2] st h Q ↔ gm_W E d 58 13 [.ref x, a1, a2] (.ref x :: st) h Q := gw_loc m58 f58_12 rfl rfl
theorem r58_12n {E : Nat → Value} {d : Nat} {st : List Value} {h : gm_H} {Q : gm_R → gm_H → Prop} {a1 a2 : Value}  : gm_W E d 58 12 [.null, a1, a2] st h Q ↔ gm_W E d 58 13 [.null, a1, a2] (.null :: st) h Q := gw_loc m58 f58_12 rfl rfl
theorem f58_13 : gm_ft 58 13 = some (.getfield 96, 3) := by decide +kernel
theorem r58_13 {E : Nat → Value} {d : Nat} {st : List Value} {h : gm_H} {Q : gm_R → gm_H → Prop} {lv : List Value} {a : Nat} (hk : gm_kd h a = 0) : gm_W E d 58 13 lv (.ref a :: st) h Q ↔ gm_W E d 58 16 lv (gm_fv h a 7 :: st) h Q := gw_rd m58 f58_13 rfl rfl rfl rfl (gs_get k0_96 hk (by decide))
theorem f58_16 : gm_ft 58 16 = some (.aload_n 0, 1) := by decide +kernel
theorem r58_16 {E : Nat → Value} {d : Nat} {st : List Value} {h : gm_H} {Q : gm_R → gm_H → Prop} {a1 a2 : Value} {x : Nat} : gm_W E d 58 16 [.ref x, a1, a2] st h Q ↔ gm_W E d 58 17 [.ref x, a1, a2] (.ref x :: st) h Q := gw_loc m58 f58_16 rfl rfl
theorem r58_16n {E : Nat → Value} {d : Nat} {st : List Value} {h : gm_H} {Q : gm_R → gm_H → Prop} {a1 a2 : Value}  : gm_W E d 58 16 [.null, a1, a2] st h Q ↔ gm_W E d 58 17 [.null, a1, a2] (.null :: st) h Q := gw_loc m58 f58_16 rfl rfl
theorem f58_17 : gm_ft 58 17 = some (.getfield 93, 3) := by decide +kernel
theorem r58_17 {E : Nat → Value} {d : Nat} {st : List Value} {h : gm_H} {Q : gm_R → gm_H → Prop} {lv : List Value} {a : Nat} (hk : gm_kd h a = 0) : gm_W E d 58 17 lv (.ref a :: st) h Q ↔ gm_W E d 58 20 lv (gm_fv h a 6 :: st) h Q := gw_rd m58 f58_17 rfl rfl rfl rfl (gs_get k0_93 hk (by decide))
theorem f58_20 : gm_ft 58 20 = some (.if_icmp .ge 18, 3) := by decide +kernel
theorem r58_20 {E : Nat → Value} {d : Nat} {st : List Value} {h : gm_H} {Q : gm_R → gm_H → Prop} {lv : List Value} {x y : Int32} : gm_W E d 58 20 lv (.int y :: .int x :: st) h Q ↔ (if y ≤ x then gm_W E d 58 38 lv st h Q else gm_W E d 58 23 lv st h Q) := (gw_br m58 f58_20 rfl rfl rfl rfl).trans gw_if
theorem f58_23 : gm_ft 58 23 = some (.aload_n 0, 1) := by decide +kernel
theorem r58_23 {E : Nat → Value} {d : Nat} {st : List Value} {h : gm_H} {Q : gm_R → gm_H → Prop} {a1 a2 : Value} {x : Nat} : gm_W E d 58 23 [.ref x, a1, a2] st h Q ↔ gm_W E d 58 24 [.ref x, a1, a2] (.ref x :: st) h Q := gw_loc m58 f58_23 rfl rfl
theorem r58_23n {E : Nat → Value} {d : Nat} {st : List Value} {h : gm_H} {Q : gm_R → gm_H → Prop} {a1 a2 : Value}  : gm_W E d 58 23 [.null, a1, a2] st h Q ↔ gm_W E d 58 24 [.null, a1, a2] (.null :: st) h Q := gw_loc m58 f58_23 rfl rfl
theorem f58_24 : gm_ft 58 24 = some (.getfield 15, 3) := by decide +kernel
theorem r58_24 {E : Nat → Value} {d : Nat} {st : List Value} {h : gm_H} {Q : gm_R → gm_H → Prop} {lv : List Value} {a : Nat} (hk : gm_kd h a = 0) : gm_W E d 58 24 lv (.ref a :: st) h Q ↔ gm_W E d 58 27 lv (gm_fv h a 5 :: st) h Q := gw_rd m58 f58_24 rfl rfl rfl rfl (gs_get k0_15 hk (by decide))
theorem f58_27 : gm_ft 58 27 = some (.aload_n 0, 1) := by decide +kernel
theorem r58_27 {E : Nat → Value} {d : Nat} {st : List Value} {h : gm_H} {Q : gm_R → gm_H → Prop} {a1 a2 : Value} {x : Nat} : gm_W E d 58 27 [.ref x, a1, a2] st h Q ↔ gm_W E d 58 28 [.ref x, a1, a2] (.ref x :: st) h Q := gw_loc m58 f58_27 rfl rfl
theorem r58_27n {E : Nat → Value} {d : Nat} {st : List Value} {h : gm_H} {Q : gm_R → gm_H → Prop} {a1 a2 : Value}  : gm_W E d 58 27 [.null, a1, a2] st h Q ↔ gm_W E d 58 28 [.null, a1, a2] (.null :: st) h Q := gw_loc m58 f58_27 rfl rfl
theorem f58_28 : gm_ft 58 28 = some (.getfield 96, 3) := by decide +kernel
theorem r58_28 {E : Nat → Value} {d : Nat} {st : List Value} {h : gm_H} {Q : gm_R → gm_H → Prop} {lv : List Value} {a : Nat} (hk : gm_kd h a = 0) : gm_W E d 58 28 lv (.ref a :: st) h Q ↔ gm_W E d 58 31 lv (gm_fv h a 7 :: st) h Q := gw_rd m58 f58_28 rfl rfl rfl rfl (gs_get k0_96 hk (by decide))
theorem f58_31 : gm_ft 58 31 = some (.baload, 1) := by decide +kernel
theorem r58_31 {E : Nat → Value} {d : Nat} {st : List Value} {h : gm_H} {Q : gm_R → gm_H → Prop} {lv : List Value} {a j : Nat} (hk : (gm_kd h a % 100 = 2 ∨ gm_kd h a % 100 = 3) ∧ 100 ≤ gm_kd h a ∧ gm_kd h a < 900) (hj : j < gm_ln h a) (hl : gm_ln h a < 2 ^ 31) : gm_W E d 58 31 lv (.int (nI j) :: .ref a :: st) h Q ↔ gm_W E d 58 32 lv (gm_fv h a j :: st) h Q := gw_rd m58 f58_31 rfl rfl rfl rfl (gs_ld (P := fun t => t == 2 || t == 3) hk.2 (by have := hk.1; simp [this] <;> omega) hj hl)
theorem f58_32 : gm_ft 58 32 = some (.invokestatic 125, 3) := by decide +kernel
theorem c58_32 {E : Nat → Value} {d : Nat} {st : List Value} {h : gm_H} {Q : gm_R → gm_H → Prop} {lv : List Value} {b0 : Int32} {Qc : gm_R → gm_H → Prop} (hs : (st.map fun v => v.category).sum ≤ 8) (hd : 1 ≤ d) (hc : gm_Ca E (d - 1) 74 [.int b0] h Qc) (kn : ∀ (v9 : Option Value) (h9 : gm_H), Qc (.inl v9) h9 → gm_W E d 58 35 lv (v9.toList ++ st) h9 Q) (kx : ∀ (x9 : Nat) (h9 : gm_H), Qc (.inr x9) h9 → Q (.inr x9) h9) : gm_W E d 58 32 lv (.int b0 :: st) h Q := gw_call (gn_call m58 f58_32 rfl rfl rfl rfl rfl rfl rfl (gc_stat (bs := [.int b0]) (w := 476) (L := 1) rfl rfl rfl hs (by simp [gm_en1])) (by decide)) m58 rfl rfl hd hc kn kx
theorem f58_35 : gm_ft 58 35 = some (.ifCond .ne 5, 3) := by decide +kernel
theorem r58_35 {E : Nat → Value} {d : Nat} {st : List Value} {h : gm_H} {Q : gm_R → gm_H → Prop} {lv : List Value} {x : Int32} : gm_W E d 58 35 lv (.int x :: st) h Q ↔ (if x = 0 then gm_W E d 58 38 lv st h Q else gm_W E d 58 40 lv st h Q) := (gw_br m58 f58_35 rfl rfl rfl rfl).trans gw_ifn
theorem f58_38 : gm_ft 58 38 = some (.iconst (-1), 1) := by decide +kernel
theorem r58_38 {E : Nat → Value} {d : Nat} {st : List Value} {h : gm_H} {Q : gm_R → gm_H → Prop} {lv : List Value} : gm_W E d 58 38 lv st h Q ↔ gm_W E d 58 39 lv (.int (-1 : Int32) :: st) h Q := gw_pure m58 f58_38 rfl
theorem f58_39 : gm_ft 58 39 = some (.ireturn, 1) := by decide +kernel
theorem r58_39 {E : Nat → Value} {d : Nat} {h : gm_H} {Q : gm_R → gm_H → Prop} {lv : List Value} {x : Int32} : gm_W E d 58 39 lv [.int x] h Q ↔ Q (.inl (some (.int x))) h := gw_ret m58 f58_39 rfl rfl rfl rfl rfl rfl rfl rfl (by unfold gm_rt; dsimp only; rw [if_pos ⟨rfl, rfl⟩])
theorem f58_40 : gm_ft 58 40 = some (.aload_n 0, 1) := by decide +kernel
theorem r58_40 {E : Nat → Value} {d : Nat} {st : List Value} {h : gm_H} {Q : gm_R → gm_H → Prop} {a1 a2 : Value} {x : Nat} : gm_W E d 58 40 [.ref x, a1, a2] st h Q ↔ gm_W E d 58 41 [.ref x, a1, a2] (.ref x :: st) h Q := gw_loc m58 f58_40 rfl rfl
theorem r58_40n {E : Nat → Value} {d : Nat} {st : List Value} {h : gm_H} {Q : gm_R → gm_H → Prop} {a1 a2 : Value}  : gm_W E d 58 40 [.null, a1, a2] st h Q ↔ gm_W E d 58 41 [.null, a1, a2] (.null :: st) h Q := gw_loc m58 f58_40 rfl rfl
theorem f58_41 : gm_ft 58 41 = some (.getfield 96, 3) := by decide +kernel
theorem r58_41 {E : Nat → Value} {d : Nat} {st : List Value} {h : gm_H} {Q : gm_R → gm_H → Prop} {lv : List Value} {a : Nat} (hk : gm_kd h a = 0) : gm_W E d 58 41 lv (.ref a :: st) h Q ↔ gm_W E d 58 44 lv (gm_fv h a 7 :: st) h Q := gw_rd m58 f58_41 rfl rfl rfl rfl (gs_get k0_96 hk (by decide))
theorem f58_44 : gm_ft 58 44 = some (.istore_n 1, 1) := by decide +kernel
theorem r58_44 {E : Nat → Value} {d : Nat} {st : List Value} {h : gm_H} {Q : gm_R → gm_H → Prop} {a0 a1 a2 : Value} {x : Int32} : gm_W E d 58 44 [a0, a1, a2] (.int x :: st) h Q ↔ gm_W E d 58 45 [gm_k a0, .int x, a2] st h Q := gw_loc m58 f58_44 rfl rfl
theorem f58_45 : gm_ft 58 45 = some (.aload_n 0, 1) := by decide +kernel
theorem r58_45 {E : Nat → Value} {d : Nat} {st : List Value} {h : gm_H} {Q : gm_R → gm_H → Prop} {a1 a2 : Value} {x : Nat} : gm_W E d 58 45 [.ref x, a1, a2] st h Q ↔ gm_W E d 58 46 [.ref x, a1, a2] (.ref x :: st) h Q := gw_loc m58 f58_45 rfl rfl
theorem r58_45n {E : Nat → Value} {d : Nat} {st : List Value} {h : gm_H} {Q : gm_R → gm_H → Prop} {a1 a2 : Value}  : gm_W E d 58 45 [.null, a1, a2] st h Q ↔ gm_W E d 58 46 [.null, a1, a2] (.null :: st) h Q := gw_loc m58 f58_45 rfl rfl
theorem f58_46 : gm_ft 58 46 = some (.invokevirtual 128, 3) := by decide +kernel
theorem c58_46 {E : Nat → Value} {d : Nat} {st : List Value} {h : gm_H} {Q : gm_R → gm_H → Prop} {lv : List Value} {a : Nat} {Qc : gm_R → gm_H → Prop} (hs : (st.map fun v => v.category).sum ≤ 8) (hr : gm_kd h a = 0) (hd : 1 ≤ d) (hc : gm_Ca E (d - 1) 75 [.ref a] h Qc) (kn : ∀ (v9 : Option Value) (h9 : gm_H), Qc (.inl v9) h9 → gm_W E d 58 49 lv (v9.toList ++ st) h9 Q) (kx : ∀ (x9 : Nat) (h9 : gm_H), Qc (.inr x9) h9 → gm_W E d 58 50 lv [.ref x9] h9 Q) : gm_W E d 58 46 lv (.ref a :: st) h Q := gw_callC (gn_call m58 f58_46 rfl rfl rfl rfl rfl rfl rfl (gs_virt (bs := []) (w := 479) (L := 2) rfl rfl rfl rfl hs (by simp [gm_en1]) hr (by decide)) (by decide)) m58 rfl rfl hd hc kn kx
theorem f58_49 : gm_ft 58 49 = some (.ireturn, 1) := by decide +kernel
theorem r58_49 {E : Nat → Value} {d : Nat} {h : gm_H} {Q : gm_R → gm_H → Prop} {lv : List Value} {x : Int32} : gm_W E d 58 49 lv [.int x] h Q ↔ Q (.inl (some (.int x))) h := gw_ret m58 f58_49 rfl rfl rfl rfl rfl rfl rfl rfl (by unfold gm_rt; dsimp only; rw [if_pos ⟨rfl, rfl⟩])
theorem f58_50 : gm_ft 58 50 = some (.astore_n 2, 1) := by decide +kernel
theorem r58_50 {E : Nat → Value} {d : Nat} {st : List Value} {h : gm_H} {Q : gm_R → gm_H → Prop} {a0 a1 a2 : Value} {x : Nat} : gm_W E d 58 50 [a0, a1, a2] (.ref x :: st) h Q ↔ gm_W E d 58 51 [a0, gm_k a1, .ref x] st h Q := gw_loc m58 f58_50 rfl rfl
theorem r58_50n {E : Nat → Value} {d : Nat} {st : List Value} {h : gm_H} {Q : gm_R → gm_H → Prop} {a0 a1 a2 : Value}  : gm_W E d 58 50 [a0, a1, a2] (.null :: st) h Q ↔ gm_W E d 58 51 [a0, gm_k a1, .null] st h Q := gw_loc m58 f58_50 rfl rfl
theorem f58_51 : gm_ft 58 51 = some (.aload_n 0, 1) := by decide +kernel
theorem r58_51 {E : Nat → Value} {d : Nat} {st : List Value} {h : gm_H} {Q : gm_R → gm_H → Prop} {a1 a2 : Value} {x : Nat} : gm_W E d 58 51 [.ref x, a1, a2] st h Q ↔ gm_W E d 58 52 [.ref x, a1, a2] (.ref x :: st) h Q := gw_loc m58 f58_51 rfl rfl
theorem r58_51n {E : Nat → Value} {d : Nat} {st : List Value} {h : gm_H} {Q : gm_R → gm_H → Prop} {a1 a2 : Value}  : gm_W E d 58 51 [.null, a1, a2] st h Q ↔ gm_W E d 58 52 [.null, a1, a2] (.null :: st) h Q := gw_loc m58 f58_51 rfl rfl
theorem f58_52 : gm_ft 58 52 = some (.iload_n 1, 1) := by decide +kernel
theorem r58_52 {E : Nat → Value} {d : Nat} {st : List Value} {h : gm_H} {Q : gm_R → gm_H → Prop} {a0 a2 : Value} {x : Int32} : gm_W E d 58 52 [a0, .int x, a2] st h Q ↔ gm_W E d 58 53 [a0, .int x, a2] (.int x :: st) h Q := gw_loc m58 f58_52 rfl rfl
theorem f58_53 : gm_ft 58 53 = some (.putfield 96, 3) := by decide +kernel
theorem r58_53 {E : Nat → Value} {d : Nat} {st : List Value} {h : gm_H} {Q : gm_R → gm_H → Prop} {lv : List Value} {a : Nat} {x : Int32} (hk : gm_kd h a = 0) : gm_W E d 58 53 lv (.int x :: .ref a :: st) h Q ↔ gm_W E d 58 56 lv st (gm_sf h a 7 (.int x)) Q := gw_wr m58 f58_53 rfl rfl rfl rfl rfl (gs_put k0_96 hk (by decide) (by decide) ⟨rfl, rfl⟩ (by decide))
theorem f58_56 : gm_ft 58 56 = some (.aload_n 0, 1) := by decide +kernel
theorem r58_56 {E : Nat → Value} {d : Nat} {st : List Value} {h : gm_H} {Q : gm_R → gm_H → Prop} {a1 a2 : Value} {x : Nat} : gm_W E d 58 56 [.ref x, a1, a2] st h Q ↔ gm_W E d 58 57 [.ref x, a1, a2] (.ref x :: st) h Q := gw_loc m58 f58_56 rfl rfl
theorem r58_56n {E : Nat → Value} {d : Nat} {st : List Value} {h : gm_H} {Q : gm_R → gm_H → Prop} {a1 a2 : Value}  : gm_W E d 58 56 [.null, a1, a2] st h Q ↔ gm_W E d 58 57 [.null, a1, a2] (.null :: st) h Q := gw_loc m58 f58_56 rfl rfl
theorem f58_57 : gm_ft 58 57 = some (.aload_n 0, 1) := by decide +kernel
theorem r58_57 {E : Nat → Value} {d : Nat} {st : List Value} {h : gm_H} {Q : gm_R → gm_H → Prop} {a1 a2 : Value} {x : Nat} : gm_W E d 58 57 [.ref x, a1, a2] st h Q ↔ gm_W E d 58 58 [.ref x, a1, a2] (.ref x :: st) h Q := gw_loc m58 f58_57 rfl rfl
theorem r58_57n {E : Nat → Value} {d : Nat} {st : List Value} {h : gm_H} {Q : gm_R → gm_H → Prop} {a1 a2 : Value}  : gm_W E d 58 57 [.null, a1, a2] st h Q ↔ gm_W E d 58 58 [.null, a1, a2] (.null :: st) h Q := gw_loc m58 f58_57 rfl rfl
theorem f58_58 : gm_ft 58 58 = some (.getfield 122, 3) := by decide +kernel
theorem r58_58 {E : Nat → Value} {d : Nat} {st : List Value} {h : gm_H} {Q : gm_R → gm_H → Prop} {lv : List Value} {a : Nat} (hk : gm_kd h a = 0) : gm_W E d 58 58 lv (.ref a :: st) h Q ↔ gm_W E d 58 61 lv (gm_fv h a 12 :: st) h Q := gw_rd m58 f58_58 rfl rfl rfl rfl (gs_get k0_122 hk (by decide))
theorem f58_61 : gm_ft 58 61 = some (.putfield 102, 3) := by decide +kernel
theorem r58_61 {E : Nat → Value} {d : Nat} {st : List Value} {h : gm_H} {Q : gm_R → gm_H → Prop} {lv : List Value} {a : Nat} {x : Int32} (hk : gm_kd h a = 0) : gm_W E d 58 61 lv (.int x :: .ref a :: st) h Q ↔ gm_W E d 58 64 lv st (gm_sf h a 11 (.int x)) Q := gw_wr m58 f58_61 rfl rfl rfl rfl rfl (gs_put k0_102 hk (by decide) (by decide) ⟨rfl, rfl⟩ (by decide))
theorem f58_64 : gm_ft 58 64 = some (.aload_n 0, 1) := by decide +kernel
theorem r58_64 {E : Nat → Value} {d : Nat} {st : List Value} {h : gm_H} {Q : gm_R → gm_H → Prop} {a1 a2 : Value} {x : Nat} : gm_W E d 58 64 [.ref x, a1, a2] st h Q ↔ gm_W E d 58 65 [.ref x, a1, a2] (.ref x :: st) h Q := gw_loc m58 f58_64 rfl rfl
theorem r58_64n {E : Nat → Value} {d : Nat} {st : List Value} {h : gm_H} {Q : gm_R → gm_H → Prop} {a1 a2 : Value}  : gm_W E d 58 64 [.null, a1, a2] st h Q ↔ gm_W E d 58 65 [.null, a1, a2] (.null :: st) h Q := gw_loc m58 f58_64 rfl rfl
theorem f58_65 : gm_ft 58 65 = some (.getfield 122, 3) := by decide +kernel
theorem r58_65 {E : Nat → Value} {d : Nat} {st : List Value} {h : gm_H} {Q : gm_R → gm_H → Prop} {lv : List Value} {a : Nat} (hk : gm_kd h a = 0) : gm_W E d 58 65 lv (.ref a :: st) h Q ↔ gm_W E d 58 68 lv (gm_fv h a 12 :: st) h Q := gw_rd m58 f58_65 rfl rfl rfl rfl (gs_get k0_122 hk (by decide))
theorem f58_68 : gm_ft 58 68 = some (.ireturn, 1) := by decide +kernel
theorem r58_68 {E : Nat → Value} {d : Nat} {h : gm_H} {Q : gm_R → gm_H → Prop} {lv : List Value} {x : Int32} : gm_W E d 58 68 lv [.int x] h Q ↔ Q (.inl (some (.int x))) h := gw_ret m58 f58_68 rfl rfl rfl rfl rfl rfl rfl rfl (by unfold gm_rt; dsimp only; rw [if_pos ⟨rfl, rfl⟩])
/-! GraphReader.object(II)I -/
theorem m59 : gm_mt[59]? = some (⟨"GraphReader", "object", "(II)I"⟩, prog_1_method_9_code, 4, (some .int), [], 0, 1) := rfl
theorem f59_0 : gm_ft 59 0 = some (.aload_n 0, 1) := by decide +kernel
theorem r59_0 {E : Nat → Value} {d : Nat} {st : List Value} {h : gm_H} {Q : gm_R → gm_H → Prop} {a1 a2 a3 : Value} {x : Nat} : gm_W E d 59 0 [.ref x, a1, a2, a3] st h Q ↔ gm_W E d 59 1 [.ref x, a1, a2, a3] (.ref x :: st) h Q := gw_loc m59 f59_0 rfl rfl
theorem r59_0n {E : Nat → Value} {d : Nat} {st : List Value} {h : gm_H} {Q : gm_R → gm_H → Prop} {a1 a2 a3 : Value}  : gm_W E d 59 0 [.null, a1, a2, a3] st h Q ↔ gm_W E d 59 1 [.null, a1, a2, a3] (.null :: st) h Q := gw_loc m59 f59_0 rfl rfl
theorem f59_1 : gm_ft 59 1 = some (.iload_n 1, 1) := by decide +kernel
theorem r59_1 {E : Nat → Value} {d : Nat} {st : List Value} {h : gm_H} {Q : gm_R → gm_H → Prop} {a0 a2 a3 : Value} {x : Int32} : gm_W E d 59 1 [a0, .int x, a2, a3] st h Q ↔ gm_W E d 59 2 [a0, .int x, a2, a3] (.int x :: st) h Q := gw_loc m59 f59_1 rfl rfl
theorem f59_2 : gm_ft 59 2 = some (.invokevirtual 131, 3) := by decide +kernel
theorem c59_2 {E : Nat → Value} {d : Nat} {st : List Value} {h : gm_H} {Q : gm_R → gm_H → Prop} {lv : List Value} {b0 : Int32} {a : Nat} {Qc : gm_R → gm_H → Prop} (hs : (st.map fun v => v.category).sum ≤ 8) (hr : gm_kd h a = 0) (hd : 1 ≤ d) (hc : gm_Ca E (d - 1) 65 [.ref a, .int b0] h Qc) (kn : ∀ (v9 : Option Value) (h9 : gm_H), Qc (.inl v9) h9 → gm_W E d 59 5 lv (v9.toList ++ st) h9 Q) (kx : ∀ (x9 : Nat) (h9 : gm_H), Qc (.inr x9) h9 → Q (.inr x9) h9) : gm_W E d 59 2 lv (.int b0 :: .ref a :: st) h Q := gw_call (gn_call m59 f59_2 rfl rfl rfl rfl rfl rfl rfl (gs_virt (bs := [.int b0]) (w := 468) (L := 2) rfl rfl rfl rfl hs (by simp [gm_en1]) hr (by decide)) (by decide)) m59 rfl rfl hd hc kn kx
theorem f59_5 : gm_ft 59 5 = some (.ifCond .ne 5, 3) := by decide +kernel
theorem r59_5 {E : Nat → Value} {d : Nat} {st : List Value} {h : gm_H} {Q : gm_R → gm_H → Prop} {lv : List Value} {x : Int32} : gm_W E d 59 5 lv (.int x :: st) h Q ↔ (if x = 0 then gm_W E d 59 8 lv st h Q else gm_W E d 59 10 lv st h Q) := (gw_br m59 f59_5 rfl rfl rfl rfl).trans gw_ifn
theorem f59_8 : gm_ft 59 8 = some (.iconst (-1), 1) := by decide +kernel
theorem r59_8 {E : Nat → Value} {d : Nat} {st : List Value} {h : gm_H} {Q : gm_R → gm_H → Prop} {lv : List Value} : gm_W E d 59 8 lv st h Q ↔ gm_W E d 59 9 lv (.int (-1 : Int32) :: st) h Q := gw_pure m59 f59_8 rfl
theorem f59_9 : gm_ft 59 9 = some (.ireturn, 1) := by decide +kernel
theorem r59_9 {E : Nat → Value} {d : Nat} {h : gm_H} {Q : gm_R → gm_H → Prop} {lv : List Value} {x : Int32} : gm_W E d 59 9 lv [.int x] h Q ↔ Q (.inl (some (.int x))) h := gw_ret m59 f59_9 rfl rfl rfl rfl rfl rfl rfl rfl (by unfold gm_rt; dsimp only; rw [if_pos ⟨rfl, rfl⟩])
theorem f59_10 : gm_ft 59 10 = some (.aload_n 0, 1) := by decide +kernel
theorem r59_10 {E : Nat → Value} {d : Nat} {st : List Value} {h : gm_H} {Q : gm_R → gm_H → Prop} {a1 a2 a3 : Value} {x : Nat} : gm_W E d 59 10 [.ref x, a1, a2, a3] st h Q ↔ gm_W E d 59 11 [.ref x, a1, a2, a3] (.ref x :: st) h Q := gw_loc m59 f59_10 rfl rfl
theorem r59_10n {E : Nat → Value} {d : Nat} {st : List Value} {h : gm_H} {Q : gm_R → gm_H → Prop} {a1 a2 a3 : Value}  : gm_W E d 59 10 [.null, a1, a2, a3] st h Q ↔ gm_W E d 59 11 [.null, a1, a2, a3] (.null :: st) h Q := gw_loc m59 f59_10 rfl rfl
theorem f59_11 : gm_ft 59 11 = some (.getfield 21, 3) := by decide +kernel
theorem r59_11 {E : Nat → Value} {d : Nat} {st : List Value} {h : gm_H} {Q : gm_R → gm_H → Prop} {lv : List Value} {a : Nat} (hk : gm_kd h a = 0) : gm_W E d 59 11 lv (.ref a :: st) h Q ↔ gm_W E d 59 14 lv (gm_fv h a 8 :: st) h Q := gw_rd m59 f59_11 rfl rfl rfl rfl (gs_get k0_21 hk (by decide))
theorem f59_14 : gm_ft 59 14 = some (.iload_n 1, 1) := by decide +kernel
theorem r59_14 {E : Nat → Value} {d : Nat} {st : List Value} {h : gm_H} {Q : gm_R → gm_H → Prop} {a0 a2 a3 : Value} {x : Int32} : gm_W E d 59 14 [a0, .int x, a2, a3] st h Q ↔ gm_W E d 59 15 [a0, .int x, a2, a3] (.int x :: st) h Q := gw_loc m59 f59_14 rfl rfl
theorem f59_15 : gm_ft 59 15 = some (.aaload, 1) := by decide +kernel
theorem r59_15 {E : Nat → Value} {d : Nat} {st : List Value} {h : gm_H} {Q : gm_R → gm_H → Prop} {lv : List Value} {a j : Nat} (hk : (gm_kd h a % 100 = 10 ∨ gm_kd h a % 100 = 11 ∨ gm_kd h a % 100 = 12) ∧ 100 ≤ gm_kd h a ∧ gm_kd h a < 900) (hj : j < gm_ln h a) (hl : gm_ln h a < 2 ^ 31) : gm_W E d 59 15 lv (.int (nI j) :: .ref a :: st) h Q ↔ gm_W E d 59 16 lv (gm_fv h a j :: st) h Q := gw_rd m59 f59_15 rfl rfl rfl rfl (gs_ld (P := fun t => t == 10 || t == 11 || t == 12) hk.2 (by have := hk.1; simp [this] <;> omega) hj hl)
theorem f59_16 : gm_ft 59 16 = some (.astore_n 3, 1) := by decide +kernel
theorem r59_16 {E : Nat → Value} {d : Nat} {st : List Value} {h : gm_H} {Q : gm_R → gm_H → Prop} {a0 a1 a2 a3 : Value} {x : Nat} : gm_W E d 59 16 [a0, a1, a2, a3] (.ref x :: st) h Q ↔ gm_W E d 59 17 [a0, a1, gm_k a2, .ref x] st h Q := gw_loc m59 f59_16 rfl rfl
theorem r59_16n {E : Nat → Value} {d : Nat} {st : List Value} {h : gm_H} {Q : gm_R → gm_H → Prop} {a0 a1 a2 a3 : Value}  : gm_W E d 59 16 [a0, a1, a2, a3] (.null :: st) h Q ↔ gm_W E d 59 17 [a0, a1, gm_k a2, .null] st h Q := gw_loc m59 f59_16 rfl rfl
theorem f59_17 : gm_ft 59 17 = some (.iload_n 2, 1) := by decide +kernel
theorem r59_17 {E : Nat → Value} {d : Nat} {st : List Value} {h : gm_H} {Q : gm_R → gm_H → Prop} {a0 a1 a3 : Value} {x : Int32} : gm_W E d 59 17 [a0, a1, .int x, a3] st h Q ↔ gm_W E d 59 18 [a0, a1, .int x, a3] (.int x :: st) h Q := gw_loc m59 f59_17 rfl rfl
theorem f59_18 : gm_ft 59 18 = some (.tableswitch 80 0 3 #[30, 35, 54, 75], 30) := by decide +kernel
theorem e59_18d {E : Nat → Value} {d : Nat} {st : List Value} {h : gm_H} {Q : gm_R → gm_H → Prop} {lv : List Value} {x : Int32} (hx : x.toInt < 0 ∨ 3 < x.toInt) : gm_W E d 59 18 lv (.int x :: st) h Q ↔ gm_W E d 59 98 lv st h Q := gw_sw m59 f59_18 rfl rfl rfl (by unfold gm_sw; dsimp only; rw [if_pos hx]) rfl
theorem r59_18 {E : Nat → Value} {d : Nat} {st : List Value} {h : gm_H} {Q : gm_R → gm_H → Prop} {lv : List Value} {x : Int32} : gm_W E d 59 18 lv (.int x :: st) h Q ↔ (if x = (0 : Int32) then gm_W E d 59 48 lv st h Q else (if x = (1 : Int32) then gm_W E d 59 53 lv st h Q else (if x = (2 : Int32) then gm_W E d 59 72 lv st h Q else (if x = (3 : Int32) then gm_W E d 59 93 lv st h Q else gm_W E d 59 98 lv st h Q)))) := by
  by_cases z0 : x = (0 : Int32)
  · subst z0; rw [gw_sw m59 f59_18 rfl rfl rfl rfl rfl]; simp
  rw [if_neg z0]
  by_cases z1 : x = (1 : Int32)
  · subst z1; rw [gw_sw m59 f59_18 rfl rfl rfl rfl rfl]; simp
  rw [if_neg z1]
  by_cases z2 : x = (2 : Int32)
  · subst z2; rw [gw_sw m59 f59_18 rfl rfl rfl rfl rfl]; simp
  rw [if_neg z2]
  by_cases z3 : x = (3 : Int32)
  · subst z3; rw [gw_sw m59 f59_18 rfl rfl rfl rfl rfl]; simp
  rw [if_neg z3]
  exact e59_18d (gm_tsw (n := 4) (by decide) (by decide) (fun k hk => by
    have hk : k < 4 := hk
    match k, hk with
    | 0, _ => exact z0
    | 1, _ => exact z1
    | 2, _ => exact z2
    | 3, _ => exact z3
    | k + 4, hk => omega))
theorem f59_48 : gm_ft 59 48 = some (.aload_n 3, 1) := by decide +kernel
theorem r59_48 {E : Nat → Value} {d : Nat} {st : List Value} {h : gm_H} {Q : gm_R → gm_H → Prop} {a0 a1 a2 : Value} {x : Nat} : gm_W E d 59 48 [a0, a1, a2, .ref x] st h Q ↔ gm_W E d 59 49 [a0, a1, a2, .ref x] (.ref x :: st) h Q := gw_loc m59 f59_48 rfl rfl
theorem r59_48n {E : Nat → Value} {d : Nat} {st : List Value} {h : gm_H} {Q : gm_R → gm_H → Prop} {a0 a1 a2 : Value}  : gm_W E d 59 48 [a0, a1, a2, .null] st h Q ↔ gm_W E d 59 49 [a0, a1, a2, .null] (.null :: st) h Q := gw_loc m59 f59_48 rfl rfl
theorem f59_49 : gm_ft 59 49 = some (.getfield 134, 3) := by decide +kernel
theorem r59_49 {E : Nat → Value} {d : Nat} {st : List Value} {h : gm_H} {Q : gm_R → gm_H → Prop} {lv : List Value} {a : Nat} (hk : gm_kd h a = 4) : gm_W E d 59 49 lv (.ref a :: st) h Q ↔ gm_W E d 59 52 lv (gm_fv h a 0 :: st) h Q := gw_rd m59 f59_49 rfl rfl rfl rfl (gs_get k0_134 hk (by decide))
theorem f59_52 : gm_ft 59 52 = some (.ireturn, 1) := by decide +kernel
theorem r59_52 {E : Nat → Value} {d : Nat} {h : gm_H} {Q : gm_R → gm_H → Prop} {lv : List Value} {x : Int32} : gm_W E d 59 52 lv [.int x] h Q ↔ Q (.inl (some (.int x))) h := gw_ret m59 f59_52 rfl rfl rfl rfl rfl rfl rfl rfl (by unfold gm_rt; dsimp only; rw [if_pos ⟨rfl, rfl⟩])
theorem f59_53 : gm_ft 59 53 = some (.aload_n 3, 1) := by decide +kernel
theorem r59_53 {E : Nat → Value} {d : Nat} {st : List Value} {h : gm_H} {Q : gm_R → gm_H → Prop} {a0 a1 a2 : Value} {x : Nat} : gm_W E d 59 53 [a0, a1, a2, .ref x] st h Q ↔ gm_W E d 59 54 [a0, a1, a2, .ref x] (.ref x :: st) h Q := gw_loc m59 f59_53 rfl rfl
theorem r59_53n {E : Nat → Value} {d : Nat} {st : List Value} {h : gm_H} {Q : gm_R → gm_H → Prop} {a0 a1 a2 : Value}  : gm_W E d 59 53 [a0, a1, a2, .null] st h Q ↔ gm_W E d 59 54 [a0, a1, a2, .null] (.null :: st) h Q := gw_loc m59 f59_53 rfl rfl
theorem f59_54 : gm_ft 59 54 = some (.getfield 137, 3) := by decide +kernel
theorem r59_54 {E : Nat → Value} {d : Nat} {st : List Value} {h : gm_H} {Q : gm_R → gm_H → Prop} {lv : List Value} {a : Nat} (hk : gm_kd h a = 4) : gm_W E d 59 54 lv (.ref a :: st) h Q ↔ gm_W E d 59 57 lv (gm_fv h a 1 :: st) h Q := gw_rd m59 f59_54 rfl rfl rfl rfl (gs_get k0_137 hk (by decide))
theorem f59_57 : gm_ft 59 57 = some (.ifnonnull 7, 3) := by decide +kernel
theorem r59_57n {E : Nat → Value} {d : Nat} {st : List Value} {h : gm_H} {Q : gm_R → gm_H → Prop} {lv : List Value} : gm_W E d 59 57 lv (.null :: st) h Q ↔ gm_W E d 59 60 lv st h Q := gw_brF m59 f59_57 rfl rfl rfl rfl
theorem r59_57 {E : Nat → Value} {d : Nat} {st : List Value} {h : gm_H} {Q : gm_R → gm_H → Prop} {lv : List Value} {a : Nat} : gm_W E d 59 57 lv (.ref a :: st) h Q ↔ gm_W E d 59 64 lv st h Q := gw_brT m59 f59_57 rfl rfl rfl rfl
theorem f59_60 : gm_ft 59 60 = some (.iconst (-1), 1) := by decide +kernel
theorem r59_60 {E : Nat → Value} {d : Nat} {st : List Value} {h : gm_H} {Q : gm_R → gm_H → Prop} {lv : List Value} : gm_W E d 59 60 lv st h Q ↔ gm_W E d 59 61 lv (.int (-1 : Int32) :: st) h Q := gw_pure m59 f59_60 rfl
theorem f59_61 : gm_ft 59 61 = some (.goto 10, 3) := by decide +kernel
theorem r59_61 {E : Nat → Value} {d : Nat} {st : List Value} {h : gm_H} {Q : gm_R → gm_H → Prop} {lv : List Value} : gm_W E d 59 61 lv st h Q ↔ gm_W E d 59 71 lv st h Q := gw_brT m59 f59_61 rfl rfl rfl rfl
theorem f59_64 : gm_ft 59 64 = some (.aload_n 3, 1) := by decide +kernel
theorem r59_64 {E : Nat → Value} {d : Nat} {st : List Value} {h : gm_H} {Q : gm_R → gm_H → Prop} {a0 a1 a2 : Value} {x : Nat} : gm_W E d 59 64 [a0, a1, a2, .ref x] st h Q ↔ gm_W E d 59 65 [a0, a1, a2, .ref x] (.ref x :: st) h Q := gw_loc m59 f59_64 rfl rfl
theorem r59_64n {E : Nat → Value} {d : Nat} {st : List Value} {h : gm_H} {Q : gm_R → gm_H → Prop} {a0 a1 a2 : Value}  : gm_W E d 59 64 [a0, a1, a2, .null] st h Q ↔ gm_W E d 59 65 [a0, a1, a2, .null] (.null :: st) h Q := gw_loc m59 f59_64 rfl rfl
theorem f59_65 : gm_ft 59 65 = some (.getfield 137, 3) := by decide +kernel
theorem r59_65 {E : Nat → Value} {d : Nat} {st : List Value} {h : gm_H} {Q : gm_R → gm_H → Prop} {lv : List Value} {a : Nat} (hk : gm_kd h a = 4) : gm_W E d 59 65 lv (.ref a :: st) h Q ↔ gm_W E d 59 68 lv (gm_fv h a 1 :: st) h Q := gw_rd m59 f59_65 rfl rfl rfl rfl (gs_get k0_137 hk (by decide))
theorem f59_68 : gm_ft 59 68 = some (.getfield 141, 3) := by decide +kernel
theorem r59_68 {E : Nat → Value} {d : Nat} {st : List Value} {h : gm_H} {Q : gm_R → gm_H → Prop} {lv : List Value} {a : Nat} (hk : gm_kd h a = 3) : gm_W E d 59 68 lv (.ref a :: st) h Q ↔ gm_W E d 59 71 lv (gm_fv h a 0 :: st) h Q := gw_rd m59 f59_68 rfl rfl rfl rfl (gs_get k0_141 hk (by decide))
theorem f59_71 : gm_ft 59 71 = some (.ireturn, 1) := by decide +kernel
theorem r59_71 {E : Nat → Value} {d : Nat} {h : gm_H} {Q : gm_R → gm_H → Prop} {lv : List Value} {x : Int32} : gm_W E d 59 71 lv [.int x] h Q ↔ Q (.inl (some (.int x))) h := gw_ret m59 f59_71 rfl rfl rfl rfl rfl rfl rfl rfl (by unfold gm_rt; dsimp only; rw [if_pos ⟨rfl, rfl⟩])
theorem f59_72 : gm_ft 59 72 = some (.aload_n 3, 1) := by decide +kernel
theorem r59_72 {E : Nat → Value} {d : Nat} {st : List Value} {h : gm_H} {Q : gm_R → gm_H → Prop} {a0 a1 a2 : Value} {x : Nat} : gm_W E d 59 72 [a0, a1, a2, .ref x] st h Q ↔ gm_W E d 59 73 [a0, a1, a2, .ref x] (.ref x :: st) h Q := gw_loc m59 f59_72 rfl rfl
theorem r59_72n {E : Nat → Value} {d : Nat} {st : List Value} {h : gm_H} {Q : gm_R → gm_H → Prop} {a0 a1 a2 : Value}  : gm_W E d 59 72 [a0, a1, a2, .null] st h Q ↔ gm_W E d 59 73 [a0, a1, a2, .null] (.null :: st) h Q := gw_loc m59 f59_72 rfl rfl
theorem f59_73 : gm_ft 59 73 = some (.getfield 134, 3) := by decide +kernel
theorem r59_73 {E : Nat → Value} {d : Nat} {st : List Value} {h : gm_H} {Q : gm_R → gm_H → Prop} {lv : List Value} {a : Nat} (hk : gm_kd h a = 4) : gm_W E d 59 73 lv (.ref a :: st) h Q ↔ gm_W E d 59 76 lv (gm_fv h a 0 :: st) h Q := gw_rd m59 f59_73 rfl rfl rfl rfl (gs_get k0_134 hk (by decide))
theorem f59_76 : gm_ft 59 76 = some (.iconst 4, 1) := by decide +kernel
theorem r59_76 {E : Nat → Value} {d : Nat} {st : List Value} {h : gm_H} {Q : gm_R → gm_H → Prop} {lv : List Value} : gm_W E d 59 76 lv st h Q ↔ gm_W E d 59 77 lv (.int (4 : Int32) :: st) h Q := gw_pure m59 f59_76 rfl
theorem f59_77 : gm_ft 59 77 = some (.if_icmp .ne 10, 3) := by decide +kernel
theorem r59_77 {E : Nat → Value} {d : Nat} {st : List Value} {h : gm_H} {Q : gm_R → gm_H → Prop} {lv : List Value} {x y : Int32} : gm_W E d 59 77 lv (.int y :: .int x :: st) h Q ↔ (if x = y then gm_W E d 59 80 lv st h Q else gm_W E d 59 87 lv st h Q) := (gw_br m59 f59_77 rfl rfl rfl rfl).trans gw_ifn
theorem f59_80 : gm_ft 59 80 = some (.aload_n 3, 1) := by decide +kernel
theorem r59_80 {E : Nat → Value} {d : Nat} {st : List Value} {h : gm_H} {Q : gm_R → gm_H → Prop} {a0 a1 a2 : Value} {x : Nat} : gm_W E d 59 80 [a0, a1, a2, .ref x] st h Q ↔ gm_W E d 59 81 [a0, a1, a2, .ref x] (.ref x :: st) h Q := gw_loc m59 f59_80 rfl rfl
theorem r59_80n {E : Nat → Value} {d : Nat} {st : List Value} {h : gm_H} {Q : gm_R → gm_H → Prop} {a0 a1 a2 : Value}  : gm_W E d 59 80 [a0, a1, a2, .null] st h Q ↔ gm_W E d 59 81 [a0, a1, a2, .null] (.null :: st) h Q := gw_loc m59 f59_80 rfl rfl
theorem f59_81 : gm_ft 59 81 = some (.getfield 144, 3) := by decide +kernel
theorem r59_81 {E : Nat → Value} {d : Nat} {st : List Value} {h : gm_H} {Q : gm_R → gm_H → Prop} {lv : List Value} {a : Nat} (hk : gm_kd h a = 4) : gm_W E d 59 81 lv (.ref a :: st) h Q ↔ gm_W E d 59 84 lv (gm_fv h a 3 :: st) h Q := gw_rd m59 f59_81 rfl rfl rfl rfl (gs_get k0_144 hk (by decide))
theorem f59_84 : gm_ft 59 84 = some (.goto 8, 3) := by decide +kernel
theorem r59_84 {E : Nat → Value} {d : Nat} {st : List Value} {h : gm_H} {Q : gm_R → gm_H → Prop} {lv : List Value} : gm_W E d 59 84 lv st h Q ↔ gm_W E d 59 92 lv st h Q := gw_brT m59 f59_84 rfl rfl rfl rfl
theorem f59_87 : gm_ft 59 87 = some (.aload_n 3, 1) := by decide +kernel
theorem r59_87 {E : Nat → Value} {d : Nat} {st : List Value} {h : gm_H} {Q : gm_R → gm_H → Prop} {a0 a1 a2 : Value} {x : Nat} : gm_W E d 59 87 [a0, a1, a2, .ref x] st h Q ↔ gm_W E d 59 88 [a0, a1, a2, .ref x] (.ref x :: st) h Q := gw_loc m59 f59_87 rfl rfl
theorem r59_87n {E : Nat → Value} {d : Nat} {st : List Value} {h : gm_H} {Q : gm_R → gm_H → Prop} {a0 a1 a2 : Value}  : gm_W E d 59 87 [a0, a1, a2, .null] st h Q ↔ gm_W E d 59 88 [a0, a1, a2, .null] (.null :: st) h Q := gw_loc m59 f59_87 rfl rfl
theorem f59_88 : gm_ft 59 88 = some (.getfield 147, 3) := by decide +kernel
theorem r59_88 {E : Nat → Value} {d : Nat} {st : List Value} {h : gm_H} {Q : gm_R → gm_H → Prop} {lv : List Value} {a : Nat} (hk : gm_kd h a = 4) : gm_W E d 59 88 lv (.ref a :: st) h Q ↔ gm_W E d 59 91 lv (gm_fv h a 2 :: st) h Q := gw_rd m59 f59_88 rfl rfl rfl rfl (gs_get k0_147 hk (by decide))
theorem f59_91 : gm_ft 59 91 = some (.arraylength, 1) := by decide +kernel
theorem r59_91 {E : Nat → Value} {d : Nat} {st : List Value} {h : gm_H} {Q : gm_R → gm_H → Prop} {lv : List Value} {a : Nat} (hk : 100 ≤ gm_kd h a ∧ gm_kd h a < 900) : gm_W E d 59 91 lv (.ref a :: st) h Q ↔ gm_W E d 59 92 lv (.int (nI (gm_ln h a)) :: st) h Q := gw_rd m59 f59_91 rfl rfl rfl rfl (gs_len hk)
theorem f59_92 : gm_ft 59 92 = some (.ireturn, 1) := by decide +kernel
theorem r59_92 {E : Nat → Value} {d : Nat} {h : gm_H} {Q : gm_R → gm_H → Prop} {lv : List Value} {x : Int32} : gm_W E d 59 92 lv [.int x] h Q ↔ Q (.inl (some (.int x))) h := gw_ret m59 f59_92 rfl rfl rfl rfl rfl rfl rfl rfl (by unfold gm_rt; dsimp only; rw [if_pos ⟨rfl, rfl⟩])
theorem f59_93 : gm_ft 59 93 = some (.aload_n 3, 1) := by decide +kernel
theorem r59_93 {E : Nat → Value} {d : Nat} {st : List Value} {h : gm_H} {Q : gm_R → gm_H → Prop} {a0 a1 a2 : Value} {x : Nat} : gm_W E d 59 93 [a0, a1, a2, .ref x] st h Q ↔ gm_W E d 59 94 [a0, a1, a2, .ref x] (.ref x :: st) h Q := gw_loc m59 f59_93 rfl rfl
theorem r59_93n {E : Nat → Value} {d : Nat} {st : List Value} {h : gm_H} {Q : gm_R → gm_H → Prop} {a0 a1 a2 : Value}  : gm_W E d 59 93 [a0, a1, a2, .null] st h Q ↔ gm_W E d 59 94 [a0, a1, a2, .null] (.null :: st) h Q := gw_loc m59 f59_93 rfl rfl
theorem f59_94 : gm_ft 59 94 = some (.getfield 151, 3) := by decide +kernel
theorem r59_94 {E : Nat → Value} {d : Nat} {st : List Value} {h : gm_H} {Q : gm_R → gm_H → Prop} {lv : List Value} {a : Nat} (hk : gm_kd h a = 4) : gm_W E d 59 94 lv (.ref a :: st) h Q ↔ gm_W E d 59 97 lv (gm_fv h a 4 :: st) h Q := gw_rd m59 f59_94 rfl rfl rfl rfl (gs_get k0_151 hk (by decide))
theorem f59_97 : gm_ft 59 97 = some (.ireturn, 1) := by decide +kernel
theorem r59_97 {E : Nat → Value} {d : Nat} {h : gm_H} {Q : gm_R → gm_H → Prop} {lv : List Value} {x : Int32} : gm_W E d 59 97 lv [.int x] h Q ↔ Q (.inl (some (.int x))) h := gw_ret m59 f59_97 rfl rfl rfl rfl rfl rfl rfl rfl (by unfold gm_rt; dsimp only; rw [if_pos ⟨rfl, rfl⟩])
theorem f59_98 : gm_ft 59 98 = some (.iconst (-1), 1) := by decide +kernel
theorem r59_98 {E : Nat → Value} {d : Nat} {st : List Value} {h : gm_H} {Q : gm_R → gm_H → Prop} {lv : List Value} : gm_W E d 59 98 lv st h Q ↔ gm_W E d 59 99 lv (.int (-1 : Int32) :: st) h Q := gw_pure m59 f59_98 rfl
theorem f59_99 : gm_ft 59 99 = some (.ireturn, 1) := by decide +kernel
theorem r59_99 {E : Nat → Value} {d : Nat} {h : gm_H} {Q : gm_R → gm_H → Prop} {lv : List Value} {x : Int32} : gm_W E d 59 99 lv [.int x] h Q ↔ Q (.inl (some (.int x))) h := gw_ret m59 f59_99 rfl rfl rfl rfl rfl rfl rfl rfl (by unfold gm_rt; dsimp only; rw [if_pos ⟨rfl, rfl⟩])
/-! GraphReader.value(II)J -/
theorem m60 : gm_mt[60]? = some (⟨"GraphReader", "value", "(II)J"⟩, prog_1_method_10_code, 3, (some .long), [], 0, 1) := rfl
theorem f60_0 : gm_ft 60 0 = some (.aload_n 0, 1) := by decide +kernel
theorem r60_0 {E : Nat → Value} {d : Nat} {st : List Value} {h : gm_H} {Q : gm_R → gm_H → Prop} {a1 a2 : Value} {x : Nat} : gm_W E d 60 0 [.ref x, a1, a2] st h Q ↔ gm_W E d 60 1 [.ref x, a1, a2] (.ref x :: st) h Q := gw_loc m60 f60_0 rfl rfl
theorem r60_0n {E : Nat → Value} {d : Nat} {st : List Value} {h : gm_H} {Q : gm_R → gm_H → Prop} {a1 a2 : Value}  : gm_W E d 60 0 [.null, a1, a2] st h Q ↔ gm_W E d 60 1 [.null, a1, a2] (.null :: st) h Q := gw_loc m60 f60_0 rfl rfl
theorem f60_1 : gm_ft 60 1 = some (.iload_n 1, 1) := by decide +kernel
theorem r60_1 {E : Nat → Value} {d : Nat} {st : List Value} {h : gm_H} {Q : gm_R → gm_H → Prop} {a0 a2 : Value} {x : Int32} : gm_W E d 60 1 [a0, .int x, a2] st h Q ↔ gm_W E d 60 2 [a0, .int x, a2] (.int x :: st) h Q := gw_loc m60 f60_1 rfl rfl
theorem f60_2 : gm_ft 60 2 = some (.invokevirtual 131, 3) := by decide +kernel
theorem c60_2 {E : Nat → Value} {d : Nat} {st : List Value} {h : gm_H} {Q : gm_R → gm_H → Prop} {lv : List Value} {b0 : Int32} {a : Nat} {Qc : gm_R → gm_H → Prop} (hs : (st.map fun v => v.category).sum ≤ 8) (hr : gm_kd h a = 0) (hd : 1 ≤ d) (hc : gm_Ca E (d - 1) 65 [.ref a, .int b0] h Qc) (kn : ∀ (v9 : Option Value) (h9 : gm_H), Qc (.inl v9) h9 → gm_W E d 60 5 lv (v9.toList ++ st) h9 Q) (kx : ∀ (x9 : Nat) (h9 : gm_H), Qc (.inr x9) h9 → Q (.inr x9) h9) : gm_W E d 60 2 lv (.int b0 :: .ref a :: st) h Q := gw_call (gn_call m60 f60_2 rfl rfl rfl rfl rfl rfl rfl (gs_virt (bs := [.int b0]) (w := 468) (L := 2) rfl rfl rfl rfl hs (by simp [gm_en1]) hr (by decide)) (by decide)) m60 rfl rfl hd hc kn kx
theorem f60_5 : gm_ft 60 5 = some (.ifCond .eq 21, 3) := by decide +kernel
theorem r60_5 {E : Nat → Value} {d : Nat} {st : List Value} {h : gm_H} {Q : gm_R → gm_H → Prop} {lv : List Value} {x : Int32} : gm_W E d 60 5 lv (.int x :: st) h Q ↔ (if x = 0 then gm_W E d 60 26 lv st h Q else gm_W E d 60 8 lv st h Q) := (gw_br m60 f60_5 rfl rfl rfl rfl).trans gw_if
theorem f60_8 : gm_ft 60 8 = some (.iload_n 2, 1) := by decide +kernel
theorem r60_8 {E : Nat → Value} {d : Nat} {st : List Value} {h : gm_H} {Q : gm_R → gm_H → Prop} {a0 a1 : Value} {x : Int32} : gm_W E d 60 8 [a0, a1, .int x] st h Q ↔ gm_W E d 60 9 [a0, a1, .int x] (.int x :: st) h Q := gw_loc m60 f60_8 rfl rfl
theorem f60_9 : gm_ft 60 9 = some (.ifCond .lt 17, 3) := by decide +kernel
theorem r60_9 {E : Nat → Value} {d : Nat} {st : List Value} {h : gm_H} {Q : gm_R → gm_H → Prop} {lv : List Value} {x : Int32} : gm_W E d 60 9 lv (.int x :: st) h Q ↔ (if x < 0 then gm_W E d 60 26 lv st h Q else gm_W E d 60 12 lv st h Q) := (gw_br m60 f60_9 rfl rfl rfl rfl).trans gw_if
theorem f60_12 : gm_ft 60 12 = some (.iload_n 2, 1) := by decide +kernel
theorem r60_12 {E : Nat → Value} {d : Nat} {st : List Value} {h : gm_H} {Q : gm_R → gm_H → Prop} {a0 a1 : Value} {x : Int32} : gm_W E d 60 12 [a0, a1, .int x] st h Q ↔ gm_W E d 60 13 [a0, a1, .int x] (.int x :: st) h Q := gw_loc m60 f60_12 rfl rfl
theorem f60_13 : gm_ft 60 13 = some (.aload_n 0, 1) := by decide +kernel
theorem r60_13 {E : Nat → Value} {d : Nat} {st : List Value} {h : gm_H} {Q : gm_R → gm_H → Prop} {a1 a2 : Value} {x : Nat} : gm_W E d 60 13 [.ref x, a1, a2] st h Q ↔ gm_W E d 60 14 [.ref x, a1, a2] (.ref x :: st) h Q := gw_loc m60 f60_13 rfl rfl
theorem r60_13n {E : Nat → Value} {d : Nat} {st : List Value} {h : gm_H} {Q : gm_R → gm_H → Prop} {a1 a2 : Value}  : gm_W E d 60 13 [.null, a1, a2] st h Q ↔ gm_W E d 60 14 [.null, a1, a2] (.null :: st) h Q := gw_loc m60 f60_13 rfl rfl
theorem f60_14 : gm_ft 60 14 = some (.getfield 21, 3) := by decide +kernel
theorem r60_14 {E : Nat → Value} {d : Nat} {st : List Value} {h : gm_H} {Q : gm_R → gm_H → Prop} {lv : List Value} {a : Nat} (hk : gm_kd h a = 0) : gm_W E d 60 14 lv (.ref a :: st) h Q ↔ gm_W E d 60 17 lv (gm_fv h a 8 :: st) h Q := gw_rd m60 f60_14 rfl rfl rfl rfl (gs_get k0_21 hk (by decide))
theorem f60_17 : gm_ft 60 17 = some (.iload_n 1, 1) := by decide +kernel
theorem r60_17 {E : Nat → Value} {d : Nat} {st : List Value} {h : gm_H} {Q : gm_R → gm_H → Prop} {a0 a2 : Value} {x : Int32} : gm_W E d 60 17 [a0, .int x, a2] st h Q ↔ gm_W E d 60 18 [a0, .int x, a2] (.int x :: st) h Q := gw_loc m60 f60_17 rfl rfl
theorem f60_18 : gm_ft 60 18 = some (.aaload, 1) := by decide +kernel
theorem r60_18 {E : Nat → Value} {d : Nat} {st : List Value} {h : gm_H} {Q : gm_R → gm_H → Prop} {lv : List Value} {a j : Nat} (hk : (gm_kd h a % 100 = 10 ∨ gm_kd h a % 100 = 11 ∨ gm_kd h a % 100 = 12) ∧ 100 ≤ gm_kd h a ∧ gm_kd h a < 900) (hj : j < gm_ln h a) (hl : gm_ln h a < 2 ^ 31) : gm_W E d 60 18 lv (.int (nI j) :: .ref a :: st) h Q ↔ gm_W E d 60 19 lv (gm_fv h a j :: st) h Q := gw_rd m60 f60_18 rfl rfl rfl rfl (gs_ld (P := fun t => t == 10 || t == 11 || t == 12) hk.2 (by have := hk.1; simp [this] <;> omega) hj hl)
theorem f60_19 : gm_ft 60 19 = some (.getfield 147, 3) := by decide +kernel
theorem r60_19 {E : Nat → Value} {d : Nat} {st : List Value} {h : gm_H} {Q : gm_R → gm_H → Prop} {lv : List Value} {a : Nat} (hk : gm_kd h a = 4) : gm_W E d 60 19 lv (.ref a :: st) h Q ↔ gm_W E d 60 22 lv (gm_fv h a 2 :: st) h Q := gw_rd m60 f60_19 rfl rfl rfl rfl (gs_get k0_147 hk (by decide))
theorem f60_22 : gm_ft 60 22 = some (.arraylength, 1) := by decide +kernel
theorem r60_22 {E : Nat → Value} {d : Nat} {st : List Value} {h : gm_H} {Q : gm_R → gm_H → Prop} {lv : List Value} {a : Nat} (hk : 100 ≤ gm_kd h a ∧ gm_kd h a < 900) : gm_W E d 60 22 lv (.ref a :: st) h Q ↔ gm_W E d 60 23 lv (.int (nI (gm_ln h a)) :: st) h Q := gw_rd m60 f60_22 rfl rfl rfl rfl (gs_len hk)
theorem f60_23 : gm_ft 60 23 = some (.if_icmp .lt 7, 3) := by decide +kernel
theorem r60_23 {E : Nat → Value} {d : Nat} {st : List Value} {h : gm_H} {Q : gm_R → gm_H → Prop} {lv : List Value} {x y : Int32} : gm_W E d 60 23 lv (.int y :: .int x :: st) h Q ↔ (if x < y then gm_W E d 60 30 lv st h Q else gm_W E d 60 26 lv st h Q) := (gw_br m60 f60_23 rfl rfl rfl rfl).trans gw_if
theorem f60_26 : gm_ft 60 26 = some (.ldc2_w 154, 3) := by decide +kernel
theorem r60_26 {E : Nat → Value} {d : Nat} {st : List Value} {h : gm_H} {Q : gm_R → gm_H → Prop} {lv : List Value} : gm_W E d 60 26 lv st h Q ↔ gm_W E d 60 29 lv (.long (-9000000000000000000 : Int64) :: st) h Q := gw_rd m60 f60_26 rfl rfl rfl rfl rfl
theorem f60_29 : gm_ft 60 29 = some (.lreturn, 1) := by decide +kernel
theorem r60_29 {E : Nat → Value} {d : Nat} {h : gm_H} {Q : gm_R → gm_H → Prop} {lv : List Value} {x : Int64} : gm_W E d 60 29 lv [.long x] h Q ↔ Q (.inl (some (.long x))) h := gw_ret m60 f60_29 rfl rfl rfl rfl rfl rfl rfl rfl rfl
theorem f60_30 : gm_ft 60 30 = some (.aload_n 0, 1) := by decide +kernel
theorem r60_30 {E : Nat → Value} {d : Nat} {st : List Value} {h : gm_H} {Q : gm_R → gm_H → Prop} {a1 a2 : Value} {x : Nat} : gm_W E d 60 30 [.ref x, a1, a2] st h Q ↔ gm_W E d 60 31 [.ref x, a1, a2] (.ref x :: st) h Q := gw_loc m60 f60_30 rfl rfl
theorem r60_30n {E : Nat → Value} {d : Nat} {st : List Value} {h : gm_H} {Q : gm_R → gm_H → Prop} {a1 a2 : Value}  : gm_W E d 60 30 [.null, a1, a2] st h Q ↔ gm_W E d 60 31 [.null, a1, a2] (.null :: st) h Q := gw_loc m60 f60_30 rfl rfl
theorem f60_31 : gm_ft 60 31 = some (.getfield 21, 3) := by decide +kernel
theorem r60_31 {E : Nat → Value} {d : Nat} {st : List Value} {h : gm_H} {Q : gm_R → gm_H → Prop} {lv : List Value} {a : Nat} (hk : gm_kd h a = 0) : gm_W E d 60 31 lv (.ref a :: st) h Q ↔ gm_W E d 60 34 lv (gm_fv h a 8 :: st) h Q := gw_rd m60 f60_31 rfl rfl rfl rfl (gs_get k0_21 hk (by decide))
theorem f60_34 : gm_ft 60 34 = some (.iload_n 1, 1) := by decide +kernel
theorem r60_34 {E : Nat → Value} {d : Nat} {st : List Value} {h : gm_H} {Q : gm_R → gm_H → Prop} {a0 a2 : Value} {x : Int32} : gm_W E d 60 34 [a0, .int x, a2] st h Q ↔ gm_W E d 60 35 [a0, .int x, a2] (.int x :: st) h Q := gw_loc m60 f60_34 rfl rfl
theorem f60_35 : gm_ft 60 35 = some (.aaload, 1) := by decide +kernel
theorem r60_35 {E : Nat → Value} {d : Nat} {st : List Value} {h : gm_H} {Q : gm_R → gm_H → Prop} {lv : List Value} {a j : Nat} (hk : (gm_kd h a % 100 = 10 ∨ gm_kd h a % 100 = 11 ∨ gm_kd h a % 100 = 12) ∧ 100 ≤ gm_kd h a ∧ gm_kd h a < 900) (hj : j < gm_ln h a) (hl : gm_ln h a < 2 ^ 31) : gm_W E d 60 35 lv (.int (nI j) :: .ref a :: st) h Q ↔ gm_W E d 60 36 lv (gm_fv h a j :: st) h Q := gw_rd m60 f60_35 rfl rfl rfl rfl (gs_ld (P := fun t => t == 10 || t == 11 || t == 12) hk.2 (by have := hk.1; simp [this] <;> omega) hj hl)
theorem f60_36 : gm_ft 60 36 = some (.getfield 147, 3) := by decide +kernel
theorem r60_36 {E : Nat → Value} {d : Nat} {st : List Value} {h : gm_H} {Q : gm_R → gm_H → Prop} {lv : List Value} {a : Nat} (hk : gm_kd h a = 4) : gm_W E d 60 36 lv (.ref a :: st) h Q ↔ gm_W E d 60 39 lv (gm_fv h a 2 :: st) h Q := gw_rd m60 f60_36 rfl rfl rfl rfl (gs_get k0_147 hk (by decide))
theorem f60_39 : gm_ft 60 39 = some (.iload_n 2, 1) := by decide +kernel
theorem r60_39 {E : Nat → Value} {d : Nat} {st : List Value} {h : gm_H} {Q : gm_R → gm_H → Prop} {a0 a1 : Value} {x : Int32} : gm_W E d 60 39 [a0, a1, .int x] st h Q ↔ gm_W E d 60 40 [a0, a1, .int x] (.int x :: st) h Q := gw_loc m60 f60_39 rfl rfl
theorem f60_40 : gm_ft 60 40 = some (.laload, 1) := by decide +kernel
theorem r60_40 {E : Nat → Value} {d : Nat} {st : List Value} {h : gm_H} {Q : gm_R → gm_H → Prop} {lv : List Value} {a j : Nat} (hk : gm_kd h a % 100 = 1 ∧ 100 ≤ gm_kd h a ∧ gm_kd h a < 900) (hj : j < gm_ln h a) (hl : gm_ln h a < 2 ^ 31) : gm_W E d 60 40 lv (.int (nI j) :: .ref a :: st) h Q ↔ gm_W E d 60 41 lv (gm_fv h a j :: st) h Q := gw_rd m60 f60_40 rfl rfl rfl rfl (gs_ld (P := fun t => t == 1) hk.2 (by have := hk.1; simp [this] <;> omega) hj hl)
theorem f60_41 : gm_ft 60 41 = some (.lreturn, 1) := by decide +kernel
theorem r60_41 {E : Nat → Value} {d : Nat} {h : gm_H} {Q : gm_R → gm_H → Prop} {lv : List Value} {x : Int64} : gm_W E d 60 41 lv [.long x] h Q ↔ Q (.inl (some (.long x))) h := gw_ret m60 f60_41 rfl rfl rfl rfl rfl rfl rfl rfl rfl
