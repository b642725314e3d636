/-! GraphReaderModel.<init>(IIII)V -/
theorem m2 : gm_mt[2]? = some (⟨"GraphReaderModel", "<init>", "(IIII)V"⟩, prog_7_method_1_code, 6, none, [], 5, 2) := rfl
theorem f2_0 : gm_ft 2 0 = some (.aload_n 0, 1) := by decide +kernel
theorem r2_0 {E : Nat → Value} {d : Nat} {st : List Value} {h : gm_H} {Q : gm_R → gm_H → Prop} {a1 a2 a3 a4 a5 : Value} {x : Nat} : gm_W E d 2 0 [.ref x, a1, a2, a3, a4, a5] st h Q ↔ gm_W E d 2 1 [.ref x, a1, a2, a3, a4, a5] (.ref x :: st) h Q := gw_loc m2 f2_0 rfl rfl
theorem r2_0n {E : Nat → Value} {d : Nat} {st : List Value} {h : gm_H} {Q : gm_R → gm_H → Prop} {a1 a2 a3 a4 a5 : Value}  : gm_W E d 2 0 [.null, a1, a2, a3, a4, a5] st h Q ↔ gm_W E d 2 1 [.null, a1, a2, a3, a4, a5] (.null :: st) h Q := gw_loc m2 f2_0 rfl rfl
theorem f2_1 : gm_ft 2 1 = some (.invokespecial 1, 3) := by decide +kernel
theorem r2_1 {E : Nat → Value} {d : Nat} {st : List Value} {h : gm_H} {Q : gm_R → gm_H → Prop} {lv : List Value} {a : Nat} (hs : (st.map fun v => v.category).sum ≤ 8) : gm_W E d 2 1 lv (.ref a :: st) h Q ↔ gm_W E d 2 4 lv st h Q := gw_oi m2 f2_1 rfl rfl rfl rfl rfl rfl rfl (gc_spec (w := 665) rfl hs (by decide))
theorem f2_4 : gm_ft 2 4 = some (.aload_n 0, 1) := by decide +kernel
theorem r2_4 {E : Nat → Value} {d : Nat} {st : List Value} {h : gm_H} {Q : gm_R → gm_H → Prop} {a1 a2 a3 a4 a5 : Value} {x : Nat} : gm_W E d 2 4 [.ref x, a1, a2, a3, a4, a5] st h Q ↔ gm_W E d 2 5 [.ref x, a1, a2, a3, a4, a5] (.ref x :: st) h Q := gw_loc m2 f2_4 rfl rfl
theorem r2_4n {E : Nat → Value} {d : Nat} {st : List Value} {h : gm_H} {Q : gm_R → gm_H → Prop} {a1 a2 a3 a4 a5 : Value}  : gm_W E d 2 4 [.null, a1, a2, a3, a4, a5] st h Q ↔ gm_W E d 2 5 [.null, a1, a2, a3, a4, a5] (.null :: st) h Q := gw_loc m2 f2_4 rfl rfl
theorem f2_5 : gm_ft 2 5 = some (.sipush 720, 3) := by decide +kernel
theorem r2_5 {E : Nat → Value} {d : Nat} {st : List Value} {h : gm_H} {Q : gm_R → gm_H → Prop} {lv : List Value} : gm_W E d 2 5 lv st h Q ↔ gm_W E d 2 8 lv (.int (720 : Int32) :: st) h Q := gw_pure m2 f2_5 rfl
theorem f2_8 : gm_ft 2 8 = some (.newarray .int, 2) := by decide +kernel
theorem r2_8 {E : Nat → Value} {d : Nat} {st : List Value} {h : gm_H} {Q : gm_R → gm_H → Prop} {lv : List Value} : gm_W E d 2 8 lv (.int (720 : Int32) :: st) h Q ↔ gm_W E d 2 10 lv (.ref h.1 :: st) (gm_nw h (200, List.replicate 720 (.int 0)) 720) Q := gw_nw m2 f2_8 rfl rfl rfl rfl rfl rfl rfl
theorem f2_10 : gm_ft 2 10 = some (.putfield 7, 3) := by decide +kernel
theorem r2_10 {E : Nat → Value} {d : Nat} {st : List Value} {h : gm_H} {Q : gm_R → gm_H → Prop} {lv : List Value} {a : Nat} {b : Nat} (hk : gm_kd h a = 5) : gm_W E d 2 10 lv (.ref b :: .ref a :: st) h Q ↔ gm_W E d 2 13 lv st (gm_sf h a 4 (.ref b)) Q := gw_wr m2 f2_10 rfl rfl rfl rfl rfl (gs_put k5_7 hk (by decide) (by decide) ⟨rfl, rfl⟩ (by decide))
theorem r2_10n {E : Nat → Value} {d : Nat} {st : List Value} {h : gm_H} {Q : gm_R → gm_H → Prop} {lv : List Value} {a : Nat} (hk : gm_kd h a = 5) : gm_W E d 2 10 lv (.null :: .ref a :: st) h Q ↔ gm_W E d 2 13 lv st (gm_sf h a 4 (.null)) Q := gw_wr m2 f2_10 rfl rfl rfl rfl rfl (gs_put k5_7 hk (by decide) (by decide) ⟨rfl, rfl⟩ (by decide))
theorem f2_13 : gm_ft 2 13 = some (.aload_n 0, 1) := by decide +kernel
theorem r2_13 {E : Nat → Value} {d : Nat} {st : List Value} {h : gm_H} {Q : gm_R → gm_H → Prop} {a1 a2 a3 a4 a5 : Value} {x : Nat} : gm_W E d 2 13 [.ref x, a1, a2, a3, a4, a5] st h Q ↔ gm_W E d 2 14 [.ref x, a1, a2, a3, a4, a5] (.ref x :: st) h Q := gw_loc m2 f2_13 rfl rfl
theorem r2_13n {E : Nat → Value} {d : Nat} {st : List Value} {h : gm_H} {Q : gm_R → gm_H → Prop} {a1 a2 a3 a4 a5 : Value}  : gm_W E d 2 13 [.null, a1, a2, a3, a4, a5] st h Q ↔ gm_W E d 2 14 [.null, a1, a2, a3, a4, a5] (.null :: st) h Q := gw_loc m2 f2_13 rfl rfl
theorem f2_14 : gm_ft 2 14 = some (.bipush 6, 2) := by decide +kernel
theorem r2_14 {E : Nat → Value} {d : Nat} {st : List Value} {h : gm_H} {Q : gm_R → gm_H → Prop} {lv : List Value} : gm_W E d 2 14 lv st h Q ↔ gm_W E d 2 16 lv (.int (6 : Int32) :: st) h Q := gw_pure m2 f2_14 rfl
theorem f2_16 : gm_ft 2 16 = some (.newarray .int, 2) := by decide +kernel
theorem r2_16 {E : Nat → Value} {d : Nat} {st : List Value} {h : gm_H} {Q : gm_R → gm_H → Prop} {lv : List Value} : gm_W E d 2 16 lv (.int (6 : Int32) :: st) h Q ↔ gm_W E d 2 18 lv (.ref h.1 :: st) (gm_nw h (200, List.replicate 6 (.int 0)) 6) Q := gw_nw m2 f2_16 rfl rfl rfl rfl rfl rfl rfl
theorem f2_18 : gm_ft 2 18 = some (.putfield 13, 3) := by decide +kernel
theorem r2_18 {E : Nat → Value} {d : Nat} {st : List Value} {h : gm_H} {Q : gm_R → gm_H → Prop} {lv : List Value} {a : Nat} {b : Nat} (hk : gm_kd h a = 5) : gm_W E d 2 18 lv (.ref b :: .ref a :: st) h Q ↔ gm_W E d 2 21 lv st (gm_sf h a 10 (.ref b)) Q := gw_wr m2 f2_18 rfl rfl rfl rfl rfl (gs_put k5_13 hk (by decide) (by decide) ⟨rfl, rfl⟩ (by decide))
theorem r2_18n {E : Nat → Value} {d : Nat} {st : List Value} {h : gm_H} {Q : gm_R → gm_H → Prop} {lv : List Value} {a : Nat} (hk : gm_kd h a = 5) : gm_W E d 2 18 lv (.null :: .ref a :: st) h Q ↔ gm_W E d 2 21 lv st (gm_sf h a 10 (.null)) Q := gw_wr m2 f2_18 rfl rfl rfl rfl rfl (gs_put k5_13 hk (by decide) (by decide) ⟨rfl, rfl⟩ (by decide))
theorem f2_21 : gm_ft 2 21 = some (.aload_n 0, 1) := by decide +kernel
theorem r2_21 {E : Nat → Value} {d : Nat} {st : List Value} {h : gm_H} {Q : gm_R → gm_H → Prop} {a1 a2 a3 a4 a5 : Value} {x : Nat} : gm_W E d 2 21 [.ref x, a1, a2, a3, a4, a5] st h Q ↔ gm_W E d 2 22 [.ref x, a1, a2, a3, a4, a5] (.ref x :: st) h Q := gw_loc m2 f2_21 rfl rfl
theorem r2_21n {E : Nat → Value} {d : Nat} {st : List Value} {h : gm_H} {Q : gm_R → gm_H → Prop} {a1 a2 a3 a4 a5 : Value}  : gm_W E d 2 21 [.null, a1, a2, a3, a4, a5] st h Q ↔ gm_W E d 2 22 [.null, a1, a2, a3, a4, a5] (.null :: st) h Q := gw_loc m2 f2_21 rfl rfl
theorem f2_22 : gm_ft 2 22 = some (.bipush 6, 2) := by decide +kernel
theorem r2_22 {E : Nat → Value} {d : Nat} {st : List Value} {h : gm_H} {Q : gm_R → gm_H → Prop} {lv : List Value} : gm_W E d 2 22 lv st h Q ↔ gm_W E d 2 24 lv (.int (6 : Int32) :: st) h Q := gw_pure m2 f2_22 rfl
theorem f2_24 : gm_ft 2 24 = some (.newarray .long, 2) := by decide +kernel
theorem r2_24 {E : Nat → Value} {d : Nat} {st : List Value} {h : gm_H} {Q : gm_R → gm_H → Prop} {lv : List Value} : gm_W E d 2 24 lv (.int (6 : Int32) :: st) h Q ↔ gm_W E d 2 26 lv (.ref h.1 :: st) (gm_nw h (201, List.replicate 6 (.long 0)) 6) Q := gw_nw m2 f2_24 rfl rfl rfl rfl rfl rfl rfl
theorem f2_26 : gm_ft 2 26 = some (.putfield 16, 3) := by decide +kernel
theorem r2_26 {E : Nat → Value} {d : Nat} {st : List Value} {h : gm_H} {Q : gm_R → gm_H → Prop} {lv : List Value} {a : Nat} {b : Nat} (hk : gm_kd h a = 5) : gm_W E d 2 26 lv (.ref b :: .ref a :: st) h Q ↔ gm_W E d 2 29 lv st (gm_sf h a 11 (.ref b)) Q := gw_wr m2 f2_26 rfl rfl rfl rfl rfl (gs_put k5_16 hk (by decide) (by decide) ⟨rfl, rfl⟩ (by decide))
theorem r2_26n {E : Nat → Value} {d : Nat} {st : List Value} {h : gm_H} {Q : gm_R → gm_H → Prop} {lv : List Value} {a : Nat} (hk : gm_kd h a = 5) : gm_W E d 2 26 lv (.null :: .ref a :: st) h Q ↔ gm_W E d 2 29 lv st (gm_sf h a 11 (.null)) Q := gw_wr m2 f2_26 rfl rfl rfl rfl rfl (gs_put k5_16 hk (by decide) (by decide) ⟨rfl, rfl⟩ (by decide))
theorem f2_29 : gm_ft 2 29 = some (.aload_n 0, 1) := by decide +kernel
theorem r2_29 {E : Nat → Value} {d : Nat} {st : List Value} {h : gm_H} {Q : gm_R → gm_H → Prop} {a1 a2 a3 a4 a5 : Value} {x : Nat} : gm_W E d 2 29 [.ref x, a1, a2, a3, a4, a5] st h Q ↔ gm_W E d 2 30 [.ref x, a1, a2, a3, a4, a5] (.ref x :: st) h Q := gw_loc m2 f2_29 rfl rfl
theorem r2_29n {E : Nat → Value} {d : Nat} {st : List Value} {h : gm_H} {Q : gm_R → gm_H → Prop} {a1 a2 a3 a4 a5 : Value}  : gm_W E d 2 29 [.null, a1, a2, a3, a4, a5] st h Q ↔ gm_W E d 2 30 [.null, a1, a2, a3, a4, a5] (.null :: st) h Q := gw_loc m2 f2_29 rfl rfl
theorem f2_30 : gm_ft 2 30 = some (.bipush 6, 2) := by decide +kernel
theorem r2_30 {E : Nat → Value} {d : Nat} {st : List Value} {h : gm_H} {Q : gm_R → gm_H → Prop} {lv : List Value} : gm_W E d 2 30 lv st h Q ↔ gm_W E d 2 32 lv (.int (6 : Int32) :: st) h Q := gw_pure m2 f2_30 rfl
theorem f2_32 : gm_ft 2 32 = some (.newarray .int, 2) := by decide +kernel
theorem r2_32 {E : Nat → Value} {d : Nat} {st : List Value} {h : gm_H} {Q : gm_R → gm_H → Prop} {lv : List Value} : gm_W E d 2 32 lv (.int (6 : Int32) :: st) h Q ↔ gm_W E d 2 34 lv (.ref h.1 :: st) (gm_nw h (200, List.replicate 6 (.int 0)) 6) Q := gw_nw m2 f2_32 rfl rfl rfl rfl rfl rfl rfl
theorem f2_34 : gm_ft 2 34 = some (.putfield 20, 3) := by decide +kernel
theorem r2_34 {E : Nat → Value} {d : Nat} {st : List Value} {h : gm_H} {Q : gm_R → gm_H → Prop} {lv : List Value} {a : Nat} {b : Nat} (hk : gm_kd h a = 5) : gm_W E d 2 34 lv (.ref b :: .ref a :: st) h Q ↔ gm_W E d 2 37 lv st (gm_sf h a 12 (.ref b)) Q := gw_wr m2 f2_34 rfl rfl rfl rfl rfl (gs_put k5_20 hk (by decide) (by decide) ⟨rfl, rfl⟩ (by decide))
theorem r2_34n {E : Nat → Value} {d : Nat} {st : List Value} {h : gm_H} {Q : gm_R → gm_H → Prop} {lv : List Value} {a : Nat} (hk : gm_kd h a = 5) : gm_W E d 2 34 lv (.null :: .ref a :: st) h Q ↔ gm_W E d 2 37 lv st (gm_sf h a 12 (.null)) Q := gw_wr m2 f2_34 rfl rfl rfl rfl rfl (gs_put k5_20 hk (by decide) (by decide) ⟨rfl, rfl⟩ (by decide))
theorem f2_37 : gm_ft 2 37 = some (.aload_n 0, 1) := by decide +kernel
theorem r2_37 {E : Nat → Value} {d : Nat} {st : List Value} {h : gm_H} {Q : gm_R → gm_H → Prop} {a1 a2 a3 a4 a5 : Value} {x : Nat} : gm_W E d 2 37 [.ref x, a1, a2, a3, a4, a5] st h Q ↔ gm_W E d 2 38 [.ref x, a1, a2, a3, a4, a5] (.ref x :: st) h Q := gw_loc m2 f2_37 rfl rfl
theorem r2_37n {E : Nat → Value} {d : Nat} {st : List Value} {h : gm_H} {Q : gm_R → gm_H → Prop} {a1 a2 a3 a4 a5 : Value}  : gm_W E d 2 37 [.null, a1, a2, a3, a4, a5] st h Q ↔ gm_W E d 2 38 [.null, a1, a2, a3, a4, a5] (.null :: st) h Q := gw_loc m2 f2_37 rfl rfl
theorem f2_38 : gm_ft 2 38 = some (.bipush 6, 2) := by decide +kernel
theorem r2_38 {E : Nat → Value} {d : Nat} {st : List Value} {h : gm_H} {Q : gm_R → gm_H → Prop} {lv : List Value} : gm_W E d 2 38 lv st h Q ↔ gm_W E d 2 40 lv (.int (6 : Int32) :: st) h Q := gw_pure m2 f2_38 rfl
theorem f2_40 : gm_ft 2 40 = some (.newarray .int, 2) := by decide +kernel
theorem r2_40 {E : Nat → Value} {d : Nat} {st : List Value} {h : gm_H} {Q : gm_R → gm_H → Prop} {lv : List Value} : gm_W E d 2 40 lv (.int (6 : Int32) :: st) h Q ↔ gm_W E d 2 42 lv (.ref h.1 :: st) (gm_nw h (200, List.replicate 6 (.int 0)) 6) Q := gw_nw m2 f2_40 rfl rfl rfl rfl rfl rfl rfl
theorem f2_42 : gm_ft 2 42 = some (.putfield 23, 3) := by decide +kernel
theorem r2_42 {E : Nat → Value} {d : Nat} {st : List Value} {h : gm_H} {Q : gm_R → gm_H → Prop} {lv : List Value} {a : Nat} {b : Nat} (hk : gm_kd h a = 5) : gm_W E d 2 42 lv (.ref b :: .ref a :: st) h Q ↔ gm_W E d 2 45 lv st (gm_sf h a 13 (.ref b)) Q := gw_wr m2 f2_42 rfl rfl rfl rfl rfl (gs_put k5_23 hk (by decide) (by decide) ⟨rfl, rfl⟩ (by decide))
theorem r2_42n {E : Nat → Value} {d : Nat} {st : List Value} {h : gm_H} {Q : gm_R → gm_H → Prop} {lv : List Value} {a : Nat} (hk : gm_kd h a = 5) : gm_W E d 2 42 lv (.null :: .ref a :: st) h Q ↔ gm_W E d 2 45 lv st (gm_sf h a 13 (.null)) Q := gw_wr m2 f2_42 rfl rfl rfl rfl rfl (gs_put k5_23 hk (by decide) (by decide) ⟨rfl, rfl⟩ (by decide))
theorem f2_45 : gm_ft 2 45 = some (.aload_n 0, 1) := by decide +kernel
theorem r2_45 {E : Nat → Value} {d : Nat} {st : List Value} {h : gm_H} {Q : gm_R → gm_H → Prop} {a1 a2 a3 a4 a5 : Value} {x : Nat} : gm_W E d 2 45 [.ref x, a1, a2, a3, a4, a5] st h Q ↔ gm_W E d 2 46 [.ref x, a1, a2, a3, a4, a5] (.ref x :: st) h Q := gw_loc m2 f2_45 rfl rfl
theorem r2_45n {E : Nat → Value} {d : Nat} {st : List Value} {h : gm_H} {Q : gm_R → gm_H → Prop} {a1 a2 a3 a4 a5 : Value}  : gm_W E d 2 45 [.null, a1, a2, a3, a4, a5] st h Q ↔ gm_W E d 2 46 [.null, a1, a2, a3, a4, a5] (.null :: st) h Q := gw_loc m2 f2_45 rfl rfl
theorem f2_46 : gm_ft 2 46 = some (.bipush 24, 2) := by decide +kernel
theorem r2_46 {E : Nat → Value} {d : Nat} {st : List Value} {h : gm_H} {Q : gm_R → gm_H → Prop} {lv : List Value} : gm_W E d 2 46 lv st h Q ↔ gm_W E d 2 48 lv (.int (24 : Int32) :: st) h Q := gw_pure m2 f2_46 rfl
theorem f2_48 : gm_ft 2 48 = some (.newarray .int, 2) := by decide +kernel
theorem r2_48 {E : Nat → Value} {d : Nat} {st : List Value} {h : gm_H} {Q : gm_R → gm_H → Prop} {lv : List Value} : gm_W E d 2 48 lv (.int (24 : Int32) :: st) h Q ↔ gm_W E d 2 50 lv (.ref h.1 :: st) (gm_nw h (200, List.replicate 24 (.int 0)) 24) Q := gw_nw m2 f2_48 rfl rfl rfl rfl rfl rfl rfl
theorem f2_50 : gm_ft 2 50 = some (.putfield 26, 3) := by decide +kernel
theorem r2_50 {E : Nat → Value} {d : Nat} {st : List Value} {h : gm_H} {Q : gm_R → gm_H → Prop} {lv : List Value} {a : Nat} {b : Nat} (hk : gm_kd h a = 5) : gm_W E d 2 50 lv (.ref b :: .ref a :: st) h Q ↔ gm_W E d 2 53 lv st (gm_sf h a 14 (.ref b)) Q := gw_wr m2 f2_50 rfl rfl rfl rfl rfl (gs_put k5_26 hk (by decide) (by decide) ⟨rfl, rfl⟩ (by decide))
theorem r2_50n {E : Nat → Value} {d : Nat} {st : List Value} {h : gm_H} {Q : gm_R → gm_H → Prop} {lv : List Value} {a : Nat} (hk : gm_kd h a = 5) : gm_W E d 2 50 lv (.null :: .ref a :: st) h Q ↔ gm_W E d 2 53 lv st (gm_sf h a 14 (.null)) Q := gw_wr m2 f2_50 rfl rfl rfl rfl rfl (gs_put k5_26 hk (by decide) (by decide) ⟨rfl, rfl⟩ (by decide))
theorem f2_53 : gm_ft 2 53 = some (.aload_n 0, 1) := by decide +kernel
theorem r2_53 {E : Nat → Value} {d : Nat} {st : List Value} {h : gm_H} {Q : gm_R → gm_H → Prop} {a1 a2 a3 a4 a5 : Value} {x : Nat} : gm_W E d 2 53 [.ref x, a1, a2, a3, a4, a5] st h Q ↔ gm_W E d 2 54 [.ref x, a1, a2, a3, a4, a5] (.ref x :: st) h Q := gw_loc m2 f2_53 rfl rfl
theorem r2_53n {E : Nat → Value} {d : Nat} {st : List Value} {h : gm_H} {Q : gm_R → gm_H → Prop} {a1 a2 a3 a4 a5 : Value}  : gm_W E d 2 53 [.null, a1, a2, a3, a4, a5] st h Q ↔ gm_W E d 2 54 [.null, a1, a2, a3, a4, a5] (.null :: st) h Q := gw_loc m2 f2_53 rfl rfl
theorem f2_54 : gm_ft 2 54 = some (.bipush 24, 2) := by decide +kernel
theorem r2_54 {E : Nat → Value} {d : Nat} {st : List Value} {h : gm_H} {Q : gm_R → gm_H → Prop} {lv : List Value} : gm_W E d 2 54 lv st h Q ↔ gm_W E d 2 56 lv (.int (24 : Int32) :: st) h Q := gw_pure m2 f2_54 rfl
theorem f2_56 : gm_ft 2 56 = some (.newarray .int, 2) := by decide +kernel
theorem r2_56 {E : Nat → Value} {d : Nat} {st : List Value} {h : gm_H} {Q : gm_R → gm_H → Prop} {lv : List Value} : gm_W E d 2 56 lv (.int (24 : Int32) :: st) h Q ↔ gm_W E d 2 58 lv (.ref h.1 :: st) (gm_nw h (200, List.replicate 24 (.int 0)) 24) Q := gw_nw m2 f2_56 rfl rfl rfl rfl rfl rfl rfl
theorem f2_58 : gm_ft 2 58 = some (.putfield 29, 3) := by decide +kernel
theorem r2_58 {E : Nat → Value} {d : Nat} {st : List Value} {h : gm_H} {Q : gm_R → gm_H → Prop} {lv : List Value} {a : Nat} {b : Nat} (hk : gm_kd h a = 5) : gm_W E d 2 58 lv (.ref b :: .ref a :: st) h Q ↔ gm_W E d 2 61 lv st (gm_sf h a 15 (.ref b)) Q := gw_wr m2 f2_58 rfl rfl rfl rfl rfl (gs_put k5_29 hk (by decide) (by decide) ⟨rfl, rfl⟩ (by decide))
theorem r2_58n {E : Nat → Value} {d : Nat} {st : List Value} {h : gm_H} {Q : gm_R → gm_H → Prop} {lv : List Value} {a : Nat} (hk : gm_kd h a = 5) : gm_W E d 2 58 lv (.null :: .ref a :: st) h Q ↔ gm_W E d 2 61 lv st (gm_sf h a 15 (.null)) Q := gw_wr m2 f2_58 rfl rfl rfl rfl rfl (gs_put k5_29 hk (by decide) (by decide) ⟨rfl, rfl⟩ (by decide))
theorem f2_61 : gm_ft 2 61 = some (.aload_n 0, 1) := by decide +kernel
theorem r2_61 {E : Nat → Value} {d : Nat} {st : List Value} {h : gm_H} {Q : gm_R → gm_H → Prop} {a1 a2 a3 a4 a5 : Value} {x : Nat} : gm_W E d 2 61 [.ref x, a1, a2, a3, a4, a5] st h Q ↔ gm_W E d 2 62 [.ref x, a1, a2, a3, a4, a5] (.ref x :: st) h Q := gw_loc m2 f2_61 rfl rfl
theorem r2_61n {E : Nat → Value} {d : Nat} {st : List Value} {h : gm_H} {Q : gm_R → gm_H → Prop} {a1 a2 a3 a4 a5 : Value}  : gm_W E d 2 61 [.null, a1, a2, a3, a4, a5] st h Q ↔ gm_W E d 2 62 [.null, a1, a2, a3, a4, a5] (.null :: st) h Q := gw_loc m2 f2_61 rfl rfl
theorem f2_62 : gm_ft 2 62 = some (.bipush 6, 2) := by decide +kernel
theorem r2_62 {E : Nat → Value} {d : Nat} {st : List Value} {h : gm_H} {Q : gm_R → gm_H → Prop} {lv : List Value} : gm_W E d 2 62 lv st h Q ↔ gm_W E d 2 64 lv (.int (6 : Int32) :: st) h Q := gw_pure m2 f2_62 rfl
theorem f2_64 : gm_ft 2 64 = some (.newarray .int, 2) := by decide +kernel
theorem r2_64 {E : Nat → Value} {d : Nat} {st : List Value} {h : gm_H} {Q : gm_R → gm_H → Prop} {lv : List Value} : gm_W E d 2 64 lv (.int (6 : Int32) :: st) h Q ↔ gm_W E d 2 66 lv (.ref h.1 :: st) (gm_nw h (200, List.replicate 6 (.int 0)) 6) Q := gw_nw m2 f2_64 rfl rfl rfl rfl rfl rfl rfl
theorem f2_66 : gm_ft 2 66 = some (.putfield 32, 3) := by decide +kernel
theorem r2_66 {E : Nat → Value} {d : Nat} {st : List Value} {h : gm_H} {Q : gm_R → gm_H → Prop} {lv : List Value} {a : Nat} {b : Nat} (hk : gm_kd h a = 5) : gm_W E d 2 66 lv (.ref b :: .ref a :: st) h Q ↔ gm_W E d 2 69 lv st (gm_sf h a 16 (.ref b)) Q := gw_wr m2 f2_66 rfl rfl rfl rfl rfl (gs_put k5_32 hk (by decide) (by decide) ⟨rfl, rfl⟩ (by decide))
theorem r2_66n {E : Nat → Value} {d : Nat} {st : List Value} {h : gm_H} {Q : gm_R → gm_H → Prop} {lv : List Value} {a : Nat} (hk : gm_kd h a = 5) : gm_W E d 2 66 lv (.null :: .ref a :: st) h Q ↔ gm_W E d 2 69 lv st (gm_sf h a 16 (.null)) Q := gw_wr m2 f2_66 rfl rfl rfl rfl rfl (gs_put k5_32 hk (by decide) (by decide) ⟨rfl, rfl⟩ (by decide))
theorem f2_69 : gm_ft 2 69 = some (.aload_n 0, 1) := by decide +kernel
theorem r2_69 {E : Nat → Value} {d : Nat} {st : List Value} {h : gm_H} {Q : gm_R → gm_H → Prop} {a1 a2 a3 a4 a5 : Value} {x : Nat} : gm_W E d 2 69 [.ref x, a1, a2, a3, a4, a5] st h Q ↔ gm_W E d 2 70 [.ref x, a1, a2, a3, a4, a5] (.ref x :: st) h Q := gw_loc m2 f2_69 rfl rfl
theorem r2_69n {E : Nat → Value} {d : Nat} {st : List Value} {h : gm_H} {Q : gm_R → gm_H → Prop} {a1 a2 a3 a4 a5 : Value}  : gm_W E d 2 69 [.null, a1, a2, a3, a4, a5] st h Q ↔ gm_W E d 2 70 [.null, a1, a2, a3, a4, a5] (.null :: st) h Q := gw_loc m2 f2_69 rfl rfl
theorem f2_70 : gm_ft 2 70 = some (.bipush 6, 2) := by decide +kernel
theorem r2_70 {E : Nat → Value} {d : Nat} {st : List Value} {h : gm_H} {Q : gm_R → gm_H → Prop} {lv : List Value} : gm_W E d 2 70 lv st h Q ↔ gm_W E d 2 72 lv (.int (6 : Int32) :: st) h Q := gw_pure m2 f2_70 rfl
theorem f2_72 : gm_ft 2 72 = some (.newarray .boolean, 2) := by decide +kernel
theorem r2_72 {E : Nat → Value} {d : Nat} {st : List Value} {h : gm_H} {Q : gm_R → gm_H → Prop} {lv : List Value} : gm_W E d 2 72 lv (.int (6 : Int32) :: st) h Q ↔ gm_W E d 2 74 lv (.ref h.1 :: st) (gm_nw h (203, List.replicate 6 (.int 0)) 6) Q := gw_nw m2 f2_72 rfl rfl rfl rfl rfl rfl rfl
theorem f2_74 : gm_ft 2 74 = some (.putfield 35, 3) := by decide +kernel
theorem r2_74 {E : Nat → Value} {d : Nat} {st : List Value} {h : gm_H} {Q : gm_R → gm_H → Prop} {lv : List Value} {a : Nat} {b : Nat} (hk : gm_kd h a = 5) : gm_W E d 2 74 lv (.ref b :: .ref a :: st) h Q ↔ gm_W E d 2 77 lv st (gm_sf h a 17 (.ref b)) Q := gw_wr m2 f2_74 rfl rfl rfl rfl rfl (gs_put k5_35 hk (by decide) (by decide) ⟨rfl, rfl⟩ (by decide))
theorem r2_74n {E : Nat → Value} {d : Nat} {st : List Value} {h : gm_H} {Q : gm_R → gm_H → Prop} {lv : List Value} {a : Nat} (hk : gm_kd h a = 5) : gm_W E d 2 74 lv (.null :: .ref a :: st) h Q ↔ gm_W E d 2 77 lv st (gm_sf h a 17 (.null)) Q := gw_wr m2 f2_74 rfl rfl rfl rfl rfl (gs_put k5_35 hk (by decide) (by decide) ⟨rfl, rfl⟩ (by decide))
theorem f2_77 : gm_ft 2 77 = some (.aload_n 0, 1) := by decide +kernel
theorem r2_77 {E : Nat → Value} {d : Nat} {st : List Value} {h : gm_H} {Q : gm_R → gm_H → Prop} {a1 a2 a3 a4 a5 : Value} {x : Nat} : gm_W E d 2 77 [.ref x, a1, a2, a3, a4, a5] st h Q ↔ gm_W E d 2 78 [.ref x, a1, a2, a3, a4, a5] (.ref x :: st) h Q := gw_loc m2 f2_77 rfl rfl
theorem r2_77n {E : Nat → Value} {d : Nat} {st : List Value} {h : gm_H} {Q : gm_R → gm_H → Prop} {a1 a2 a3 a4 a5 : Value}  : gm_W E d 2 77 [.null, a1, a2, a3, a4, a5] st h Q ↔ gm_W E d 2 78 [.null, a1, a2, a3, a4, a5] (.null :: st) h Q := gw_loc m2 f2_77 rfl rfl
theorem f2_78 : gm_ft 2 78 = some (.sipush 720, 3) := by decide +kernel
theorem r2_78 {E : Nat → Value} {d : Nat} {st : List Value} {h : gm_H} {Q : gm_R → gm_H → Prop} {lv : List Value} : gm_W E d 2 78 lv st h Q ↔ gm_W E d 2 81 lv (.int (720 : Int32) :: st) h Q := gw_pure m2 f2_78 rfl
theorem f2_81 : gm_ft 2 81 = some (.newarray .int, 2) := by decide +kernel
theorem r2_81 {E : Nat → Value} {d : Nat} {st : List Value} {h : gm_H} {Q : gm_R → gm_H → Prop} {lv : List Value} : gm_W E d 2 81 lv (.int (720 : Int32) :: st) h Q ↔ gm_W E d 2 83 lv (.ref h.1 :: st) (gm_nw h (200, List.replicate 720 (.int 0)) 720) Q := gw_nw m2 f2_81 rfl rfl rfl rfl rfl rfl rfl
theorem f2_83 : gm_ft 2 83 = some (.putfield 39, 3) := by decide +kernel
theorem r2_83 {E : Nat → Value} {d : Nat} {st : List Value} {h : gm_H} {Q : gm_R → gm_H → Prop} {lv : List Value} {a : Nat} {b : Nat} (hk : gm_kd h a = 5) : gm_W E d 2 83 lv (.ref b :: .ref a :: st) h Q ↔ gm_W E d 2 86 lv st (gm_sf h a 18 (.ref b)) Q := gw_wr m2 f2_83 rfl rfl rfl rfl rfl (gs_put k5_39 hk (by decide) (by decide) ⟨rfl, rfl⟩ (by decide))
theorem r2_83n {E : Nat → Value} {d : Nat} {st : List Value} {h : gm_H} {Q : gm_R → gm_H → Prop} {lv : List Value} {a : Nat} (hk : gm_kd h a = 5) : gm_W E d 2 83 lv (.null :: .ref a :: st) h Q ↔ gm_W E d 2 86 lv st (gm_sf h a 18 (.null)) Q := gw_wr m2 f2_83 rfl rfl rfl rfl rfl (gs_put k5_39 hk (by decide) (by decide) ⟨rfl, rfl⟩ (by decide))
theorem f2_86 : gm_ft 2 86 = some (.aload_n 0, 1) := by decide +kernel
theorem r2_86 {E : Nat → Value} {d : Nat} {st : List Value} {h : gm_H} {Q : gm_R → gm_H → Prop} {a1 a2 a3 a4 a5 : Value} {x : Nat} : gm_W E d 2 86 [.ref x, a1, a2, a3, a4, a5] st h Q ↔ gm_W E d 2 87 [.ref x, a1, a2, a3, a4, a5] (.ref x :: st) h Q := gw_loc m2 f2_86 rfl rfl
theorem r2_86n {E : Nat → Value} {d : Nat} {st : List Value} {h : gm_H} {Q : gm_R → gm_H → Prop} {a1 a2 a3 a4 a5 : Value}  : gm_W E d 2 86 [.null, a1, a2, a3, a4, a5] st h Q ↔ gm_W E d 2 87 [.null, a1, a2, a3, a4, a5] (.null :: st) h Q := gw_loc m2 f2_86 rfl rfl
theorem f2_87 : gm_ft 2 87 = some (.sipush 720, 3) := by decide +kernel
theorem r2_87 {E : Nat → Value} {d : Nat} {st : List Value} {h : gm_H} {Q : gm_R → gm_H → Prop} {lv : List Value} : gm_W E d 2 87 lv st h Q ↔ gm_W E d 2 90 lv (.int (720 : Int32) :: st) h Q := gw_pure m2 f2_87 rfl
theorem f2_90 : gm_ft 2 90 = some (.newarray .int, 2) := by decide +kernel
theorem r2_90 {E : Nat → Value} {d : Nat} {st : List Value} {h : gm_H} {Q : gm_R → gm_H → Prop} {lv : List Value} : gm_W E d 2 90 lv (.int (720 : Int32) :: st) h Q ↔ gm_W E d 2 92 lv (.ref h.1 :: st) (gm_nw h (200, List.replicate 720 (.int 0)) 720) Q := gw_nw m2 f2_90 rfl rfl rfl rfl rfl rfl rfl
theorem f2_92 : gm_ft 2 92 = some (.putfield 42, 3) := by decide +kernel
theorem r2_92 {E : Nat → Value} {d : Nat} {st : List Value} {h : gm_H} {Q : gm_R → gm_H → Prop} {lv : List Value} {a : Nat} {b : Nat} (hk : gm_kd h a = 5) : gm_W E d 2 92 lv (.ref b :: .ref a :: st) h Q ↔ gm_W E d 2 95 lv st (gm_sf h a 19 (.ref b)) Q := gw_wr m2 f2_92 rfl rfl rfl rfl rfl (gs_put k5_42 hk (by decide) (by decide) ⟨rfl, rfl⟩ (by decide))
theorem r2_92n {E : Nat → Value} {d : Nat} {st : List Value} {h : gm_H} {Q : gm_R → gm_H → Prop} {lv : List Value} {a : Nat} (hk : gm_kd h a = 5) : gm_W E d 2 92 lv (.null :: .ref a :: st) h Q ↔ gm_W E d 2 95 lv st (gm_sf h a 19 (.null)) Q := gw_wr m2 f2_92 rfl rfl rfl rfl rfl (gs_put k5_42 hk (by decide) (by decide) ⟨rfl, rfl⟩ (by decide))
theorem f2_95 : gm_ft 2 95 = some (.aload_n 0, 1) := by decide +kernel
theorem r2_95 {E : Nat → Value} {d : Nat} {st : List Value} {h : gm_H} {Q : gm_R → gm_H → Prop} {a1 a2 a3 a4 a5 : Value} {x : Nat} : gm_W E d 2 95 [.ref x, a1, a2, a3, a4, a5] st h Q ↔ gm_W E d 2 96 [.ref x, a1, a2, a3, a4, a5] (.ref x :: st) h Q := gw_loc m2 f2_95 rfl rfl
theorem r2_95n {E : Nat → Value} {d : Nat} {st : List Value} {h : gm_H} {Q : gm_R → gm_H → Prop} {a1 a2 a3 a4 a5 : Value}  : gm_W E d 2 95 [.null, a1, a2, a3, a4, a5] st h Q ↔ gm_W E d 2 96 [.null, a1, a2, a3, a4, a5] (.null :: st) h Q := gw_loc m2 f2_95 rfl rfl
theorem f2_96 : gm_ft 2 96 = some (.sipush 720, 3) := by decide +kernel
theorem r2_96 {E : Nat → Value} {d : Nat} {st : List Value} {h : gm_H} {Q : gm_R → gm_H → Prop} {lv : List Value} : gm_W E d 2 96 lv st h Q ↔ gm_W E d 2 99 lv (.int (720 : Int32) :: st) h Q := gw_pure m2 f2_96 rfl
theorem f2_99 : gm_ft 2 99 = some (.newarray .int, 2) := by decide +kernel
theorem r2_99 {E : Nat → Value} {d : Nat} {st : List Value} {h : gm_H} {Q : gm_R → gm_H → Prop} {lv : List Value} : gm_W E d 2 99 lv (.int (720 : Int32) :: st) h Q ↔ gm_W E d 2 101 lv (.ref h.1 :: st) (gm_nw h (200, List.replicate 720 (.int 0)) 720) Q := gw_nw m2 f2_99 rfl rfl rfl rfl rfl rfl rfl
theorem f2_101 : gm_ft 2 101 = some (.putfield 45, 3) := by decide +kernel
theorem r2_101 {E : Nat → Value} {d : Nat} {st : List Value} {h : gm_H} {Q : gm_R → gm_H → Prop} {lv : List Value} {a : Nat} {b : Nat} (hk : gm_kd h a = 5) : gm_W E d 2 101 lv (.ref b :: .ref a :: st) h Q ↔ gm_W E d 2 104 lv st (gm_sf h a 20 (.ref b)) Q := gw_wr m2 f2_101 rfl rfl rfl rfl rfl (gs_put k5_45 hk (by decide) (by decide) ⟨rfl, rfl⟩ (by decide))
theorem r2_101n {E : Nat → Value} {d : Nat} {st : List Value} {h : gm_H} {Q : gm_R → gm_H → Prop} {lv : List Value} {a : Nat} (hk : gm_kd h a = 5) : gm_W E d 2 101 lv (.null :: .ref a :: st) h Q ↔ gm_W E d 2 104 lv st (gm_sf h a 20 (.null)) Q := gw_wr m2 f2_101 rfl rfl rfl rfl rfl (gs_put k5_45 hk (by decide) (by decide) ⟨rfl, rfl⟩ (by decide))
theorem f2_104 : gm_ft 2 104 = some (.aload_n 0, 1) := by decide +kernel
theorem r2_104 {E : Nat → Value} {d : Nat} {st : List Value} {h : gm_H} {Q : gm_R → gm_H → Prop} {a1 a2 a3 a4 a5 : Value} {x : Nat} : gm_W E d 2 104 [.ref x, a1, a2, a3, a4, a5] st h Q ↔ gm_W E d 2 105 [.ref x, a1, a2, a3, a4, a5] (.ref x :: st) h Q := gw_loc m2 f2_104 rfl rfl
theorem r2_104n {E : Nat → Value} {d : Nat} {st : List Value} {h : gm_H} {Q : gm_R → gm_H → Prop} {a1 a2 a3 a4 a5 : Value}  : gm_W E d 2 104 [.null, a1, a2, a3, a4, a5] st h Q ↔ gm_W E d 2 105 [.null, a1, a2, a3, a4, a5] (.null :: st) h Q := gw_loc m2 f2_104 rfl rfl
theorem f2_105 : gm_ft 2 105 = some (.sipush 720, 3) := by decide +kernel
theorem r2_105 {E : Nat → Value} {d : Nat} {st : List Value} {h : gm_H} {Q : gm_R → gm_H → Prop} {lv : List Value} : gm_W E d 2 105 lv st h Q ↔ gm_W E d 2 108 lv (.int (720 : Int32) :: st) h Q := gw_pure m2 f2_105 rfl
theorem f2_108 : gm_ft 2 108 = some (.newarray .int, 2) := by decide +kernel
theorem r2_108 {E : Nat → Value} {d : Nat} {st : List Value} {h : gm_H} {Q : gm_R → gm_H → Prop} {lv : List Value} : gm_W E d 2 108 lv (.int (720 : Int32) :: st) h Q ↔ gm_W E d 2 110 lv (.ref h.1 :: st) (gm_nw h (200, List.replicate 720 (.int 0)) 720) Q := gw_nw m2 f2_108 rfl rfl rfl rfl rfl rfl rfl
theorem f2_110 : gm_ft 2 110 = some (.putfield 48, 3) := by decide +kernel
theorem r2_110 {E : Nat → Value} {d : Nat} {st : List Value} {h : gm_H} {Q : gm_R → gm_H → Prop} {lv : List Value} {a : Nat} {b : Nat} (hk : gm_kd h a = 5) : gm_W E d 2 110 lv (.ref b :: .ref a :: st) h Q ↔ gm_W E d 2 113 lv st (gm_sf h a 21 (.ref b)) Q := gw_wr m2 f2_110 rfl rfl rfl rfl rfl (gs_put k5_48 hk (by decide) (by decide) ⟨rfl, rfl⟩ (by decide))
theorem r2_110n {E : Nat → Value} {d : Nat} {st : List Value} {h : gm_H} {Q : gm_R → gm_H → Prop} {lv : List Value} {a : Nat} (hk : gm_kd h a = 5) : gm_W E d 2 110 lv (.null :: .ref a :: st) h Q ↔ gm_W E d 2 113 lv st (gm_sf h a 21 (.null)) Q := gw_wr m2 f2_110 rfl rfl rfl rfl rfl (gs_put k5_48 hk (by decide) (by decide) ⟨rfl, rfl⟩ (by decide))
theorem f2_113 : gm_ft 2 113 = some (.aload_n 0, 1) := by decide +kernel
theorem r2_113 {E : Nat → Value} {d : Nat} {st : List Value} {h : gm_H} {Q : gm_R → gm_H → Prop} {a1 a2 a3 a4 a5 : Value} {x : Nat} : gm_W E d 2 113 [.ref x, a1, a2, a3, a4, a5] st h Q ↔ gm_W E d 2 114 [.ref x, a1, a2, a3, a4, a5] (.ref x :: st) h Q := gw_loc m2 f2_113 rfl rfl
theorem r2_113n {E : Nat → Value} {d : Nat} {st : List Value} {h : gm_H} {Q : gm_R → gm_H → Prop} {a1 a2 a3 a4 a5 : Value}  : gm_W E d 2 113 [.null, a1, a2, a3, a4, a5] st h Q ↔ gm_W E d 2 114 [.null, a1, a2, a3, a4, a5] (.null :: st) h Q := gw_loc m2 f2_113 rfl rfl
theorem f2_114 : gm_ft 2 114 = some (.sipush 720, 3) := by decide +kernel
theorem r2_114 {E : Nat → Value} {d : Nat} {st : List Value} {h : gm_H} {Q : gm_R → gm_H → Prop} {lv : List Value} : gm_W E d 2 114 lv st h Q ↔ gm_W E d 2 117 lv (.int (720 : Int32) :: st) h Q := gw_pure m2 f2_114 rfl
theorem f2_117 : gm_ft 2 117 = some (.newarray .int, 2) := by decide +kernel
theorem r2_117 {E : Nat → Value} {d : Nat} {st : List Value} {h : gm_H} {Q : gm_R → gm_H → Prop} {lv : List Value} : gm_W E d 2 117 lv (.int (720 : Int32) :: st) h Q ↔ gm_W E d 2 119 lv (.ref h.1 :: st) (gm_nw h (200, List.replicate 720 (.int 0)) 720) Q := gw_nw m2 f2_117 rfl rfl rfl rfl rfl rfl rfl
theorem f2_119 : gm_ft 2 119 = some (.putfield 51, 3) := by decide +kernel
theorem r2_119 {E : Nat → Value} {d : Nat} {st : List Value} {h : gm_H} {Q : gm_R → gm_H → Prop} {lv : List Value} {a : Nat} {b : Nat} (hk : gm_kd h a = 5) : gm_W E d 2 119 lv (.ref b :: .ref a :: st) h Q ↔ gm_W E d 2 122 lv st (gm_sf h a 22 (.ref b)) Q := gw_wr m2 f2_119 rfl rfl rfl rfl rfl (gs_put k5_51 hk (by decide) (by decide) ⟨rfl, rfl⟩ (by decide))
theorem r2_119n {E : Nat → Value} {d : Nat} {st : List Value} {h : gm_H} {Q : gm_R → gm_H → Prop} {lv : List Value} {a : Nat} (hk : gm_kd h a = 5) : gm_W E d 2 119 lv (.null :: .ref a :: st) h Q ↔ gm_W E d 2 122 lv st (gm_sf h a 22 (.null)) Q := gw_wr m2 f2_119 rfl rfl rfl rfl rfl (gs_put k5_51 hk (by decide) (by decide) ⟨rfl, rfl⟩ (by decide))
theorem f2_122 : gm_ft 2 122 = some (.aload_n 0, 1) := by decide +kernel
theorem r2_122 {E : Nat → Value} {d : Nat} {st : List Value} {h : gm_H} {Q : gm_R → gm_H → Prop} {a1 a2 a3 a4 a5 : Value} {x : Nat} : gm_W E d 2 122 [.ref x, a1, a2, a3, a4, a5] st h Q ↔ gm_W E d 2 123 [.ref x, a1, a2, a3, a4, a5] (.ref x :: st) h Q := gw_loc m2 f2_122 rfl rfl
theorem r2_122n {E : Nat → Value} {d : Nat} {st : List Value} {h : gm_H} {Q : gm_R → gm_H → Prop} {a1 a2 a3 a4 a5 : Value}  : gm_W E d 2 122 [.null, a1, a2, a3, a4, a5] st h Q ↔ gm_W E d 2 123 [.null, a1, a2, a3, a4, a5] (.null :: st) h Q := gw_loc m2 f2_122 rfl rfl
theorem f2_123 : gm_ft 2 123 = some (.sipush 4000, 3) := by decide +kernel
theorem r2_123 {E : Nat → Value} {d : Nat} {st : List Value} {h : gm_H} {Q : gm_R → gm_H → Prop} {lv : List Value} : gm_W E d 2 123 lv st h Q ↔ gm_W E d 2 126 lv (.int (4000 : Int32) :: st) h Q := gw_pure m2 f2_123 rfl
theorem f2_126 : gm_ft 2 126 = some (.newarray .long, 2) := by decide +kernel
theorem r2_126 {E : Nat → Value} {d : Nat} {st : List Value} {h : gm_H} {Q : gm_R → gm_H → Prop} {lv : List Value} : gm_W E d 2 126 lv (.int (4000 : Int32) :: st) h Q ↔ gm_W E d 2 128 lv (.ref h.1 :: st) (gm_nw h (201, List.replicate 4000 (.long 0)) 4000) Q := gw_nw m2 f2_126 rfl rfl rfl rfl rfl rfl rfl
theorem f2_128 : gm_ft 2 128 = some (.putfield 54, 3) := by decide +kernel
theorem r2_128 {E : Nat → Value} {d : Nat} {st : List Value} {h : gm_H} {Q : gm_R → gm_H → Prop} {lv : List Value} {a : Nat} {b : Nat} (hk : gm_kd h a = 5) : gm_W E d 2 128 lv (.ref b :: .ref a :: st) h Q ↔ gm_W E d 2 131 lv st (gm_sf h a 24 (.ref b)) Q := gw_wr m2 f2_128 rfl rfl rfl rfl rfl (gs_put k5_54 hk (by decide) (by decide) ⟨rfl, rfl⟩ (by decide))
theorem r2_128n {E : Nat → Value} {d : Nat} {st : List Value} {h : gm_H} {Q : gm_R → gm_H → Prop} {lv : List Value} {a : Nat} (hk : gm_kd h a = 5) : gm_W E d 2 128 lv (.null :: .ref a :: st) h Q ↔ gm_W E d 2 131 lv st (gm_sf h a 24 (.null)) Q := gw_wr m2 f2_128 rfl rfl rfl rfl rfl (gs_put k5_54 hk (by decide) (by decide) ⟨rfl, rfl⟩ (by decide))
theorem f2_131 : gm_ft 2 131 = some (.aload_n 0, 1) := by decide +kernel
theorem r2_131 {E : Nat → Value} {d : Nat} {st : List Value} {h : gm_H} {Q : gm_R → gm_H → Prop} {a1 a2 a3 a4 a5 : Value} {x : Nat} : gm_W E d 2 131 [.ref x, a1, a2, a3, a4, a5] st h Q ↔ gm_W E d 2 132 [.ref x, a1, a2, a3, a4, a5] (.ref x :: st) h Q := gw_loc m2 f2_131 rfl rfl
theorem r2_131n {E : Nat → Value} {d : Nat} {st : List Value} {h : gm_H} {Q : gm_R → gm_H → Prop} {a1 a2 a3 a4 a5 : Value}  : gm_W E d 2 131 [.null, a1, a2, a3, a4, a5] st h Q ↔ gm_W E d 2 132 [.null, a1, a2, a3, a4, a5] (.null :: st) h Q := gw_loc m2 f2_131 rfl rfl
theorem f2_132 : gm_ft 2 132 = some (.sipush 130, 3) := by decide +kernel
theorem r2_132 {E : Nat → Value} {d : Nat} {st : List Value} {h : gm_H} {Q : gm_R → gm_H → Prop} {lv : List Value} : gm_W E d 2 132 lv st h Q ↔ gm_W E d 2 135 lv (.int (130 : Int32) :: st) h Q := gw_pure m2 f2_132 rfl
theorem f2_135 : gm_ft 2 135 = some (.newarray .int, 2) := by decide +kernel
theorem r2_135 {E : Nat → Value} {d : Nat} {st : List Value} {h : gm_H} {Q : gm_R → gm_H → Prop} {lv : List Value} : gm_W E d 2 135 lv (.int (130 : Int32) :: st) h Q ↔ gm_W E d 2 137 lv (.ref h.1 :: st) (gm_nw h (200, List.replicate 130 (.int 0)) 130) Q := gw_nw m2 f2_135 rfl rfl rfl rfl rfl rfl rfl
theorem f2_137 : gm_ft 2 137 = some (.putfield 57, 3) := by decide +kernel
theorem r2_137 {E : Nat → Value} {d : Nat} {st : List Value} {h : gm_H} {Q : gm_R → gm_H → Prop} {lv : List Value} {a : Nat} {b : Nat} (hk : gm_kd h a = 5) : gm_W E d 2 137 lv (.ref b :: .ref a :: st) h Q ↔ gm_W E d 2 140 lv st (gm_sf h a 26 (.ref b)) Q := gw_wr m2 f2_137 rfl rfl rfl rfl rfl (gs_put k5_57 hk (by decide) (by decide) ⟨rfl, rfl⟩ (by decide))
theorem r2_137n {E : Nat → Value} {d : Nat} {st : List Value} {h : gm_H} {Q : gm_R → gm_H → Prop} {lv : List Value} {a : Nat} (hk : gm_kd h a = 5) : gm_W E d 2 137 lv (.null :: .ref a :: st) h Q ↔ gm_W E d 2 140 lv st (gm_sf h a 26 (.null)) Q := gw_wr m2 f2_137 rfl rfl rfl rfl rfl (gs_put k5_57 hk (by decide) (by decide) ⟨rfl, rfl⟩ (by decide))
theorem f2_140 : gm_ft 2 140 = some (.aload_n 0, 1) := by decide +kernel
theorem r2_140 {E : Nat → Value} {d : Nat} {st : List Value} {h : gm_H} {Q : gm_R → gm_H → Prop} {a1 a2 a3 a4 a5 : Value} {x : Nat} : gm_W E d 2 140 [.ref x, a1, a2, a3, a4, a5] st h Q ↔ gm_W E d 2 141 [.ref x, a1, a2, a3, a4, a5] (.ref x :: st) h Q := gw_loc m2 f2_140 rfl rfl
theorem r2_140n {E : Nat → Value} {d : Nat} {st : List Value} {h : gm_H} {Q : gm_R → gm_H → Prop} {a1 a2 a3 a4 a5 : Value}  : gm_W E d 2 140 [.null, a1, a2, a3, a4, a5] st h Q ↔ gm_W E d 2 141 [.null, a1, a2, a3, a4, a5] (.null :: st) h Q := gw_loc m2 f2_140 rfl rfl
theorem f2_141 : gm_ft 2 141 = some (.sipush 130, 3) := by decide +kernel
theorem r2_141 {E : Nat → Value} {d : Nat} {st : List Value} {h : gm_H} {Q : gm_R → gm_H → Prop} {lv : List Value} : gm_W E d 2 141 lv st h Q ↔ gm_W E d 2 144 lv (.int (130 : Int32) :: st) h Q := gw_pure m2 f2_141 rfl
theorem f2_144 : gm_ft 2 144 = some (.newarray .int, 2) := by decide +kernel
theorem r2_144 {E : Nat → Value} {d : Nat} {st : List Value} {h : gm_H} {Q : gm_R → gm_H → Prop} {lv : List Value} : gm_W E d 2 144 lv (.int (130 : Int32) :: st) h Q ↔ gm_W E d 2 146 lv (.ref h.1 :: st) (gm_nw h (200, List.replicate 130 (.int 0)) 130) Q := gw_nw m2 f2_144 rfl rfl rfl rfl rfl rfl rfl
theorem f2_146 : gm_ft 2 146 = some (.putfield 60, 3) := by decide +kernel
theorem r2_146 {E : Nat → Value} {d : Nat} {st : List Value} {h : gm_H} {Q : gm_R → gm_H → Prop} {lv : List Value} {a : Nat} {b : Nat} (hk : gm_kd h a = 5) : gm_W E d 2 146 lv (.ref b :: .ref a :: st) h Q ↔ gm_W E d 2 149 lv st (gm_sf h a 27 (.ref b)) Q := gw_wr m2 f2_146 rfl rfl rfl rfl rfl (gs_put k5_60 hk (by decide) (by decide) ⟨rfl, rfl⟩ (by decide))
theorem r2_146n {E : Nat → Value} {d : Nat} {st : List Value} {h : gm_H} {Q : gm_R → gm_H → Prop} {lv : List Value} {a : Nat} (hk : gm_kd h a = 5) : gm_W E d 2 146 lv (.null :: .ref a :: st) h Q ↔ gm_W E d 2 149 lv st (gm_sf h a 27 (.null)) Q := gw_wr m2 f2_146 rfl rfl rfl rfl rfl (gs_put k5_60 hk (by decide) (by decide) ⟨rfl, rfl⟩ (by decide))
theorem f2_149 : gm_ft 2 149 = some (.aload_n 0, 1) := by decide +kernel
theorem r2_149 {E : Nat → Value} {d : Nat} {st : List Value} {h : gm_H} {Q : gm_R → gm_H → Prop} {a1 a2 a3 a4 a5 : Value} {x : Nat} : gm_W E d 2 149 [.ref x, a1, a2, a3, a4, a5] st h Q ↔ gm_W E d 2 150 [.ref x, a1, a2, a3, a4, a5] (.ref x :: st) h Q := gw_loc m2 f2_149 rfl rfl
theorem r2_149n {E : Nat → Value} {d : Nat} {st : List Value} {h : gm_H} {Q : gm_R → gm_H → Prop} {a1 a2 a3 a4 a5 : Value}  : gm_W E d 2 149 [.null, a1, a2, a3, a4, a5] st h Q ↔ gm_W E d 2 150 [.null, a1, a2, a3, a4, a5] (.null :: st) h Q := gw_loc m2 f2_149 rfl rfl
theorem f2_150 : gm_ft 2 150 = some (.sipush 130, 3) := by decide +kernel
theorem r2_150 {E : Nat → Value} {d : Nat} {st : List Value} {h : gm_H} {Q : gm_R → gm_H → Prop} {lv : List Value} : gm_W E d 2 150 lv st h Q ↔ gm_W E d 2 153 lv (.int (130 : Int32) :: st) h Q := gw_pure m2 f2_150 rfl
theorem f2_153 : gm_ft 2 153 = some (.newarray .int, 2) := by decide +kernel
theorem r2_153 {E : Nat → Value} {d : Nat} {st : List Value} {h : gm_H} {Q : gm_R → gm_H → Prop} {lv : List Value} : gm_W E d 2 153 lv (.int (130 : Int32) :: st) h Q ↔ gm_W E d 2 155 lv (.ref h.1 :: st) (gm_nw h (200, List.replicate 130 (.int 0)) 130) Q := gw_nw m2 f2_153 rfl rfl rfl rfl rfl rfl rfl
theorem f2_155 : gm_ft 2 155 = some (.putfield 63, 3) := by decide +kernel
theorem r2_155 {E : Nat → Value} {d : Nat} {st : List Value} {h : gm_H} {Q : gm_R → gm_H → Prop} {lv : List Value} {a : Nat} {b : Nat} (hk : gm_kd h a = 5) : gm_W E d 2 155 lv (.ref b :: .ref a :: st) h Q ↔ gm_W E d 2 158 lv st (gm_sf h a 29 (.ref b)) Q := gw_wr m2 f2_155 rfl rfl rfl rfl rfl (gs_put k5_63 hk (by decide) (by decide) ⟨rfl, rfl⟩ (by decide))
theorem r2_155n {E : Nat → Value} {d : Nat} {st : List Value} {h : gm_H} {Q : gm_R → gm_H → Prop} {lv : List Value} {a : Nat} (hk : gm_kd h a = 5) : gm_W E d 2 155 lv (.null :: .ref a :: st) h Q ↔ gm_W E d 2 158 lv st (gm_sf h a 29 (.null)) Q := gw_wr m2 f2_155 rfl rfl rfl rfl rfl (gs_put k5_63 hk (by decide) (by decide) ⟨rfl, rfl⟩ (by decide))
theorem f2_158 : gm_ft 2 158 = some (.aload_n 0, 1) := by decide +kernel
theorem r2_158 {E : Nat → Value} {d : Nat} {st : List Value} {h : gm_H} {Q : gm_R → gm_H → Prop} {a1 a2 a3 a4 a5 : Value} {x : Nat} : gm_W E d 2 158 [.ref x, a1, a2, a3, a4, a5] st h Q ↔ gm_W E d 2 159 [.ref x, a1, a2, a3, a4, a5] (.ref x :: st) h Q := gw_loc m2 f2_158 rfl rfl
theorem r2_158n {E : Nat → Value} {d : Nat} {st : List Value} {h : gm_H} {Q : gm_R → gm_H → Prop} {a1 a2 a3 a4 a5 : Value}  : gm_W E d 2 158 [.null, a1, a2, a3, a4, a5] st h Q ↔ gm_W E d 2 159 [.null, a1, a2, a3, a4, a5] (.null :: st) h Q := gw_loc m2 f2_158 rfl rfl
theorem f2_159 : gm_ft 2 159 = some (.sipush 130, 3) := by decide +kernel
theorem r2_159 {E : Nat → Value} {d : Nat} {st : List Value} {h : gm_H} {Q : gm_R → gm_H → Prop} {lv : List Value} : gm_W E d 2 159 lv st h Q ↔ gm_W E d 2 162 lv (.int (130 : Int32) :: st) h Q := gw_pure m2 f2_159 rfl
theorem f2_162 : gm_ft 2 162 = some (.newarray .int, 2) := by decide +kernel
theorem r2_162 {E : Nat → Value} {d : Nat} {st : List Value} {h : gm_H} {Q : gm_R → gm_H → Prop} {lv : List Value} : gm_W E d 2 162 lv (.int (130 : Int32) :: st) h Q ↔ gm_W E d 2 164 lv (.ref h.1 :: st) (gm_nw h (200, List.replicate 130 (.int 0)) 130) Q := gw_nw m2 f2_162 rfl rfl rfl rfl rfl rfl rfl
theorem f2_164 : gm_ft 2 164 = some (.putfield 66, 3) := by decide +kernel
theorem r2_164 {E : Nat → Value} {d : Nat} {st : List Value} {h : gm_H} {Q : gm_R → gm_H → Prop} {lv : List Value} {a : Nat} {b : Nat} (hk : gm_kd h a = 5) : gm_W E d 2 164 lv (.ref b :: .ref a :: st) h Q ↔ gm_W E d 2 167 lv st (gm_sf h a 30 (.ref b)) Q := gw_wr m2 f2_164 rfl rfl rfl rfl rfl (gs_put k5_66 hk (by decide) (by decide) ⟨rfl, rfl⟩ (by decide))
theorem r2_164n {E : Nat → Value} {d : Nat} {st : List Value} {h : gm_H} {Q : gm_R → gm_H → Prop} {lv : List Value} {a : Nat} (hk : gm_kd h a = 5) : gm_W E d 2 164 lv (.null :: .ref a :: st) h Q ↔ gm_W E d 2 167 lv st (gm_sf h a 30 (.null)) Q := gw_wr m2 f2_164 rfl rfl rfl rfl rfl (gs_put k5_66 hk (by decide) (by decide) ⟨rfl, rfl⟩ (by decide))
theorem f2_167 : gm_ft 2 167 = some (.aload_n 0, 1) := by decide +kernel
theorem r2_167 {E : Nat → Value} {d : Nat} {st : List Value} {h : gm_H} {Q : gm_R → gm_H → Prop} {a1 a2 a3 a4 a5 : Value} {x : Nat} : gm_W E d 2 167 [.ref x, a1, a2, a3, a4, a5] st h Q ↔ gm_W E d 2 168 [.ref x, a1, a2, a3, a4, a5] (.ref x :: st) h Q := gw_loc m2 f2_167 rfl rfl
theorem r2_167n {E : Nat → Value} {d : Nat} {st : List Value} {h : gm_H} {Q : gm_R → gm_H → Prop} {a1 a2 a3 a4 a5 : Value}  : gm_W E d 2 167 [.null, a1, a2, a3, a4, a5] st h Q ↔ gm_W E d 2 168 [.null, a1, a2, a3, a4, a5] (.null :: st) h Q := gw_loc m2 f2_167 rfl rfl
theorem f2_168 : gm_ft 2 168 = some (.sipush 130, 3) := by decide +kernel
theorem r2_168 {E : Nat → Value} {d : Nat} {st : List Value} {h : gm_H} {Q : gm_R → gm_H → Prop} {lv : List Value} : gm_W E d 2 168 lv st h Q ↔ gm_W E d 2 171 lv (.int (130 : Int32) :: st) h Q := gw_pure m2 f2_168 rfl
theorem f2_171 : gm_ft 2 171 = some (.newarray .int, 2) := by decide +kernel
theorem r2_171 {E : Nat → Value} {d : Nat} {st : List Value} {h : gm_H} {Q : gm_R → gm_H → Prop} {lv : List Value} : gm_W E d 2 171 lv (.int (130 : Int32) :: st) h Q ↔ gm_W E d 2 173 lv (.ref h.1 :: st) (gm_nw h (200, List.replicate 130 (.int 0)) 130) Q := gw_nw m2 f2_171 rfl rfl rfl rfl rfl rfl rfl
theorem f2_173 : gm_ft 2 173 = some (.putfield 69, 3) := by decide +kernel
theorem r2_173 {E : Nat → Value} {d : Nat} {st : List Value} {h : gm_H} {Q : gm_R → gm_H → Prop} {lv : List Value} {a : Nat} {b : Nat} (hk : gm_kd h a = 5) : gm_W E d 2 173 lv (.ref b :: .ref a :: st) h Q ↔ gm_W E d 2 176 lv st (gm_sf h a 31 (.ref b)) Q := gw_wr m2 f2_173 rfl rfl rfl rfl rfl (gs_put k5_69 hk (by decide) (by decide) ⟨rfl, rfl⟩ (by decide))
theorem r2_173n {E : Nat → Value} {d : Nat} {st : List Value} {h : gm_H} {Q : gm_R → gm_H → Prop} {lv : List Value} {a : Nat} (hk : gm_kd h a = 5) : gm_W E d 2 173 lv (.null :: .ref a :: st) h Q ↔ gm_W E d 2 176 lv st (gm_sf h a 31 (.null)) Q := gw_wr m2 f2_173 rfl rfl rfl rfl rfl (gs_put k5_69 hk (by decide) (by decide) ⟨rfl, rfl⟩ (by decide))
theorem f2_176 : gm_ft 2 176 = some (.aload_n 0, 1) := by decide +kernel
theorem r2_176 {E : Nat → Value} {d : Nat} {st : List Value} {h : gm_H} {Q : gm_R → gm_H → Prop} {a1 a2 a3 a4 a5 : Value} {x : Nat} : gm_W E d 2 176 [.ref x, a1, a2, a3, a4, a5] st h Q ↔ gm_W E d 2 177 [.ref x, a1, a2, a3, a4, a5] (.ref x :: st) h Q := gw_loc m2 f2_176 rfl rfl
theorem r2_176n {E : Nat → Value} {d : Nat} {st : List Value} {h : gm_H} {Q : gm_R → gm_H → Prop} {a1 a2 a3 a4 a5 : Value}  : gm_W E d 2 176 [.null, a1, a2, a3, a4, a5] st h Q ↔ gm_W E d 2 177 [.null, a1, a2, a3, a4, a5] (.null :: st) h Q := gw_loc m2 f2_176 rfl rfl
theorem f2_177 : gm_ft 2 177 = some (.sipush 130, 3) := by decide +kernel
theorem r2_177 {E : Nat → Value} {d : Nat} {st : List Value} {h : gm_H} {Q : gm_R → gm_H → Prop} {lv : List Value} : gm_W E d 2 177 lv st h Q ↔ gm_W E d 2 180 lv (.int (130 : Int32) :: st) h Q := gw_pure m2 f2_177 rfl
theorem f2_180 : gm_ft 2 180 = some (.newarray .int, 2) := by decide +kernel
theorem r2_180 {E : Nat → Value} {d : Nat} {st : List Value} {h : gm_H} {Q : gm_R → gm_H → Prop} {lv : List Value} : gm_W E d 2 180 lv (.int (130 : Int32) :: st) h Q ↔ gm_W E d 2 182 lv (.ref h.1 :: st) (gm_nw h (200, List.replicate 130 (.int 0)) 130) Q := gw_nw m2 f2_180 rfl rfl rfl rfl rfl rfl rfl
theorem f2_182 : gm_ft 2 182 = some (.putfield 72, 3) := by decide +kernel
theorem r2_182 {E : Nat → Value} {d : Nat} {st : List Value} {h : gm_H} {Q : gm_R → gm_H → Prop} {lv : List Value} {a : Nat} {b : Nat} (hk : gm_kd h a = 5) : gm_W E d 2 182 lv (.ref b :: .ref a :: st) h Q ↔ gm_W E d 2 185 lv st (gm_sf h a 32 (.ref b)) Q := gw_wr m2 f2_182 rfl rfl rfl rfl rfl (gs_put k5_72 hk (by decide) (by decide) ⟨rfl, rfl⟩ (by decide))
theorem r2_182n {E : Nat → Value} {d : Nat} {st : List Value} {h : gm_H} {Q : gm_R → gm_H → Prop} {lv : List Value} {a : Nat} (hk : gm_kd h a = 5) : gm_W E d 2 182 lv (.null :: .ref a :: st) h Q ↔ gm_W E d 2 185 lv st (gm_sf h a 32 (.null)) Q := gw_wr m2 f2_182 rfl rfl rfl rfl rfl (gs_put k5_72 hk (by decide) (by decide) ⟨rfl, rfl⟩ (by decide))
theorem f2_185 : gm_ft 2 185 = some (.aload_n 0, 1) := by decide +kernel
theorem r2_185 {E : Nat → Value} {d : Nat} {st : List Value} {h : gm_H} {Q : gm_R → gm_H → Prop} {a1 a2 a3 a4 a5 : Value} {x : Nat} : gm_W E d 2 185 [.ref x, a1, a2, a3, a4, a5] st h Q ↔ gm_W E d 2 186 [.ref x, a1, a2, a3, a4, a5] (.ref x :: st) h Q := gw_loc m2 f2_185 rfl rfl
theorem r2_185n {E : Nat → Value} {d : Nat} {st : List Value} {h : gm_H} {Q : gm_R → gm_H → Prop} {a1 a2 a3 a4 a5 : Value}  : gm_W E d 2 185 [.null, a1, a2, a3, a4, a5] st h Q ↔ gm_W E d 2 186 [.null, a1, a2, a3, a4, a5] (.null :: st) h Q := gw_loc m2 f2_185 rfl rfl
theorem f2_186 : gm_ft 2 186 = some (.sipush 130, 3) := by decide +kernel
theorem r2_186 {E : Nat → Value} {d : Nat} {st : List Value} {h : gm_H} {Q : gm_R → gm_H → Prop} {lv : List Value} : gm_W E d 2 186 lv st h Q ↔ gm_W E d 2 189 lv (.int (130 : Int32) :: st) h Q := gw_pure m2 f2_186 rfl
theorem f2_189 : gm_ft 2 189 = some (.newarray .int, 2) := by decide +kernel
theorem r2_189 {E : Nat → Value} {d : Nat} {st : List Value} {h : gm_H} {Q : gm_R → gm_H → Prop} {lv : List Value} : gm_W E d 2 189 lv (.int (130 : Int32) :: st) h Q ↔ gm_W E d 2 191 lv (.ref h.1 :: st) (gm_nw h (200, List.replicate 130 (.int 0)) 130) Q := gw_nw m2 f2_189 rfl rfl rfl rfl rfl rfl rfl
theorem f2_191 : gm_ft 2 191 = some (.putfield 75, 3) := by decide +kernel
theorem r2_191 {E : Nat → Value} {d : Nat} {st : List Value} {h : gm_H} {Q : gm_R → gm_H → Prop} {lv : List Value} {a : Nat} {b : Nat} (hk : gm_kd h a = 5) : gm_W E d 2 191 lv (.ref b :: .ref a :: st) h Q ↔ gm_W E d 2 194 lv st (gm_sf h a 33 (.ref b)) Q := gw_wr m2 f2_191 rfl rfl rfl rfl rfl (gs_put k5_75 hk (by decide) (by decide) ⟨rfl, rfl⟩ (by decide))
theorem r2_191n {E : Nat → Value} {d : Nat} {st : List Value} {h : gm_H} {Q : gm_R → gm_H → Prop} {lv : List Value} {a : Nat} (hk : gm_kd h a = 5) : gm_W E d 2 191 lv (.null :: .ref a :: st) h Q ↔ gm_W E d 2 194 lv st (gm_sf h a 33 (.null)) Q := gw_wr m2 f2_191 rfl rfl rfl rfl rfl (gs_put k5_75 hk (by decide) (by decide) ⟨rfl, rfl⟩ (by decide))
theorem f2_194 : gm_ft 2 194 = some (.aload_n 0, 1) := by decide +kernel
theorem r2_194 {E : Nat → Value} {d : Nat} {st : List Value} {h : gm_H} {Q : gm_R → gm_H → Prop} {a1 a2 a3 a4 a5 : Value} {x : Nat} : gm_W E d 2 194 [.ref x, a1, a2, a3, a4, a5] st h Q ↔ gm_W E d 2 195 [.ref x, a1, a2, a3, a4, a5] (.ref x :: st) h Q := gw_loc m2 f2_194 rfl rfl
theorem r2_194n {E : Nat → Value} {d : Nat} {st : List Value} {h : gm_H} {Q : gm_R → gm_H → Prop} {a1 a2 a3 a4 a5 : Value}  : gm_W E d 2 194 [.null, a1, a2, a3, a4, a5] st h Q ↔ gm_W E d 2 195 [.null, a1, a2, a3, a4, a5] (.null :: st) h Q := gw_loc m2 f2_194 rfl rfl
theorem f2_195 : gm_ft 2 195 = some (.sipush 130, 3) := by decide +kernel
theorem r2_195 {E : Nat → Value} {d : Nat} {st : List Value} {h : gm_H} {Q : gm_R → gm_H → Prop} {lv : List Value} : gm_W E d 2 195 lv st h Q ↔ gm_W E d 2 198 lv (.int (130 : Int32) :: st) h Q := gw_pure m2 f2_195 rfl
theorem f2_198 : gm_ft 2 198 = some (.newarray .long, 2) := by decide +kernel
theorem r2_198 {E : Nat → Value} {d : Nat} {st : List Value} {h : gm_H} {Q : gm_R → gm_H → Prop} {lv : List Value} : gm_W E d 2 198 lv (.int (130 : Int32) :: st) h Q ↔ gm_W E d 2 200 lv (.ref h.1 :: st) (gm_nw h (201, List.replicate 130 (.long 0)) 130) Q := gw_nw m2 f2_198 rfl rfl rfl rfl rfl rfl rfl
theorem f2_200 : gm_ft 2 200 = some (.putfield 78, 3) := by decide +kernel
theorem r2_200 {E : Nat → Value} {d : Nat} {st : List Value} {h : gm_H} {Q : gm_R → gm_H → Prop} {lv : List Value} {a : Nat} {b : Nat} (hk : gm_kd h a = 5) : gm_W E d 2 200 lv (.ref b :: .ref a :: st) h Q ↔ gm_W E d 2 203 lv st (gm_sf h a 34 (.ref b)) Q := gw_wr m2 f2_200 rfl rfl rfl rfl rfl (gs_put k5_78 hk (by decide) (by decide) ⟨rfl, rfl⟩ (by decide))
theorem r2_200n {E : Nat → Value} {d : Nat} {st : List Value} {h : gm_H} {Q : gm_R → gm_H → Prop} {lv : List Value} {a : Nat} (hk : gm_kd h a = 5) : gm_W E d 2 200 lv (.null :: .ref a :: st) h Q ↔ gm_W E d 2 203 lv st (gm_sf h a 34 (.null)) Q := gw_wr m2 f2_200 rfl rfl rfl rfl rfl (gs_put k5_78 hk (by decide) (by decide) ⟨rfl, rfl⟩ (by decide))
theorem f2_203 : gm_ft 2 203 = some (.aload_n 0, 1) := by decide +kernel
theorem r2_203 {E : Nat → Value} {d : Nat} {st : List Value} {h : gm_H} {Q : gm_R → gm_H → Prop} {a1 a2 a3 a4 a5 : Value} {x : Nat} : gm_W E d 2 203 [.ref x, a1, a2, a3, a4, a5] st h Q ↔ gm_W E d 2 204 [.ref x, a1, a2, a3, a4, a5] (.ref x :: st) h Q := gw_loc m2 f2_203 rfl rfl
theorem r2_203n {E : Nat → Value} {d : Nat} {st : List Value} {h : gm_H} {Q : gm_R → gm_H → Prop} {a1 a2 a3 a4 a5 : Value}  : gm_W E d 2 203 [.null, a1, a2, a3, a4, a5] st h Q ↔ gm_W E d 2 204 [.null, a1, a2, a3, a4, a5] (.null :: st) h Q := gw_loc m2 f2_203 rfl rfl
theorem f2_204 : gm_ft 2 204 = some (.sipush 130, 3) := by decide +kernel
theorem r2_204 {E : Nat → Value} {d : Nat} {st : List Value} {h : gm_H} {Q : gm_R → gm_H → Prop} {lv : List Value} : gm_W E d 2 204 lv st h Q ↔ gm_W E d 2 207 lv (.int (130 : Int32) :: st) h Q := gw_pure m2 f2_204 rfl
theorem f2_207 : gm_ft 2 207 = some (.newarray .int, 2) := by decide +kernel
theorem r2_207 {E : Nat → Value} {d : Nat} {st : List Value} {h : gm_H} {Q : gm_R → gm_H → Prop} {lv : List Value} : gm_W E d 2 207 lv (.int (130 : Int32) :: st) h Q ↔ gm_W E d 2 209 lv (.ref h.1 :: st) (gm_nw h (200, List.replicate 130 (.int 0)) 130) Q := gw_nw m2 f2_207 rfl rfl rfl rfl rfl rfl rfl
theorem f2_209 : gm_ft 2 209 = some (.putfield 81, 3) := by decide +kernel
theorem r2_209 {E : Nat → Value} {d : Nat} {st : List Value} {h : gm_H} {Q : gm_R → gm_H → Prop} {lv : List Value} {a : Nat} {b : Nat} (hk : gm_kd h a = 5) : gm_W E d 2 209 lv (.ref b :: .ref a :: st) h Q ↔ gm_W E d 2 212 lv st (gm_sf h a 35 (.ref b)) Q := gw_wr m2 f2_209 rfl rfl rfl rfl rfl (gs_put k5_81 hk (by decide) (by decide) ⟨rfl, rfl⟩ (by decide))
theorem r2_209n {E : Nat → Value} {d : Nat} {st : List Value} {h : gm_H} {Q : gm_R → gm_H → Prop} {lv : List Value} {a : Nat} (hk : gm_kd h a = 5) : gm_W E d 2 209 lv (.null :: .ref a :: st) h Q ↔ gm_W E d 2 212 lv st (gm_sf h a 35 (.null)) Q := gw_wr m2 f2_209 rfl rfl rfl rfl rfl (gs_put k5_81 hk (by decide) (by decide) ⟨rfl, rfl⟩ (by decide))
theorem f2_212 : gm_ft 2 212 = some (.aload_n 0, 1) := by decide +kernel
theorem r2_212 {E : Nat → Value} {d : Nat} {st : List Value} {h : gm_H} {Q : gm_R → gm_H → Prop} {a1 a2 a3 a4 a5 : Value} {x : Nat} : gm_W E d 2 212 [.ref x, a1, a2, a3, a4, a5] st h Q ↔ gm_W E d 2 213 [.ref x, a1, a2, a3, a4, a5] (.ref x :: st) h Q := gw_loc m2 f2_212 rfl rfl
theorem r2_212n {E : Nat → Value} {d : Nat} {st : List Value} {h : gm_H} {Q : gm_R → gm_H → Prop} {a1 a2 a3 a4 a5 : Value}  : gm_W E d 2 212 [.null, a1, a2, a3, a4, a5] st h Q ↔ gm_W E d 2 213 [.null, a1, a2, a3, a4, a5] (.null :: st) h Q := gw_loc m2 f2_212 rfl rfl
theorem f2_213 : gm_ft 2 213 = some (.sipush 1040, 3) := by decide +kernel
theorem r2_213 {E : Nat → Value} {d : Nat} {st : List Value} {h : gm_H} {Q : gm_R → gm_H → Prop} {lv : List Value} : gm_W E d 2 213 lv st h Q ↔ gm_W E d 2 216 lv (.int (1040 : Int32) :: st) h Q := gw_pure m2 f2_213 rfl
theorem f2_216 : gm_ft 2 216 = some (.newarray .int, 2) := by decide +kernel
theorem r2_216 {E : Nat → Value} {d : Nat} {st : List Value} {h : gm_H} {Q : gm_R → gm_H → Prop} {lv : List Value} : gm_W E d 2 216 lv (.int (1040 : Int32) :: st) h Q ↔ gm_W E d 2 218 lv (.ref h.1 :: st) (gm_nw h (200, List.replicate 1040 (.int 0)) 1040) Q := gw_nw m2 f2_216 rfl rfl rfl rfl rfl rfl rfl
theorem f2_218 : gm_ft 2 218 = some (.putfield 84, 3) := by decide +kernel
theorem r2_218 {E : Nat → Value} {d : Nat} {st : List Value} {h : gm_H} {Q : gm_R → gm_H → Prop} {lv : List Value} {a : Nat} {b : Nat} (hk : gm_kd h a = 5) : gm_W E d 2 218 lv (.ref b :: .ref a :: st) h Q ↔ gm_W E d 2 221 lv st (gm_sf h a 36 (.ref b)) Q := gw_wr m2 f2_218 rfl rfl rfl rfl rfl (gs_put k5_84 hk (by decide) (by decide) ⟨rfl, rfl⟩ (by decide))
theorem r2_218n {E : Nat → Value} {d : Nat} {st : List Value} {h : gm_H} {Q : gm_R → gm_H → Prop} {lv : List Value} {a : Nat} (hk : gm_kd h a = 5) : gm_W E d 2 218 lv (.null :: .ref a :: st) h Q ↔ gm_W E d 2 221 lv st (gm_sf h a 36 (.null)) Q := gw_wr m2 f2_218 rfl rfl rfl rfl rfl (gs_put k5_84 hk (by decide) (by decide) ⟨rfl, rfl⟩ (by decide))
theorem f2_221 : gm_ft 2 221 = some (.aload_n 0, 1) := by decide +kernel
theorem r2_221 {E : Nat → Value} {d : Nat} {st : List Value} {h : gm_H} {Q : gm_R → gm_H → Prop} {a1 a2 a3 a4 a5 : Value} {x : Nat} : gm_W E d 2 221 [.ref x, a1, a2, a3, a4, a5] st h Q ↔ gm_W E d 2 222 [.ref x, a1, a2, a3, a4, a5] (.ref x :: st) h Q := gw_loc m2 f2_221 rfl rfl
theorem r2_221n {E : Nat → Value} {d : Nat} {st : List Value} {h : gm_H} {Q : gm_R → gm_H → Prop} {a1 a2 a3 a4 a5 : Value}  : gm_W E d 2 221 [.null, a1, a2, a3, a4, a5] st h Q ↔ gm_W E d 2 222 [.null, a1, a2, a3, a4, a5] (.null :: st) h Q := gw_loc m2 f2_221 rfl rfl
theorem f2_222 : gm_ft 2 222 = some (.sipush 1040, 3) := by decide +kernel
theorem r2_222 {E : Nat → Value} {d : Nat} {st : List Value} {h : gm_H} {Q : gm_R → gm_H → Prop} {lv : List Value} : gm_W E d 2 222 lv st h Q ↔ gm_W E d 2 225 lv (.int (1040 : Int32) :: st) h Q := gw_pure m2 f2_222 rfl
theorem f2_225 : gm_ft 2 225 = some (.newarray .int, 2) := by decide +kernel
theorem r2_225 {E : Nat → Value} {d : Nat} {st : List Value} {h : gm_H} {Q : gm_R → gm_H → Prop} {lv : List Value} : gm_W E d 2 225 lv (.int (1040 : Int32) :: st) h Q ↔ gm_W E d 2 227 lv (.ref h.1 :: st) (gm_nw h (200, List.replicate 1040 (.int 0)) 1040) Q := gw_nw m2 f2_225 rfl rfl rfl rfl rfl rfl rfl
theorem f2_227 : gm_ft 2 227 = some (.putfield 87, 3) := by decide +kernel
theorem r2_227 {E : Nat → Value} {d : Nat} {st : List Value} {h : gm_H} {Q : gm_R → gm_H → Prop} {lv : List Value} {a : Nat} {b : Nat} (hk : gm_kd h a = 5) : gm_W E d 2 227 lv (.ref b :: .ref a :: st) h Q ↔ gm_W E d 2 230 lv st (gm_sf h a 37 (.ref b)) Q := gw_wr m2 f2_227 rfl rfl rfl rfl rfl (gs_put k5_87 hk (by decide) (by decide) ⟨rfl, rfl⟩ (by decide))
theorem r2_227n {E : Nat → Value} {d : Nat} {st : List Value} {h : gm_H} {Q : gm_R → gm_H → Prop} {lv : List Value} {a : Nat} (hk : gm_kd h a = 5) : gm_W E d 2 227 lv (.null :: .ref a :: st) h Q ↔ gm_W E d 2 230 lv st (gm_sf h a 37 (.null)) Q := gw_wr m2 f2_227 rfl rfl rfl rfl rfl (gs_put k5_87 hk (by decide) (by decide) ⟨rfl, rfl⟩ (by decide))
theorem f2_230 : gm_ft 2 230 = some (.aload_n 0, 1) := by decide +kernel
theorem r2_230 {E : Nat → Value} {d : Nat} {st : List Value} {h : gm_H} {Q : gm_R → gm_H → Prop} {a1 a2 a3 a4 a5 : Value} {x : Nat} : gm_W E d 2 230 [.ref x, a1, a2, a3, a4, a5] st h Q ↔ gm_W E d 2 231 [.ref x, a1, a2, a3, a4, a5] (.ref x :: st) h Q := gw_loc m2 f2_230 rfl rfl
theorem r2_230n {E : Nat → Value} {d : Nat} {st : List Value} {h : gm_H} {Q : gm_R → gm_H → Prop} {a1 a2 a3 a4 a5 : Value}  : gm_W E d 2 230 [.null, a1, a2, a3, a4, a5] st h Q ↔ gm_W E d 2 231 [.null, a1, a2, a3, a4, a5] (.null :: st) h Q := gw_loc m2 f2_230 rfl rfl
theorem f2_231 : gm_ft 2 231 = some (.sipush 130, 3) := by decide +kernel
theorem r2_231 {E : Nat → Value} {d : Nat} {st : List Value} {h : gm_H} {Q : gm_R → gm_H → Prop} {lv : List Value} : gm_W E d 2 231 lv st h Q ↔ gm_W E d 2 234 lv (.int (130 : Int32) :: st) h Q := gw_pure m2 f2_231 rfl
theorem f2_234 : gm_ft 2 234 = some (.newarray .int, 2) := by decide +kernel
theorem r2_234 {E : Nat → Value} {d : Nat} {st : List Value} {h : gm_H} {Q : gm_R → gm_H → Prop} {lv : List Value} : gm_W E d 2 234 lv (.int (130 : Int32) :: st) h Q ↔ gm_W E d 2 236 lv (.ref h.1 :: st) (gm_nw h (200, List.replicate 130 (.int 0)) 130) Q := gw_nw m2 f2_234 rfl rfl rfl rfl rfl rfl rfl
theorem f2_236 : gm_ft 2 236 = some (.putfield 90, 3) := by decide +kernel
theorem r2_236 {E : Nat → Value} {d : Nat} {st : List Value} {h : gm_H} {Q : gm_R → gm_H → Prop} {lv : List Value} {a : Nat} {b : Nat} (hk : gm_kd h a = 5) : gm_W E d 2 236 lv (.ref b :: .ref a :: st) h Q ↔ gm_W E d 2 239 lv st (gm_sf h a 38 (.ref b)) Q := gw_wr m2 f2_236 rfl rfl rfl rfl rfl (gs_put k5_90 hk (by decide) (by decide) ⟨rfl, rfl⟩ (by decide))
theorem r2_236n {E : Nat → Value} {d : Nat} {st : List Value} {h : gm_H} {Q : gm_R → gm_H → Prop} {lv : List Value} {a : Nat} (hk : gm_kd h a = 5) : gm_W E d 2 236 lv (.null :: .ref a :: st) h Q ↔ gm_W E d 2 239 lv st (gm_sf h a 38 (.null)) Q := gw_wr m2 f2_236 rfl rfl rfl rfl rfl (gs_put k5_90 hk (by decide) (by decide) ⟨rfl, rfl⟩ (by decide))
theorem f2_239 : gm_ft 2 239 = some (.aload_n 0, 1) := by decide +kernel
theorem r2_239 {E : Nat → Value} {d : Nat} {st : List Value} {h : gm_H} {Q : gm_R → gm_H → Prop} {a1 a2 a3 a4 a5 : Value} {x : Nat} : gm_W E d 2 239 [.ref x, a1, a2, a3, a4, a5] st h Q ↔ gm_W E d 2 240 [.ref x, a1, a2, a3, a4, a5] (.ref x :: st) h Q := gw_loc m2 f2_239 rfl rfl
theorem r2_239n {E : Nat → Value} {d : Nat} {st : List Value} {h : gm_H} {Q : gm_R → gm_H → Prop} {a1 a2 a3 a4 a5 : Value}  : gm_W E d 2 239 [.null, a1, a2, a3, a4, a5] st h Q ↔ gm_W E d 2 240 [.null, a1, a2, a3, a4, a5] (.null :: st) h Q := gw_loc m2 f2_239 rfl rfl
theorem f2_240 : gm_ft 2 240 = some (.bipush 80, 2) := by decide +kernel
theorem r2_240 {E : Nat → Value} {d : Nat} {st : List Value} {h : gm_H} {Q : gm_R → gm_H → Prop} {lv : List Value} : gm_W E d 2 240 lv st h Q ↔ gm_W E d 2 242 lv (.int (80 : Int32) :: st) h Q := gw_pure m2 f2_240 rfl
theorem f2_242 : gm_ft 2 242 = some (.newarray .int, 2) := by decide +kernel
theorem r2_242 {E : Nat → Value} {d : Nat} {st : List Value} {h : gm_H} {Q : gm_R → gm_H → Prop} {lv : List Value} : gm_W E d 2 242 lv (.int (80 : Int32) :: st) h Q ↔ gm_W E d 2 244 lv (.ref h.1 :: st) (gm_nw h (200, List.replicate 80 (.int 0)) 80) Q := gw_nw m2 f2_242 rfl rfl rfl rfl rfl rfl rfl
theorem f2_244 : gm_ft 2 244 = some (.putfield 93, 3) := by decide +kernel
theorem r2_244 {E : Nat → Value} {d : Nat} {st : List Value} {h : gm_H} {Q : gm_R → gm_H → Prop} {lv : List Value} {a : Nat} {b : Nat} (hk : gm_kd h a = 5) : gm_W E d 2 244 lv (.ref b :: .ref a :: st) h Q ↔ gm_W E d 2 247 lv st (gm_sf h a 40 (.ref b)) Q := gw_wr m2 f2_244 rfl rfl rfl rfl rfl (gs_put k5_93 hk (by decide) (by decide) ⟨rfl, rfl⟩ (by decide))
theorem r2_244n {E : Nat → Value} {d : Nat} {st : List Value} {h : gm_H} {Q : gm_R → gm_H → Prop} {lv : List Value} {a : Nat} (hk : gm_kd h a = 5) : gm_W E d 2 244 lv (.null :: .ref a :: st) h Q ↔ gm_W E d 2 247 lv st (gm_sf h a 40 (.null)) Q := gw_wr m2 f2_244 rfl rfl rfl rfl rfl (gs_put k5_93 hk (by decide) (by decide) ⟨rfl, rfl⟩ (by decide))
theorem f2_247 : gm_ft 2 247 = some (.aload_n 0, 1) := by decide +kernel
theorem r2_247 {E : Nat → Value} {d : Nat} {st : List Value} {h : gm_H} {Q : gm_R → gm_H → Prop} {a1 a2 a3 a4 a5 : Value} {x : Nat} : gm_W E d 2 247 [.ref x, a1, a2, a3, a4, a5] st h Q ↔ gm_W E d 2 248 [.ref x, a1, a2, a3, a4, a5] (.ref x :: st) h Q := gw_loc m2 f2_247 rfl rfl
theorem r2_247n {E : Nat → Value} {d : Nat} {st : List Value} {h : gm_H} {Q : gm_R → gm_H → Prop} {a1 a2 a3 a4 a5 : Value}  : gm_W E d 2 247 [.null, a1, a2, a3, a4, a5] st h Q ↔ gm_W E d 2 248 [.null, a1, a2, a3, a4, a5] (.null :: st) h Q := gw_loc m2 f2_247 rfl rfl
theorem f2_248 : gm_ft 2 248 = some (.bipush 80, 2) := by decide +kernel
theorem r2_248 {E : Nat → Value} {d : Nat} {st : List Value} {h : gm_H} {Q : gm_R → gm_H → Prop} {lv : List Value} : gm_W E d 2 248 lv st h Q ↔ gm_W E d 2 250 lv (.int (80 : Int32) :: st) h Q := gw_pure m2 f2_248 rfl
theorem f2_250 : gm_ft 2 250 = some (.newarray .int, 2) := by decide +kernel
theorem r2_250 {E : Nat → Value} {d : Nat} {st : List Value} {h : gm_H} {Q : gm_R → gm_H → Prop} {lv : List Value} : gm_W E d 2 250 lv (.int (80 : Int32) :: st) h Q ↔ gm_W E d 2 252 lv (.ref h.1 :: st) (gm_nw h (200, List.replicate 80 (.int 0)) 80) Q := gw_nw m2 f2_250 rfl rfl rfl rfl rfl rfl rfl
theorem f2_252 : gm_ft 2 252 = some (.putfield 96, 3) := by decide +kernel
theorem r2_252 {E : Nat → Value} {d : Nat} {st : List Value} {h : gm_H} {Q : gm_R → gm_H → Prop} {lv : List Value} {a : Nat} {b : Nat} (hk : gm_kd h a = 5) : gm_W E d 2 252 lv (.ref b :: .ref a :: st) h Q ↔ gm_W E d 2 255 lv st (gm_sf h a 41 (.ref b)) Q := gw_wr m2 f2_252 rfl rfl rfl rfl rfl (gs_put k5_96 hk (by decide) (by decide) ⟨rfl, rfl⟩ (by decide))
theorem r2_252n {E : Nat → Value} {d : Nat} {st : List Value} {h : gm_H} {Q : gm_R → gm_H → Prop} {lv : List Value} {a : Nat} (hk : gm_kd h a = 5) : gm_W E d 2 252 lv (.null :: .ref a :: st) h Q ↔ gm_W E d 2 255 lv st (gm_sf h a 41 (.null)) Q := gw_wr m2 f2_252 rfl rfl rfl rfl rfl (gs_put k5_96 hk (by decide) (by decide) ⟨rfl, rfl⟩ (by decide))
theorem f2_255 : gm_ft 2 255 = some (.aload_n 0, 1) := by decide +kernel
theorem r2_255 {E : Nat → Value} {d : Nat} {st : List Value} {h : gm_H} {Q : gm_R → gm_H → Prop} {a1 a2 a3 a4 a5 : Value} {x : Nat} : gm_W E d 2 255 [.ref x, a1, a2, a3, a4, a5] st h Q ↔ gm_W E d 2 256 [.ref x, a1, a2, a3, a4, a5] (.ref x :: st) h Q := gw_loc m2 f2_255 rfl rfl
theorem r2_255n {E : Nat → Value} {d : Nat} {st : List Value} {h : gm_H} {Q : gm_R → gm_H → Prop} {a1 a2 a3 a4 a5 : Value}  : gm_W E d 2 255 [.null, a1, a2, a3, a4, a5] st h Q ↔ gm_W E d 2 256 [.null, a1, a2, a3, a4, a5] (.null :: st) h Q := gw_loc m2 f2_255 rfl rfl
theorem f2_256 : gm_ft 2 256 = some (.bipush 80, 2) := by decide +kernel
theorem r2_256 {E : Nat → Value} {d : Nat} {st : List Value} {h : gm_H} {Q : gm_R → gm_H → Prop} {lv : List Value} : gm_W E d 2 256 lv st h Q ↔ gm_W E d 2 258 lv (.int (80 : Int32) :: st) h Q := gw_pure m2 f2_256 rfl
theorem f2_258 : gm_ft 2 258 = some (.newarray .int, 2) := by decide +kernel
theorem r2_258 {E : Nat → Value} {d : Nat} {st : List Value} {h : gm_H} {Q : gm_R → gm_H → Prop} {lv : List Value} : gm_W E d 2 258 lv (.int (80 : Int32) :: st) h Q ↔ gm_W E d 2 260 lv (.ref h.1 :: st) (gm_nw h (200, List.replicate 80 (.int 0)) 80) Q := gw_nw m2 f2_258 rfl rfl rfl rfl rfl rfl rfl
theorem f2_260 : gm_ft 2 260 = some (.putfield 99, 3) := by decide +kernel
theorem r2_260 {E : Nat → Value} {d : Nat} {st : List Value} {h : gm_H} {Q : gm_R → gm_H → Prop} {lv : List Value} {a : Nat} {b : Nat} (hk : gm_kd h a = 5) : gm_W E d 2 260 lv (.ref b :: .ref a :: st) h Q ↔ gm_W E d 2 263 lv st (gm_sf h a 42 (.ref b)) Q := gw_wr m2 f2_260 rfl rfl rfl rfl rfl (gs_put k5_99 hk (by decide) (by decide) ⟨rfl, rfl⟩ (by decide))
theorem r2_260n {E : Nat → Value} {d : Nat} {st : List Value} {h : gm_H} {Q : gm_R → gm_H → Prop} {lv : List Value} {a : Nat} (hk : gm_kd h a = 5) : gm_W E d 2 260 lv (.null :: .ref a :: st) h Q ↔ gm_W E d 2 263 lv st (gm_sf h a 42 (.null)) Q := gw_wr m2 f2_260 rfl rfl rfl rfl rfl (gs_put k5_99 hk (by decide) (by decide) ⟨rfl, rfl⟩ (by decide))
theorem f2_263 : gm_ft 2 263 = some (.aload_n 0, 1) := by decide +kernel
theorem r2_263 {E : Nat → Value} {d : Nat} {st : List Value} {h : gm_H} {Q : gm_R → gm_H → Prop} {a1 a2 a3 a4 a5 : Value} {x : Nat} : gm_W E d 2 263 [.ref x, a1, a2, a3, a4, a5] st h Q ↔ gm_W E d 2 264 [.ref x, a1, a2, a3, a4, a5] (.ref x :: st) h Q := gw_loc m2 f2_263 rfl rfl
theorem r2_263n {E : Nat → Value} {d : Nat} {st : List Value} {h : gm_H} {Q : gm_R → gm_H → Prop} {a1 a2 a3 a4 a5 : Value}  : gm_W E d 2 263 [.null, a1, a2, a3, a4, a5] st h Q ↔ gm_W E d 2 264 [.null, a1, a2, a3, a4, a5] (.null :: st) h Q := gw_loc m2 f2_263 rfl rfl
theorem f2_264 : gm_ft 2 264 = some (.bipush 80, 2) := by decide +kernel
theorem r2_264 {E : Nat → Value} {d : Nat} {st : List Value} {h : gm_H} {Q : gm_R → gm_H → Prop} {lv : List Value} : gm_W E d 2 264 lv st h Q ↔ gm_W E d 2 266 lv (.int (80 : Int32) :: st) h Q := gw_pure m2 f2_264 rfl
theorem f2_266 : gm_ft 2 266 = some (.newarray .int, 2) := by decide +kernel
theorem r2_266 {E : Nat → Value} {d : Nat} {st : List Value} {h : gm_H} {Q : gm_R → gm_H → Prop} {lv : List Value} : gm_W E d 2 266 lv (.int (80 : Int32) :: st) h Q ↔ gm_W E d 2 268 lv (.ref h.1 :: st) (gm_nw h (200, List.replicate 80 (.int 0)) 80) Q := gw_nw m2 f2_266 rfl rfl rfl rfl rfl rfl rfl
theorem f2_268 : gm_ft 2 268 = some (.putfield 102, 3) := by decide +kernel
theorem r2_268 {E : Nat → Value} {d : Nat} {st : List Value} {h : gm_H} {Q : gm_R → gm_H → Prop} {lv : List Value} {a : Nat} {b : Nat} (hk : gm_kd h a = 5) : gm_W E d 2 268 lv (.ref b :: .ref a :: st) h Q ↔ gm_W E d 2 271 lv st (gm_sf h a 43 (.ref b)) Q := gw_wr m2 f2_268 rfl rfl rfl rfl rfl (gs_put k5_102 hk (by decide) (by decide) ⟨rfl, rfl⟩ (by decide))
theorem r2_268n {E : Nat → Value} {d : Nat} {st : List Value} {h : gm_H} {Q : gm_R → gm_H → Prop} {lv : List Value} {a : Nat} (hk : gm_kd h a = 5) : gm_W E d 2 268 lv (.null :: .ref a :: st) h Q ↔ gm_W E d 2 271 lv st (gm_sf h a 43 (.null)) Q := gw_wr m2 f2_268 rfl rfl rfl rfl rfl (gs_put k5_102 hk (by decide) (by decide) ⟨rfl, rfl⟩ (by decide))
theorem f2_271 : gm_ft 2 271 = some (.aload_n 0, 1) := by decide +kernel
theorem r2_271 {E : Nat → Value} {d : Nat} {st : List Value} {h : gm_H} {Q : gm_R → gm_H → Prop} {a1 a2 a3 a4 a5 : Value} {x : Nat} : gm_W E d 2 271 [.ref x, a1, a2, a3, a4, a5] st h Q ↔ gm_W E d 2 272 [.ref x, a1, a2, a3, a4, a5] (.ref x :: st) h Q := gw_loc m2 f2_271 rfl rfl
theorem r2_271n {E : Nat → Value} {d : Nat} {st : List Value} {h : gm_H} {Q : gm_R → gm_H → Prop} {a1 a2 a3 a4 a5 : Value}  : gm_W E d 2 271 [.null, a1, a2, a3, a4, a5] st h Q ↔ gm_W E d 2 272 [.null, a1, a2, a3, a4, a5] (.null :: st) h Q := gw_loc m2 f2_271 rfl rfl
theorem f2_272 : gm_ft 2 272 = some (.bipush 80, 2) := by decide +kernel
theorem r2_272 {E : Nat → Value} {d : Nat} {st : List Value} {h : gm_H} {Q : gm_R → gm_H → Prop} {lv : List Value} : gm_W E d 2 272 lv st h Q ↔ gm_W E d 2 274 lv (.int (80 : Int32) :: st) h Q := gw_pure m2 f2_272 rfl
theorem f2_274 : gm_ft 2 274 = some (.newarray .int, 2) := by decide +kernel
theorem r2_274 {E : Nat → Value} {d : Nat} {st : List Value} {h : gm_H} {Q : gm_R → gm_H → Prop} {lv : List Value} : gm_W E d 2 274 lv (.int (80 : Int32) :: st) h Q ↔ gm_W E d 2 276 lv (.ref h.1 :: st) (gm_nw h (200, List.replicate 80 (.int 0)) 80) Q := gw_nw m2 f2_274 rfl rfl rfl rfl rfl rfl rfl
theorem f2_276 : gm_ft 2 276 = some (.putfield 105, 3) := by decide +kernel
theorem r2_276 {E : Nat → Value} {d : Nat} {st : List Value} {h : gm_H} {Q : gm_R → gm_H → Prop} {lv : List Value} {a : Nat} {b : Nat} (hk : gm_kd h a = 5) : gm_W E d 2 276 lv (.ref b :: .ref a :: st) h Q ↔ gm_W E d 2 279 lv st (gm_sf h a 44 (.ref b)) Q := gw_wr m2 f2_276 rfl rfl rfl rfl rfl (gs_put k5_105 hk (by decide) (by decide) ⟨rfl, rfl⟩ (by decide))
theorem r2_276n {E : Nat → Value} {d : Nat} {st : List Value} {h : gm_H} {Q : gm_R → gm_H → Prop} {lv : List Value} {a : Nat} (hk : gm_kd h a = 5) : gm_W E d 2 276 lv (.null :: .ref a :: st) h Q ↔ gm_W E d 2 279 lv st (gm_sf h a 44 (.null)) Q := gw_wr m2 f2_276 rfl rfl rfl rfl rfl (gs_put k5_105 hk (by decide) (by decide) ⟨rfl, rfl⟩ (by decide))
theorem f2_279 : gm_ft 2 279 = some (.aload_n 0, 1) := by decide +kernel
theorem r2_279 {E : Nat → Value} {d : Nat} {st : List Value} {h : gm_H} {Q : gm_R → gm_H → Prop} {a1 a2 a3 a4 a5 : Value} {x : Nat} : gm_W E d 2 279 [.ref x, a1, a2, a3, a4, a5] st h Q ↔ gm_W E d 2 280 [.ref x, a1, a2, a3, a4, a5] (.ref x :: st) h Q := gw_loc m2 f2_279 rfl rfl
theorem r2_279n {E : Nat → Value} {d : Nat} {st : List Value} {h : gm_H} {Q : gm_R → gm_H → Prop} {a1 a2 a3 a4 a5 : Value}  : gm_W E d 2 279 [.null, a1, a2, a3, a4, a5] st h Q ↔ gm_W E d 2 280 [.null, a1, a2, a3, a4, a5] (.null :: st) h Q := gw_loc m2 f2_279 rfl rfl
theorem f2_280 : gm_ft 2 280 = some (.bipush 80, 2) := by decide +kernel
theorem r2_280 {E : Nat → Value} {d : Nat} {st : List Value} {h : gm_H} {Q : gm_R → gm_H → Prop} {lv : List Value} : gm_W E d 2 280 lv st h Q ↔ gm_W E d 2 282 lv (.int (80 : Int32) :: st) h Q := gw_pure m2 f2_280 rfl
theorem f2_282 : gm_ft 2 282 = some (.newarray .int, 2) := by decide +kernel
theorem r2_282 {E : Nat → Value} {d : Nat} {st : List Value} {h : gm_H} {Q : gm_R → gm_H → Prop} {lv : List Value} : gm_W E d 2 282 lv (.int (80 : Int32) :: st) h Q ↔ gm_W E d 2 284 lv (.ref h.1 :: st) (gm_nw h (200, List.replicate 80 (.int 0)) 80) Q := gw_nw m2 f2_282 rfl rfl rfl rfl rfl rfl rfl
theorem f2_284 : gm_ft 2 284 = some (.putfield 108, 3) := by decide +kernel
theorem r2_284 {E : Nat → Value} {d : Nat} {st : List Value} {h : gm_H} {Q : gm_R → gm_H → Prop} {lv : List Value} {a : Nat} {b : Nat} (hk : gm_kd h a = 5) : gm_W E d 2 284 lv (.ref b :: .ref a :: st) h Q ↔ gm_W E d 2 287 lv st (gm_sf h a 45 (.ref b)) Q := gw_wr m2 f2_284 rfl rfl rfl rfl rfl (gs_put k5_108 hk (by decide) (by decide) ⟨rfl, rfl⟩ (by decide))
theorem r2_284n {E : Nat → Value} {d : Nat} {st : List Value} {h : gm_H} {Q : gm_R → gm_H → Prop} {lv : List Value} {a : Nat} (hk : gm_kd h a = 5) : gm_W E d 2 284 lv (.null :: .ref a :: st) h Q ↔ gm_W E d 2 287 lv st (gm_sf h a 45 (.null)) Q := gw_wr m2 f2_284 rfl rfl rfl rfl rfl (gs_put k5_108 hk (by decide) (by decide) ⟨rfl, rfl⟩ (by decide))
theorem f2_287 : gm_ft 2 287 = some (.aload_n 0, 1) := by decide +kernel
theorem r2_287 {E : Nat → Value} {d : Nat} {st : List Value} {h : gm_H} {Q : gm_R → gm_H → Prop} {a1 a2 a3 a4 a5 : Value} {x : Nat} : gm_W E d 2 287 [.ref x, a1, a2, a3, a4, a5] st h Q ↔ gm_W E d 2 288 [.ref x, a1, a2, a3, a4, a5] (.ref x :: st) h Q := gw_loc m2 f2_287 rfl rfl
theorem r2_287n {E : Nat → Value} {d : Nat} {st : List Value} {h : gm_H} {Q : gm_R → gm_H → Prop} {a1 a2 a3 a4 a5 : Value}  : gm_W E d 2 287 [.null, a1, a2, a3, a4, a5] st h Q ↔ gm_W E d 2 288 [.null, a1, a2, a3, a4, a5] (.null :: st) h Q := gw_loc m2 f2_287 rfl rfl
theorem f2_288 : gm_ft 2 288 = some (.bipush 80, 2) := by decide +kernel
theorem r2_288 {E : Nat → Value} {d : Nat} {st : List Value} {h : gm_H} {Q : gm_R → gm_H → Prop} {lv : List Value} : gm_W E d 2 288 lv st h Q ↔ gm_W E d 2 290 lv (.int (80 : Int32) :: st) h Q := gw_pure m2 f2_288 rfl
theorem f2_290 : gm_ft 2 290 = some (.newarray .int, 2) := by decide +kernel
theorem r2_290 {E : Nat → Value} {d : Nat} {st : List Value} {h : gm_H} {Q : gm_R → gm_H → Prop} {lv : List Value} : gm_W E d 2 290 lv (.int (80 : Int32) :: st) h Q ↔ gm_W E d 2 292 lv (.ref h.1 :: st) (gm_nw h (200, List.replicate 80 (.int 0)) 80) Q := gw_nw m2 f2_290 rfl rfl rfl rfl rfl rfl rfl
theorem f2_292 : gm_ft 2 292 = some (.putfield 111, 3) := by decide +kernel
theorem r2_292 {E : Nat → Value} {d : Nat} {st : List Value} {h : gm_H} {Q : gm_R → gm_H → Prop} {lv : List Value} {a : Nat} {b : Nat} (hk : gm_kd h a = 5) : gm_W E d 2 292 lv (.ref b :: .ref a :: st) h Q ↔ gm_W E d 2 295 lv st (gm_sf h a 46 (.ref b)) Q := gw_wr m2 f2_292 rfl rfl rfl rfl rfl (gs_put k5_111 hk (by decide) (by decide) ⟨rfl, rfl⟩ (by decide))
theorem r2_292n {E : Nat → Value} {d : Nat} {st : List Value} {h : gm_H} {Q : gm_R → gm_H → Prop} {lv : List Value} {a : Nat} (hk : gm_kd h a = 5) : gm_W E d 2 292 lv (.null :: .ref a :: st) h Q ↔ gm_W E d 2 295 lv st (gm_sf h a 46 (.null)) Q := gw_wr m2 f2_292 rfl rfl rfl rfl rfl (gs_put k5_111 hk (by decide) (by decide) ⟨rfl, rfl⟩ (by decide))
theorem f2_295 : gm_ft 2 295 = some (.aload_n 0, 1) := by decide +kernel
theorem r2_295 {E : Nat → Value} {d : Nat} {st : List Value} {h : gm_H} {Q : gm_R → gm_H → Prop} {a1 a2 a3 a4 a5 : Value} {x : Nat} : gm_W E d 2 295 [.ref x, a1, a2, a3, a4, a5] st h Q ↔ gm_W E d 2 296 [.ref x, a1, a2, a3, a4, a5] (.ref x :: st) h Q := gw_loc m2 f2_295 rfl rfl
theorem r2_295n {E : Nat → Value} {d : Nat} {st : List Value} {h : gm_H} {Q : gm_R → gm_H → Prop} {a1 a2 a3 a4 a5 : Value}  : gm_W E d 2 295 [.null, a1, a2, a3, a4, a5] st h Q ↔ gm_W E d 2 296 [.null, a1, a2, a3, a4, a5] (.null :: st) h Q := gw_loc m2 f2_295 rfl rfl
theorem f2_296 : gm_ft 2 296 = some (.aload_n 0, 1) := by decide +kernel
theorem r2_296 {E : Nat → Value} {d : Nat} {st : List Value} {h : gm_H} {Q : gm_R → gm_H → Prop} {a1 a2 a3 a4 a5 : Value} {x : Nat} : gm_W E d 2 296 [.ref x, a1, a2, a3, a4, a5] st h Q ↔ gm_W E d 2 297 [.ref x, a1, a2, a3, a4, a5] (.ref x :: st) h Q := gw_loc m2 f2_296 rfl rfl
theorem r2_296n {E : Nat → Value} {d : Nat} {st : List Value} {h : gm_H} {Q : gm_R → gm_H → Prop} {a1 a2 a3 a4 a5 : Value}  : gm_W E d 2 296 [.null, a1, a2, a3, a4, a5] st h Q ↔ gm_W E d 2 297 [.null, a1, a2, a3, a4, a5] (.null :: st) h Q := gw_loc m2 f2_296 rfl rfl
theorem f2_297 : gm_ft 2 297 = some (.iload_n 1, 1) := by decide +kernel
theorem r2_297 {E : Nat → Value} {d : Nat} {st : List Value} {h : gm_H} {Q : gm_R → gm_H → Prop} {a0 a2 a3 a4 a5 : Value} {x : Int32} : gm_W E d 2 297 [a0, .int x, a2, a3, a4, a5] st h Q ↔ gm_W E d 2 298 [a0, .int x, a2, a3, a4, a5] (.int x :: st) h Q := gw_loc m2 f2_297 rfl rfl
theorem f2_298 : gm_ft 2 298 = some (.iconst 1, 1) := by decide +kernel
theorem r2_298 {E : Nat → Value} {d : Nat} {st : List Value} {h : gm_H} {Q : gm_R → gm_H → Prop} {lv : List Value} : gm_W E d 2 298 lv st h Q ↔ gm_W E d 2 299 lv (.int (1 : Int32) :: st) h Q := gw_pure m2 f2_298 rfl
theorem f2_299 : gm_ft 2 299 = some (.bipush 8, 2) := by decide +kernel
theorem r2_299 {E : Nat → Value} {d : Nat} {st : List Value} {h : gm_H} {Q : gm_R → gm_H → Prop} {lv : List Value} : gm_W E d 2 299 lv st h Q ↔ gm_W E d 2 301 lv (.int (8 : Int32) :: st) h Q := gw_pure m2 f2_299 rfl
theorem f2_301 : gm_ft 2 301 = some (.invokevirtual 114, 3) := by decide +kernel
theorem c2_301 {E : Nat → Value} {d : Nat} {st : List Value} {h : gm_H} {Q : gm_R → gm_H → Prop} {lv : List Value} {b0 : Int32} {b1 : Int32} {b2 : Int32} {a : Nat} {Qc : gm_R → gm_H → Prop} (hs : (st.map fun v => v.category).sum ≤ 8) (hr : gm_kd h a = 5) (hd : 1 ≤ d) (hc : gm_Ca E (d - 1) 3 [.ref a, .int b0, .int b1, .int b2] h Qc) (kn : ∀ (v9 : Option Value) (h9 : gm_H), Qc (.inl v9) h9 → gm_W E d 2 304 lv (v9.toList ++ st) h9 Q) (kx : ∀ (x9 : Nat) (h9 : gm_H), Qc (.inr x9) h9 → Q (.inr x9) h9) : gm_W E d 2 301 lv (.int b2 :: .int b1 :: .int b0 :: .ref a :: st) h Q := gw_call (gn_call m2 f2_301 rfl rfl rfl rfl rfl rfl rfl (gs_virt (bs := [.int b2, .int b1, .int b0]) (w := 666) (L := 4) rfl rfl rfl rfl hs (by simp [gm_en1]) hr (by decide)) (by decide)) m2 rfl rfl hd hc kn kx
theorem f2_304 : gm_ft 2 304 = some (.putfield 118, 3) := by decide +kernel
theorem r2_304 {E : Nat → Value} {d : Nat} {st : List Value} {h : gm_H} {Q : gm_R → gm_H → Prop} {lv : List Value} {a : Nat} {x : Int32} (hk : gm_kd h a = 5) : gm_W E d 2 304 lv (.int x :: .ref a :: st) h Q ↔ gm_W E d 2 307 lv st (gm_sf h a 0 (.int x)) Q := gw_wr m2 f2_304 rfl rfl rfl rfl rfl (gs_put k5_118 hk (by decide) (by decide) ⟨rfl, rfl⟩ (by decide))
theorem f2_307 : gm_ft 2 307 = some (.aload_n 0, 1) := by decide +kernel
theorem r2_307 {E : Nat → Value} {d : Nat} {st : List Value} {h : gm_H} {Q : gm_R → gm_H → Prop} {a1 a2 a3 a4 a5 : Value} {x : Nat} : gm_W E d 2 307 [.ref x, a1, a2, a3, a4, a5] st h Q ↔ gm_W E d 2 308 [.ref x, a1, a2, a3, a4, a5] (.ref x :: st) h Q := gw_loc m2 f2_307 rfl rfl
theorem r2_307n {E : Nat → Value} {d : Nat} {st : List Value} {h : gm_H} {Q : gm_R → gm_H → Prop} {a1 a2 a3 a4 a5 : Value}  : gm_W E d 2 307 [.null, a1, a2, a3, a4, a5] st h Q ↔ gm_W E d 2 308 [.null, a1, a2, a3, a4, a5] (.null :: st) h Q := gw_loc m2 f2_307 rfl rfl
theorem f2_308 : gm_ft 2 308 = some (.aload_n 0, 1) := by decide +kernel
theorem r2_308 {E : Nat → Value} {d : Nat} {st : List Value} {h : gm_H} {Q : gm_R → gm_H → Prop} {a1 a2 a3 a4 a5 : Value} {x : Nat} : gm_W E d 2 308 [.ref x, a1, a2, a3, a4, a5] st h Q ↔ gm_W E d 2 309 [.ref x, a1, a2, a3, a4, a5] (.ref x :: st) h Q := gw_loc m2 f2_308 rfl rfl
theorem r2_308n {E : Nat → Value} {d : Nat} {st : List Value} {h : gm_H} {Q : gm_R → gm_H → Prop} {a1 a2 a3 a4 a5 : Value}  : gm_W E d 2 308 [.null, a1, a2, a3, a4, a5] st h Q ↔ gm_W E d 2 309 [.null, a1, a2, a3, a4, a5] (.null :: st) h Q := gw_loc m2 f2_308 rfl rfl
theorem f2_309 : gm_ft 2 309 = some (.iload_n 2, 1) := by decide +kernel
theorem r2_309 {E : Nat → Value} {d : Nat} {st : List Value} {h : gm_H} {Q : gm_R → gm_H → Prop} {a0 a1 a3 a4 a5 : Value} {x : Int32} : gm_W E d 2 309 [a0, a1, .int x, a3, a4, a5] st h Q ↔ gm_W E d 2 310 [a0, a1, .int x, a3, a4, a5] (.int x :: st) h Q := gw_loc m2 f2_309 rfl rfl
theorem f2_310 : gm_ft 2 310 = some (.iconst 1, 1) := by decide +kernel
theorem r2_310 {E : Nat → Value} {d : Nat} {st : List Value} {h : gm_H} {Q : gm_R → gm_H → Prop} {lv : List Value} : gm_W E d 2 310 lv st h Q ↔ gm_W E d 2 311 lv (.int (1 : Int32) :: st) h Q := gw_pure m2 f2_310 rfl
theorem f2_311 : gm_ft 2 311 = some (.bipush 60, 2) := by decide +kernel
theorem r2_311 {E : Nat → Value} {d : Nat} {st : List Value} {h : gm_H} {Q : gm_R → gm_H → Prop} {lv : List Value} : gm_W E d 2 311 lv st h Q ↔ gm_W E d 2 313 lv (.int (60 : Int32) :: st) h Q := gw_pure m2 f2_311 rfl
theorem f2_313 : gm_ft 2 313 = some (.invokevirtual 114, 3) := by decide +kernel
theorem c2_313 {E : Nat → Value} {d : Nat} {st : List Value} {h : gm_H} {Q : gm_R → gm_H → Prop} {lv : List Value} {b0 : Int32} {b1 : Int32} {b2 : Int32} {a : Nat} {Qc : gm_R → gm_H → Prop} (hs : (st.map fun v => v.category).sum ≤ 8) (hr : gm_kd h a = 5) (hd : 1 ≤ d) (hc : gm_Ca E (d - 1) 3 [.ref a, .int b0, .int b1, .int b2] h Qc) (kn : ∀ (v9 : Option Value) (h9 : gm_H), Qc (.inl v9) h9 → gm_W E d 2 316 lv (v9.toList ++ st) h9 Q) (kx : ∀ (x9 : Nat) (h9 : gm_H), Qc (.inr x9) h9 → Q (.inr x9) h9) : gm_W E d 2 313 lv (.int b2 :: .int b1 :: .int b0 :: .ref a :: st) h Q := gw_call (gn_call m2 f2_313 rfl rfl rfl rfl rfl rfl rfl (gs_virt (bs := [.int b2, .int b1, .int b0]) (w := 666) (L := 4) rfl rfl rfl rfl hs (by simp [gm_en1]) hr (by decide)) (by decide)) m2 rfl rfl hd hc kn kx
theorem f2_316 : gm_ft 2 316 = some (.putfield 122, 3) := by decide +kernel
theorem r2_316 {E : Nat → Value} {d : Nat} {st : List Value} {h : gm_H} {Q : gm_R → gm_H → Prop} {lv : List Value} {a : Nat} {x : Int32} (hk : gm_kd h a = 5) : gm_W E d 2 316 lv (.int x :: .ref a :: st) h Q ↔ gm_W E d 2 319 lv st (gm_sf h a 1 (.int x)) Q := gw_wr m2 f2_316 rfl rfl rfl rfl rfl (gs_put k5_122 hk (by decide) (by decide) ⟨rfl, rfl⟩ (by decide))
theorem f2_319 : gm_ft 2 319 = some (.aload_n 0, 1) := by decide +kernel
theorem r2_319 {E : Nat → Value} {d : Nat} {st : List Value} {h : gm_H} {Q : gm_R → gm_H → Prop} {a1 a2 a3 a4 a5 : Value} {x : Nat} : gm_W E d 2 319 [.ref x, a1, a2, a3, a4, a5] st h Q ↔ gm_W E d 2 320 [.ref x, a1, a2, a3, a4, a5] (.ref x :: st) h Q := gw_loc m2 f2_319 rfl rfl
theorem r2_319n {E : Nat → Value} {d : Nat} {st : List Value} {h : gm_H} {Q : gm_R → gm_H → Prop} {a1 a2 a3 a4 a5 : Value}  : gm_W E d 2 319 [.null, a1, a2, a3, a4, a5] st h Q ↔ gm_W E d 2 320 [.null, a1, a2, a3, a4, a5] (.null :: st) h Q := gw_loc m2 f2_319 rfl rfl
theorem f2_320 : gm_ft 2 320 = some (.aload_n 0, 1) := by decide +kernel
theorem r2_320 {E : Nat → Value} {d : Nat} {st : List Value} {h : gm_H} {Q : gm_R → gm_H → Prop} {a1 a2 a3 a4 a5 : Value} {x : Nat} : gm_W E d 2 320 [.ref x, a1, a2, a3, a4, a5] st h Q ↔ gm_W E d 2 321 [.ref x, a1, a2, a3, a4, a5] (.ref x :: st) h Q := gw_loc m2 f2_320 rfl rfl
theorem r2_320n {E : Nat → Value} {d : Nat} {st : List Value} {h : gm_H} {Q : gm_R → gm_H → Prop} {a1 a2 a3 a4 a5 : Value}  : gm_W E d 2 320 [.null, a1, a2, a3, a4, a5] st h Q ↔ gm_W E d 2 321 [.null, a1, a2, a3, a4, a5] (.null :: st) h Q := gw_loc m2 f2_320 rfl rfl
theorem f2_321 : gm_ft 2 321 = some (.iload_n 3, 1) := by decide +kernel
theorem r2_321 {E : Nat → Value} {d : Nat} {st : List Value} {h : gm_H} {Q : gm_R → gm_H → Prop} {a0 a1 a2 a4 a5 : Value} {x : Int32} : gm_W E d 2 321 [a0, a1, a2, .int x, a4, a5] st h Q ↔ gm_W E d 2 322 [a0, a1, a2, .int x, a4, a5] (.int x :: st) h Q := gw_loc m2 f2_321 rfl rfl
theorem f2_322 : gm_ft 2 322 = some (.iconst 0, 1) := by decide +kernel
theorem r2_322 {E : Nat → Value} {d : Nat} {st : List Value} {h : gm_H} {Q : gm_R → gm_H → Prop} {lv : List Value} : gm_W E d 2 322 lv st h Q ↔ gm_W E d 2 323 lv (.int (0 : Int32) :: st) h Q := gw_pure m2 f2_322 rfl
theorem f2_323 : gm_ft 2 323 = some (.bipush 20, 2) := by decide +kernel
theorem r2_323 {E : Nat → Value} {d : Nat} {st : List Value} {h : gm_H} {Q : gm_R → gm_H → Prop} {lv : List Value} : gm_W E d 2 323 lv st h Q ↔ gm_W E d 2 325 lv (.int (20 : Int32) :: st) h Q := gw_pure m2 f2_323 rfl
theorem f2_325 : gm_ft 2 325 = some (.invokevirtual 114, 3) := by decide +kernel
theorem c2_325 {E : Nat → Value} {d : Nat} {st : List Value} {h : gm_H} {Q : gm_R → gm_H → Prop} {lv : List Value} {b0 : Int32} {b1 : Int32} {b2 : Int32} {a : Nat} {Qc : gm_R → gm_H → Prop} (hs : (st.map fun v => v.category).sum ≤ 8) (hr : gm_kd h a = 5) (hd : 1 ≤ d) (hc : gm_Ca E (d - 1) 3 [.ref a, .int b0, .int b1, .int b2] h Qc) (kn : ∀ (v9 : Option Value) (h9 : gm_H), Qc (.inl v9) h9 → gm_W E d 2 328 lv (v9.toList ++ st) h9 Q) (kx : ∀ (x9 : Nat) (h9 : gm_H), Qc (.inr x9) h9 → Q (.inr x9) h9) : gm_W E d 2 325 lv (.int b2 :: .int b1 :: .int b0 :: .ref a :: st) h Q := gw_call (gn_call m2 f2_325 rfl rfl rfl rfl rfl rfl rfl (gs_virt (bs := [.int b2, .int b1, .int b0]) (w := 666) (L := 4) rfl rfl rfl rfl hs (by simp [gm_en1]) hr (by decide)) (by decide)) m2 rfl rfl hd hc kn kx
theorem f2_328 : gm_ft 2 328 = some (.putfield 125, 3) := by decide +kernel
theorem r2_328 {E : Nat → Value} {d : Nat} {st : List Value} {h : gm_H} {Q : gm_R → gm_H → Prop} {lv : List Value} {a : Nat} {x : Int32} (hk : gm_kd h a = 5) : gm_W E d 2 328 lv (.int x :: .ref a :: st) h Q ↔ gm_W E d 2 331 lv st (gm_sf h a 2 (.int x)) Q := gw_wr m2 f2_328 rfl rfl rfl rfl rfl (gs_put k5_125 hk (by decide) (by decide) ⟨rfl, rfl⟩ (by decide))
theorem f2_331 : gm_ft 2 331 = some (.aload_n 0, 1) := by decide +kernel
theorem r2_331 {E : Nat → Value} {d : Nat} {st : List Value} {h : gm_H} {Q : gm_R → gm_H → Prop} {a1 a2 a3 a4 a5 : Value} {x : Nat} : gm_W E d 2 331 [.ref x, a1, a2, a3, a4, a5] st h Q ↔ gm_W E d 2 332 [.ref x, a1, a2, a3, a4, a5] (.ref x :: st) h Q := gw_loc m2 f2_331 rfl rfl
theorem r2_331n {E : Nat → Value} {d : Nat} {st : List Value} {h : gm_H} {Q : gm_R → gm_H → Prop} {a1 a2 a3 a4 a5 : Value}  : gm_W E d 2 331 [.null, a1, a2, a3, a4, a5] st h Q ↔ gm_W E d 2 332 [.null, a1, a2, a3, a4, a5] (.null :: st) h Q := gw_loc m2 f2_331 rfl rfl
theorem f2_332 : gm_ft 2 332 = some (.aload_n 0, 1) := by decide +kernel
theorem r2_332 {E : Nat → Value} {d : Nat} {st : List Value} {h : gm_H} {Q : gm_R → gm_H → Prop} {a1 a2 a3 a4 a5 : Value} {x : Nat} : gm_W E d 2 332 [.ref x, a1, a2, a3, a4, a5] st h Q ↔ gm_W E d 2 333 [.ref x, a1, a2, a3, a4, a5] (.ref x :: st) h Q := gw_loc m2 f2_332 rfl rfl
theorem r2_332n {E : Nat → Value} {d : Nat} {st : List Value} {h : gm_H} {Q : gm_R → gm_H → Prop} {a1 a2 a3 a4 a5 : Value}  : gm_W E d 2 332 [.null, a1, a2, a3, a4, a5] st h Q ↔ gm_W E d 2 333 [.null, a1, a2, a3, a4, a5] (.null :: st) h Q := gw_loc m2 f2_332 rfl rfl
theorem f2_333 : gm_ft 2 333 = some (.iload 4, 2) := by decide +kernel
theorem r2_333 {E : Nat → Value} {d : Nat} {st : List Value} {h : gm_H} {Q : gm_R → gm_H → Prop} {a0 a1 a2 a3 a5 : Value} {x : Int32} : gm_W E d 2 333 [a0, a1, a2, a3, .int x, a5] st h Q ↔ gm_W E d 2 335 [a0, a1, a2, a3, .int x, a5] (.int x :: st) h Q := gw_loc m2 f2_333 rfl rfl
theorem f2_335 : gm_ft 2 335 = some (.iconst 4, 1) := by decide +kernel
theorem r2_335 {E : Nat → Value} {d : Nat} {st : List Value} {h : gm_H} {Q : gm_R → gm_H → Prop} {lv : List Value} : gm_W E d 2 335 lv st h Q ↔ gm_W E d 2 336 lv (.int (4 : Int32) :: st) h Q := gw_pure m2 f2_335 rfl
theorem f2_336 : gm_ft 2 336 = some (.sipush 700, 3) := by decide +kernel
theorem r2_336 {E : Nat → Value} {d : Nat} {st : List Value} {h : gm_H} {Q : gm_R → gm_H → Prop} {lv : List Value} : gm_W E d 2 336 lv st h Q ↔ gm_W E d 2 339 lv (.int (700 : Int32) :: st) h Q := gw_pure m2 f2_336 rfl
theorem f2_339 : gm_ft 2 339 = some (.invokevirtual 114, 3) := by decide +kernel
theorem c2_339 {E : Nat → Value} {d : Nat} {st : List Value} {h : gm_H} {Q : gm_R → gm_H → Prop} {lv : List Value} {b0 : Int32} {b1 : Int32} {b2 : Int32} {a : Nat} {Qc : gm_R → gm_H → Prop} (hs : (st.map fun v => v.category).sum ≤ 8) (hr : gm_kd h a = 5) (hd : 1 ≤ d) (hc : gm_Ca E (d - 1) 3 [.ref a, .int b0, .int b1, .int b2] h Qc) (kn : ∀ (v9 : Option Value) (h9 : gm_H), Qc (.inl v9) h9 → gm_W E d 2 342 lv (v9.toList ++ st) h9 Q) (kx : ∀ (x9 : Nat) (h9 : gm_H), Qc (.inr x9) h9 → Q (.inr x9) h9) : gm_W E d 2 339 lv (.int b2 :: .int b1 :: .int b0 :: .ref a :: st) h Q := gw_call (gn_call m2 f2_339 rfl rfl rfl rfl rfl rfl rfl (gs_virt (bs := [.int b2, .int b1, .int b0]) (w := 666) (L := 4) rfl rfl rfl rfl hs (by simp [gm_en1]) hr (by decide)) (by decide)) m2 rfl rfl hd hc kn kx
theorem f2_342 : gm_ft 2 342 = some (.putfield 128, 3) := by decide +kernel
theorem r2_342 {E : Nat → Value} {d : Nat} {st : List Value} {h : gm_H} {Q : gm_R → gm_H → Prop} {lv : List Value} {a : Nat} {x : Int32} (hk : gm_kd h a = 5) : gm_W E d 2 342 lv (.int x :: .ref a :: st) h Q ↔ gm_W E d 2 345 lv st (gm_sf h a 3 (.int x)) Q := gw_wr m2 f2_342 rfl rfl rfl rfl rfl (gs_put k5_128 hk (by decide) (by decide) ⟨rfl, rfl⟩ (by decide))
theorem f2_345 : gm_ft 2 345 = some (.iconst 0, 1) := by decide +kernel
theorem r2_345 {E : Nat → Value} {d : Nat} {st : List Value} {h : gm_H} {Q : gm_R → gm_H → Prop} {lv : List Value} : gm_W E d 2 345 lv st h Q ↔ gm_W E d 2 346 lv (.int (0 : Int32) :: st) h Q := gw_pure m2 f2_345 rfl
theorem f2_346 : gm_ft 2 346 = some (.istore 5, 2) := by decide +kernel
theorem r2_346 {E : Nat → Value} {d : Nat} {st : List Value} {h : gm_H} {Q : gm_R → gm_H → Prop} {a0 a1 a2 a3 a4 a5 : Value} {x : Int32} : gm_W E d 2 346 [a0, a1, a2, a3, a4, a5] (.int x :: st) h Q ↔ gm_W E d 2 348 [a0, a1, a2, a3, gm_k a4, .int x] st h Q := gw_loc m2 f2_346 rfl rfl
theorem f2_348 : gm_ft 2 348 = some (.iload 5, 2) := by decide +kernel
theorem r2_348 {E : Nat → Value} {d : Nat} {st : List Value} {h : gm_H} {Q : gm_R → gm_H → Prop} {a0 a1 a2 a3 a4 : Value} {x : Int32} : gm_W E d 2 348 [a0, a1, a2, a3, a4, .int x] st h Q ↔ gm_W E d 2 350 [a0, a1, a2, a3, a4, .int x] (.int x :: st) h Q := gw_loc m2 f2_348 rfl rfl
theorem f2_350 : gm_ft 2 350 = some (.bipush 6, 2) := by decide +kernel
theorem r2_350 {E : Nat → Value} {d : Nat} {st : List Value} {h : gm_H} {Q : gm_R → gm_H → Prop} {lv : List Value} : gm_W E d 2 350 lv st h Q ↔ gm_W E d 2 352 lv (.int (6 : Int32) :: st) h Q := gw_pure m2 f2_350 rfl
theorem f2_352 : gm_ft 2 352 = some (.if_icmp .ge 17, 3) := by decide +kernel
theorem r2_352 {E : Nat → Value} {d : Nat} {st : List Value} {h : gm_H} {Q : gm_R → gm_H → Prop} {lv : List Value} {x y : Int32} : gm_W E d 2 352 lv (.int y :: .int x :: st) h Q ↔ (if y ≤ x then gm_W E d 2 369 lv st h Q else gm_W E d 2 355 lv st h Q) := (gw_br m2 f2_352 rfl rfl rfl rfl).trans gw_if
theorem f2_355 : gm_ft 2 355 = some (.aload_n 0, 1) := by decide +kernel
theorem r2_355 {E : Nat → Value} {d : Nat} {st : List Value} {h : gm_H} {Q : gm_R → gm_H → Prop} {a1 a2 a3 a4 a5 : Value} {x : Nat} : gm_W E d 2 355 [.ref x, a1, a2, a3, a4, a5] st h Q ↔ gm_W E d 2 356 [.ref x, a1, a2, a3, a4, a5] (.ref x :: st) h Q := gw_loc m2 f2_355 rfl rfl
theorem r2_355n {E : Nat → Value} {d : Nat} {st : List Value} {h : gm_H} {Q : gm_R → gm_H → Prop} {a1 a2 a3 a4 a5 : Value}  : gm_W E d 2 355 [.null, a1, a2, a3, a4, a5] st h Q ↔ gm_W E d 2 356 [.null, a1, a2, a3, a4, a5] (.null :: st) h Q := gw_loc m2 f2_355 rfl rfl
theorem f2_356 : gm_ft 2 356 = some (.getfield 13, 3) := by decide +kernel
theorem r2_356 {E : Nat → Value} {d : Nat} {st : List Value} {h : gm_H} {Q : gm_R → gm_H → Prop} {lv : List Value} {a : Nat} (hk : gm_kd h a = 5) : gm_W E d 2 356 lv (.ref a :: st) h Q ↔ gm_W E d 2 359 lv (gm_fv h a 10 :: st) h Q := gw_rd m2 f2_356 rfl rfl rfl rfl (gs_get k5_13 hk (by decide))
theorem f2_359 : gm_ft 2 359 = some (.iload 5, 2) := by decide +kernel
theorem r2_359 {E : Nat → Value} {d : Nat} {st : List Value} {h : gm_H} {Q : gm_R → gm_H → Prop} {a0 a1 a2 a3 a4 : Value} {x : Int32} : gm_W E d 2 359 [a0, a1, a2, a3, a4, .int x] st h Q ↔ gm_W E d 2 361 [a0, a1, a2, a3, a4, .int x] (.int x :: st) h Q := gw_loc m2 f2_359 rfl rfl
theorem f2_361 : gm_ft 2 361 = some (.iconst (-1), 1) := by decide +kernel
theorem r2_361 {E : Nat → Value} {d : Nat} {st : List Value} {h : gm_H} {Q : gm_R → gm_H → Prop} {lv : List Value} : gm_W E d 2 361 lv st h Q ↔ gm_W E d 2 362 lv (.int (-1 : Int32) :: st) h Q := gw_pure m2 f2_361 rfl
theorem f2_362 : gm_ft 2 362 = some (.iastore, 1) := by decide +kernel
theorem r2_362 {E : Nat → Value} {d : Nat} {st : List Value} {h : gm_H} {Q : gm_R → gm_H → Prop} {lv : List Value} {a j : Nat} {x : Int32} (hk : gm_kd h a = 200) (hj : j < gm_ln h a) (hl : gm_ln h a < 2 ^ 31) : gm_W E d 2 362 lv (.int x :: .int (nI j) :: .ref a :: st) h Q ↔ gm_W E d 2 363 lv st (gm_sf h a j (.int x)) Q := gw_wr m2 f2_362 rfl rfl rfl rfl rfl (gs_st hk (by decide) hj hl)
theorem f2_363 : gm_ft 2 363 = some (.iinc 5 1, 3) := by decide +kernel
theorem r2_363 {E : Nat → Value} {d : Nat} {st : List Value} {h : gm_H} {Q : gm_R → gm_H → Prop} {a0 a1 a2 a3 a4 : Value} {x : Int32} : gm_W E d 2 363 [a0, a1, a2, a3, a4, .int x] st h Q ↔ gm_W E d 2 366 [a0, a1, a2, a3, gm_k a4, .int (x + (1 : Int32))] st h Q := gw_loc m2 f2_363 rfl rfl
theorem f2_366 : gm_ft 2 366 = some (.goto (-18), 3) := by decide +kernel
theorem r2_366 {E : Nat → Value} {d : Nat} {st : List Value} {h : gm_H} {Q : gm_R → gm_H → Prop} {lv : List Value} : gm_W E d 2 366 lv st h Q ↔ gm_W E d 2 348 lv st h Q := gw_brT m2 f2_366 rfl rfl rfl rfl
theorem f2_369 : gm_ft 2 369 = some (.return_, 1) := by decide +kernel
theorem r2_369 {E : Nat → Value} {d : Nat} {h : gm_H} {Q : gm_R → gm_H → Prop} {lv : List Value} : gm_W E d 2 369 lv [] h Q ↔ Q (.inl none) h := gw_ret m2 f2_369 rfl rfl rfl rfl rfl rfl rfl rfl rfl
/-! GraphReaderModel.clamp(III)I -/
theorem m3 : gm_mt[3]? = some (⟨"GraphReaderModel", "clamp", "(III)I"⟩, prog_7_method_2_code, 4, (some .int), [], 5, 2) := rfl
theorem f3_0 : gm_ft 3 0 = some (.iload_n 1, 1) := by decide +kernel
theorem r3_0 {E : Nat → Value} {d : Nat} {st : List Value} {h : gm_H} {Q : gm_R → gm_H → Prop} {a0 a2 a3 : Value} {x : Int32} : gm_W E d 3 0 [a0, .int x, a2, a3] st h Q ↔ gm_W E d 3 1 [a0, .int x, a2, a3] (.int x :: st) h Q := gw_loc m3 f3_0 rfl rfl
theorem f3_1 : gm_ft 3 1 = some (.iload_n 2, 1) := by decide +kernel
theorem r3_1 {E : Nat → Value} {d : Nat} {st : List Value} {h : gm_H} {Q : gm_R → gm_H → Prop} {a0 a1 a3 : Value} {x : Int32} : gm_W E d 3 1 [a0, a1, .int x, a3] st h Q ↔ gm_W E d 3 2 [a0, a1, .int x, a3] (.int x :: st) h Q := gw_loc m3 f3_1 rfl rfl
theorem f3_2 : gm_ft 3 2 = some (.if_icmp .ge 7, 3) := by decide +kernel
theorem r3_2 {E : Nat → Value} {d : Nat} {st : List Value} {h : gm_H} {Q : gm_R → gm_H → Prop} {lv : List Value} {x y : Int32} : gm_W E d 3 2 lv (.int y :: .int x :: st) h Q ↔ (if y ≤ x then gm_W E d 3 9 lv st h Q else gm_W E d 3 5 lv st h Q) := (gw_br m3 f3_2 rfl rfl rfl rfl).trans gw_if
theorem f3_5 : gm_ft 3 5 = some (.iload_n 2, 1) := by decide +kernel
theorem r3_5 {E : Nat → Value} {d : Nat} {st : List Value} {h : gm_H} {Q : gm_R → gm_H → Prop} {a0 a1 a3 : Value} {x : Int32} : gm_W E d 3 5 [a0, a1, .int x, a3] st h Q ↔ gm_W E d 3 6 [a0, a1, .int x, a3] (.int x :: st) h Q := gw_loc m3 f3_5 rfl rfl
theorem f3_6 : gm_ft 3 6 = some (.goto 13, 3) := by decide +kernel
theorem r3_6 {E : Nat → Value} {d : Nat} {st : List Value} {h : gm_H} {Q : gm_R → gm_H → Prop} {lv : List Value} : gm_W E d 3 6 lv st h Q ↔ gm_W E d 3 19 lv st h Q := gw_brT m3 f3_6 rfl rfl rfl rfl
theorem f3_9 : gm_ft 3 9 = some (.iload_n 1, 1) := by decide +kernel
theorem r3_9 {E : Nat → Value} {d : Nat} {st : List Value} {h : gm_H} {Q : gm_R → gm_H → Prop} {a0 a2 a3 : Value} {x : Int32} : gm_W E d 3 9 [a0, .int x, a2, a3] st h Q ↔ gm_W E d 3 10 [a0, .int x, a2, a3] (.int x :: st) h Q := gw_loc m3 f3_9 rfl rfl
theorem f3_10 : gm_ft 3 10 = some (.iload_n 3, 1) := by decide +kernel
theorem r3_10 {E : Nat → Value} {d : Nat} {st : List Value} {h : gm_H} {Q : gm_R → gm_H → Prop} {a0 a1 a2 : Value} {x : Int32} : gm_W E d 3 10 [a0, a1, a2, .int x] st h Q ↔ gm_W E d 3 11 [a0, a1, a2, .int x] (.int x :: st) h Q := gw_loc m3 f3_10 rfl rfl
theorem f3_11 : gm_ft 3 11 = some (.if_icmp .le 7, 3) := by decide +kernel
theorem r3_11 {E : Nat → Value} {d : Nat} {st : List Value} {h : gm_H} {Q : gm_R → gm_H → Prop} {lv : List Value} {x y : Int32} : gm_W E d 3 11 lv (.int y :: .int x :: st) h Q ↔ (if x ≤ y then gm_W E d 3 18 lv st h Q else gm_W E d 3 14 lv st h Q) := (gw_br m3 f3_11 rfl rfl rfl rfl).trans gw_if
theorem f3_14 : gm_ft 3 14 = some (.iload_n 3, 1) := by decide +kernel
theorem r3_14 {E : Nat → Value} {d : Nat} {st : List Value} {h : gm_H} {Q : gm_R → gm_H → Prop} {a0 a1 a2 : Value} {x : Int32} : gm_W E d 3 14 [a0, a1, a2, .int x] st h Q ↔ gm_W E d 3 15 [a0, a1, a2, .int x] (.int x :: st) h Q := gw_loc m3 f3_14 rfl rfl
theorem f3_15 : gm_ft 3 15 = some (.goto 4, 3) := by decide +kernel
theorem r3_15 {E : Nat → Value} {d : Nat} {st : List Value} {h : gm_H} {Q : gm_R → gm_H → Prop} {lv : List Value} : gm_W E d 3 15 lv st h Q ↔ gm_W E d 3 19 lv st h Q := gw_brT m3 f3_15 rfl rfl rfl rfl
theorem f3_18 : gm_ft 3 18 = some (.iload_n 1, 1) := by decide +kernel
theorem r3_18 {E : Nat → Value} {d : Nat} {st : List Value} {h : gm_H} {Q : gm_R → gm_H → Prop} {a0 a2 a3 : Value} {x : Int32} : gm_W E d 3 18 [a0, .int x, a2, a3] st h Q ↔ gm_W E d 3 19 [a0, .int x, a2, a3] (.int x :: st) h Q := gw_loc m3 f3_18 rfl rfl
theorem f3_19 : gm_ft 3 19 = some (.ireturn, 1) := by decide +kernel
theorem r3_19 {E : Nat → Value} {d : Nat} {h : gm_H} {Q : gm_R → gm_H → Prop} {lv : List Value} {x : Int32} : gm_W E d 3 19 lv [.int x] h Q ↔ Q (.inl (some (.int x))) h := gw_ret m3 f3_19 rfl rfl rfl rfl rfl rfl rfl rfl (by unfold gm_rt; dsimp only; rw [if_pos ⟨rfl, rfl⟩])
/-! GraphReaderModel.out(II)Z -/
theorem m4 : gm_mt[4]? = some (⟨"GraphReaderModel", "out", "(II)Z"⟩, prog_7_method_3_code, 3, (some .boolean), [], 5, 2) := rfl
theorem f4_0 : gm_ft 4 0 = some (.iload_n 1, 1) := by decide +kernel
theorem r4_0 {E : Nat → Value} {d : Nat} {st : List Value} {h : gm_H} {Q : gm_R → gm_H → Prop} {a0 a2 : Value} {x : Int32} : gm_W E d 4 0 [a0, .int x, a2] st h Q ↔ gm_W E d 4 1 [a0, .int x, a2] (.int x :: st) h Q := gw_loc m4 f4_0 rfl rfl
theorem f4_1 : gm_ft 4 1 = some (.ifCond .lt 8, 3) := by decide +kernel
theorem r4_1 {E : Nat → Value} {d : Nat} {st : List Value} {h : gm_H} {Q : gm_R → gm_H → Prop} {lv : List Value} {x : Int32} : gm_W E d 4 1 lv (.int x :: st) h Q ↔ (if x < 0 then gm_W E d 4 9 lv st h Q else gm_W E d 4 4 lv st h Q) := (gw_br m4 f4_1 rfl rfl rfl rfl).trans gw_if
theorem f4_4 : gm_ft 4 4 = some (.iload_n 1, 1) := by decide +kernel
theorem r4_4 {E : Nat → Value} {d : Nat} {st : List Value} {h : gm_H} {Q : gm_R → gm_H → Prop} {a0 a2 : Value} {x : Int32} : gm_W E d 4 4 [a0, .int x, a2] st h Q ↔ gm_W E d 4 5 [a0, .int x, a2] (.int x :: st) h Q := gw_loc m4 f4_4 rfl rfl
theorem f4_5 : gm_ft 4 5 = some (.iload_n 2, 1) := by decide +kernel
theorem r4_5 {E : Nat → Value} {d : Nat} {st : List Value} {h : gm_H} {Q : gm_R → gm_H → Prop} {a0 a1 : Value} {x : Int32} : gm_W E d 4 5 [a0, a1, .int x] st h Q ↔ gm_W E d 4 6 [a0, a1, .int x] (.int x :: st) h Q := gw_loc m4 f4_5 rfl rfl
theorem f4_6 : gm_ft 4 6 = some (.if_icmp .lt 7, 3) := by decide +kernel
theorem r4_6 {E : Nat → Value} {d : Nat} {st : List Value} {h : gm_H} {Q : gm_R → gm_H → Prop} {lv : List Value} {x y : Int32} : gm_W E d 4 6 lv (.int y :: .int x :: st) h Q ↔ (if x < y then gm_W E d 4 13 lv st h Q else gm_W E d 4 9 lv st h Q) := (gw_br m4 f4_6 rfl rfl rfl rfl).trans gw_if
theorem f4_9 : gm_ft 4 9 = some (.iconst 1, 1) := by decide +kernel
theorem r4_9 {E : Nat → Value} {d : Nat} {st : List Value} {h : gm_H} {Q : gm_R → gm_H → Prop} {lv : List Value} : gm_W E d 4 9 lv st h Q ↔ gm_W E d 4 10 lv (.int (1 : Int32) :: st) h Q := gw_pure m4 f4_9 rfl
theorem f4_10 : gm_ft 4 10 = some (.goto 4, 3) := by decide +kernel
theorem r4_10 {E : Nat → Value} {d : Nat} {st : List Value} {h : gm_H} {Q : gm_R → gm_H → Prop} {lv : List Value} : gm_W E d 4 10 lv st h Q ↔ gm_W E d 4 14 lv st h Q := gw_brT m4 f4_10 rfl rfl rfl rfl
theorem f4_13 : gm_ft 4 13 = some (.iconst 0, 1) := by decide +kernel
theorem r4_13 {E : Nat → Value} {d : Nat} {st : List Value} {h : gm_H} {Q : gm_R → gm_H → Prop} {lv : List Value} : gm_W E d 4 13 lv st h Q ↔ gm_W E d 4 14 lv (.int (0 : Int32) :: st) h Q := gw_pure m4 f4_13 rfl
theorem f4_14 : gm_ft 4 14 = some (.ireturn, 1) := by decide +kernel
theorem r4_14 {E : Nat → Value} {d : Nat} {h : gm_H} {Q : gm_R → gm_H → Prop} {lv : List Value} {x : Int32} (hx : x = 0 ∨ x = 1) : gm_W E d 4 14 lv [.int x] h Q ↔ Q (.inl (some (.int x))) h := gw_ret m4 f4_14 rfl rfl rfl rfl rfl rfl rfl rfl (by unfold gm_rt; dsimp only; rw [if_pos ⟨rfl, (gs_nb hx).1⟩])
/-! GraphReaderModel.noClass(I)Z -/
theorem m5 : gm_mt[5]? = some (⟨"GraphReaderModel", "noClass", "(I)Z"⟩, prog_7_method_4_code, 2, (some .boolean), [], 5, 2) := rfl
theorem f5_0 : gm_ft 5 0 = some (.aload_n 0, 1) := by decide +kernel
theorem r5_0 {E : Nat → Value} {d : Nat} {st : List Value} {h : gm_H} {Q : gm_R → gm_H → Prop} {a1 : Value} {x : Nat} : gm_W E d 5 0 [.ref x, a1] st h Q ↔ gm_W E d 5 1 [.ref x, a1] (.ref x :: st) h Q := gw_loc m5 f5_0 rfl rfl
theorem r5_0n {E : Nat → Value} {d : Nat} {st : List Value} {h : gm_H} {Q : gm_R → gm_H → Prop} {a1 : Value}  : gm_W E d 5 0 [.null, a1] st h Q ↔ gm_W E d 5 1 [.null, a1] (.null :: st) h Q := gw_loc m5 f5_0 rfl rfl
theorem f5_1 : gm_ft 5 1 = some (.iload_n 1, 1) := by decide +kernel
theorem r5_1 {E : Nat → Value} {d : Nat} {st : List Value} {h : gm_H} {Q : gm_R → gm_H → Prop} {a0 : Value} {x : Int32} : gm_W E d 5 1 [a0, .int x] st h Q ↔ gm_W E d 5 2 [a0, .int x] (.int x :: st) h Q := gw_loc m5 f5_1 rfl rfl
theorem f5_2 : gm_ft 5 2 = some (.bipush 6, 2) := by decide +kernel
theorem r5_2 {E : Nat → Value} {d : Nat} {st : List Value} {h : gm_H} {Q : gm_R → gm_H → Prop} {lv : List Value} : gm_W E d 5 2 lv st h Q ↔ gm_W E d 5 4 lv (.int (6 : Int32) :: st) h Q := gw_pure m5 f5_2 rfl
theorem f5_4 : gm_ft 5 4 = some (.invokevirtual 131, 3) := by decide +kernel
theorem c5_4 {E : Nat → Value} {d : Nat} {st : List Value} {h : gm_H} {Q : gm_R → gm_H → Prop} {lv : List Value} {b0 : Int32} {b1 : Int32} {a : Nat} {Qc : gm_R → gm_H → Prop} (hs : (st.map fun v => v.category).sum ≤ 8) (hr : gm_kd h a = 5) (hd : 1 ≤ d) (hc : gm_Ca E (d - 1) 4 [.ref a, .int b0, .int b1] h Qc) (kn : ∀ (v9 : Option Value) (h9 : gm_H), Qc (.inl v9) h9 → gm_W E d 5 7 lv (v9.toList ++ st) h9 Q) (kx : ∀ (x9 : Nat) (h9 : gm_H), Qc (.inr x9) h9 → Q (.inr x9) h9) : gm_W E d 5 4 lv (.int b1 :: .int b0 :: .ref a :: st) h Q := gw_call (gn_call m5 f5_4 rfl rfl rfl rfl rfl rfl rfl (gs_virt (bs := [.int b1, .int b0]) (w := 820) (L := 3) rfl rfl rfl rfl hs (by simp [gm_en1]) hr (by decide)) (by decide)) m5 rfl rfl hd hc kn kx
theorem f5_7 : gm_ft 5 7 = some (.ifCond .ne 12, 3) := by decide +kernel
theorem r5_7 {E : Nat → Value} {d : Nat} {st : List Value} {h : gm_H} {Q : gm_R → gm_H → Prop} {lv : List Value} {x : Int32} : gm_W E d 5 7 lv (.int x :: st) h Q ↔ (if x = 0 then gm_W E d 5 10 lv st h Q else gm_W E d 5 19 lv st h Q) := (gw_br m5 f5_7 rfl rfl rfl rfl).trans gw_ifn
theorem f5_10 : gm_ft 5 10 = some (.aload_n 0, 1) := by decide +kernel
theorem r5_10 {E : Nat → Value} {d : Nat} {st : List Value} {h : gm_H} {Q : gm_R → gm_H → Prop} {a1 : Value} {x : Nat} : gm_W E d 5 10 [.ref x, a1] st h Q ↔ gm_W E d 5 11 [.ref x, a1] (.ref x :: st) h Q := gw_loc m5 f5_10 rfl rfl
theorem r5_10n {E : Nat → Value} {d : Nat} {st : List Value} {h : gm_H} {Q : gm_R → gm_H → Prop} {a1 : Value}  : gm_W E d 5 10 [.null, a1] st h Q ↔ gm_W E d 5 11 [.null, a1] (.null :: st) h Q := gw_loc m5 f5_10 rfl rfl
theorem f5_11 : gm_ft 5 11 = some (.getfield 13, 3) := by decide +kernel
theorem r5_11 {E : Nat → Value} {d : Nat} {st : List Value} {h : gm_H} {Q : gm_R → gm_H → Prop} {lv : List Value} {a : Nat} (hk : gm_kd h a = 5) : gm_W E d 5 11 lv (.ref a :: st) h Q ↔ gm_W E d 5 14 lv (gm_fv h a 10 :: st) h Q := gw_rd m5 f5_11 rfl rfl rfl rfl (gs_get k5_13 hk (by decide))
theorem f5_14 : gm_ft 5 14 = some (.iload_n 1, 1) := by decide +kernel
theorem r5_14 {E : Nat → Value} {d : Nat} {st : List Value} {h : gm_H} {Q : gm_R → gm_H → Prop} {a0 : Value} {x : Int32} : gm_W E d 5 14 [a0, .int x] st h Q ↔ gm_W E d 5 15 [a0, .int x] (.int x :: st) h Q := gw_loc m5 f5_14 rfl rfl
theorem f5_15 : gm_ft 5 15 = some (.iaload, 1) := by decide +kernel
theorem r5_15 {E : Nat → Value} {d : Nat} {st : List Value} {h : gm_H} {Q : gm_R → gm_H → Prop} {lv : List Value} {a j : Nat} (hk : gm_kd h a % 100 = 0 ∧ 100 ≤ gm_kd h a ∧ gm_kd h a < 900) (hj : j < gm_ln h a) (hl : gm_ln h a < 2 ^ 31) : gm_W E d 5 15 lv (.int (nI j) :: .ref a :: st) h Q ↔ gm_W E d 5 16 lv (gm_fv h a j :: st) h Q := gw_rd m5 f5_15 rfl rfl rfl rfl (gs_ld (P := fun t => t == 0) hk.2 (by have := hk.1; simp [this] <;> omega) hj hl)
theorem f5_16 : gm_ft 5 16 = some (.ifCond .ge 7, 3) := by decide +kernel
theorem r5_16 {E : Nat → Value} {d : Nat} {st : List Value} {h : gm_H} {Q : gm_R → gm_H → Prop} {lv : List Value} {x : Int32} : gm_W E d 5 16 lv (.int x :: st) h Q ↔ (if 0 ≤ x then gm_W E d 5 23 lv st h Q else gm_W E d 5 19 lv st h Q) := (gw_br m5 f5_16 rfl rfl rfl rfl).trans gw_if
theorem f5_19 : gm_ft 5 19 = some (.iconst 1, 1) := by decide +kernel
theorem r5_19 {E : Nat → Value} {d : Nat} {st : List Value} {h : gm_H} {Q : gm_R → gm_H → Prop} {lv : List Value} : gm_W E d 5 19 lv st h Q ↔ gm_W E d 5 20 lv (.int (1 : Int32) :: st) h Q := gw_pure m5 f5_19 rfl
theorem f5_20 : gm_ft 5 20 = some (.goto 4, 3) := by decide +kernel
theorem r5_20 {E : Nat → Value} {d : Nat} {st : List Value} {h : gm_H} {Q : gm_R → gm_H → Prop} {lv : List Value} : gm_W E d 5 20 lv st h Q ↔ gm_W E d 5 24 lv st h Q := gw_brT m5 f5_20 rfl rfl rfl rfl
theorem f5_23 : gm_ft 5 23 = some (.iconst 0, 1) := by decide +kernel
theorem r5_23 {E : Nat → Value} {d : Nat} {st : List Value} {h : gm_H} {Q : gm_R → gm_H → Prop} {lv : List Value} : gm_W E d 5 23 lv st h Q ↔ gm_W E d 5 24 lv (.int (0 : Int32) :: st) h Q := gw_pure m5 f5_23 rfl
theorem f5_24 : gm_ft 5 24 = some (.ireturn, 1) := by decide +kernel
theorem r5_24 {E : Nat → Value} {d : Nat} {h : gm_H} {Q : gm_R → gm_H → Prop} {lv : List Value} {x : Int32} (hx : x = 0 ∨ x = 1) : gm_W E d 5 24 lv [.int x] h Q ↔ Q (.inl (some (.int x))) h := gw_ret m5 f5_24 rfl rfl rfl rfl rfl rfl rfl rfl (by unfold gm_rt; dsimp only; rw [if_pos ⟨rfl, (gs_nb hx).1⟩])
/-! GraphReaderModel.define(IIIJ)I -/
theorem m6 : gm_mt[6]? = some (⟨"GraphReaderModel", "define", "(IIIJ)I"⟩, prog_7_method_5_code, 6, (some .int), [], 5, 2) := rfl
theorem f6_0 : gm_ft 6 0 = some (.aload_n 0, 1) := by decide +kernel
theorem r6_0 {E : Nat → Value} {d : Nat} {st : List Value} {h : gm_H} {Q : gm_R → gm_H → Prop} {a1 a2 a3 a4 a5 : Value} {x : Nat} : gm_W E d 6 0 [.ref x, a1, a2, a3, a4, a5] st h Q ↔ gm_W E d 6 1 [.ref x, a1, a2, a3, a4, a5] (.ref x :: st) h Q := gw_loc m6 f6_0 rfl rfl
theorem r6_0n {E : Nat → Value} {d : Nat} {st : List Value} {h : gm_H} {Q : gm_R → gm_H → Prop} {a1 a2 a3 a4 a5 : Value}  : gm_W E d 6 0 [.null, a1, a2, a3, a4, a5] st h Q ↔ gm_W E d 6 1 [.null, a1, a2, a3, a4, a5] (.null :: st) h Q := gw_loc m6 f6_0 rfl rfl
theorem f6_1 : gm_ft 6 1 = some (.iload_n 1, 1) := by decide +kernel
theorem r6_1 {E : Nat → Value} {d : Nat} {st : List Value} {h : gm_H} {Q : gm_R → gm_H → Prop} {a0 a2 a3 a4 a5 : Value} {x : Int32} : gm_W E d 6 1 [a0, .int x, a2, a3, a4, a5] st h Q ↔ gm_W E d 6 2 [a0, .int x, a2, a3, a4, a5] (.int x :: st) h Q := gw_loc m6 f6_1 rfl rfl
theorem f6_2 : gm_ft 6 2 = some (.bipush 6, 2) := by decide +kernel
theorem r6_2 {E : Nat → Value} {d : Nat} {st : List Value} {h : gm_H} {Q : gm_R → gm_H → Prop} {lv : List Value} : gm_W E d 6 2 lv st h Q ↔ gm_W E d 6 4 lv (.int (6 : Int32) :: st) h Q := gw_pure m6 f6_2 rfl
theorem f6_4 : gm_ft 6 4 = some (.invokevirtual 131, 3) := by decide +kernel
theorem c6_4 {E : Nat → Value} {d : Nat} {st : List Value} {h : gm_H} {Q : gm_R → gm_H → Prop} {lv : List Value} {b0 : Int32} {b1 : Int32} {a : Nat} {Qc : gm_R → gm_H → Prop} (hs : (st.map fun v => v.category).sum ≤ 8) (hr : gm_kd h a = 5) (hd : 1 ≤ d) (hc : gm_Ca E (d - 1) 4 [.ref a, .int b0, .int b1] h Qc) (kn : ∀ (v9 : Option Value) (h9 : gm_H), Qc (.inl v9) h9 → gm_W E d 6 7 lv (v9.toList ++ st) h9 Q) (kx : ∀ (x9 : Nat) (h9 : gm_H), Qc (.inr x9) h9 → Q (.inr x9) h9) : gm_W E d 6 4 lv (.int b1 :: .int b0 :: .ref a :: st) h Q := gw_call (gn_call m6 f6_4 rfl rfl rfl rfl rfl rfl rfl (gs_virt (bs := [.int b1, .int b0]) (w := 820) (L := 3) rfl rfl rfl rfl hs (by simp [gm_en1]) hr (by decide)) (by decide)) m6 rfl rfl hd hc kn kx
theorem f6_7 : gm_ft 6 7 = some (.ifCond .ne 34, 3) := by decide +kernel
theorem r6_7 {E : Nat → Value} {d : Nat} {st : List Value} {h : gm_H} {Q : gm_R → gm_H → Prop} {lv : List Value} {x : Int32} : gm_W E d 6 7 lv (.int x :: st) h Q ↔ (if x = 0 then gm_W E d 6 10 lv st h Q else gm_W E d 6 41 lv st h Q) := (gw_br m6 f6_7 rfl rfl rfl rfl).trans gw_ifn
theorem f6_10 : gm_ft 6 10 = some (.aload_n 0, 1) := by decide +kernel
theorem r6_10 {E : Nat → Value} {d : Nat} {st : List Value} {h : gm_H} {Q : gm_R → gm_H → Prop} {a1 a2 a3 a4 a5 : Value} {x : Nat} : gm_W E d 6 10 [.ref x, a1, a2, a3, a4, a5] st h Q ↔ gm_W E d 6 11 [.ref x, a1, a2, a3, a4, a5] (.ref x :: st) h Q := gw_loc m6 f6_10 rfl rfl
theorem r6_10n {E : Nat → Value} {d : Nat} {st : List Value} {h : gm_H} {Q : gm_R → gm_H → Prop} {a1 a2 a3 a4 a5 : Value}  : gm_W E d 6 10 [.null, a1, a2, a3, a4, a5] st h Q ↔ gm_W E d 6 11 [.null, a1, a2, a3, a4, a5] (.null :: st) h Q := gw_loc m6 f6_10 rfl rfl
theorem f6_11 : gm_ft 6 11 = some (.iload_n 2, 1) := by decide +kernel
theorem r6_11 {E : Nat → Value} {d : Nat} {st : List Value} {h : gm_H} {Q : gm_R → gm_H → Prop} {a0 a1 a3 a4 a5 : Value} {x : Int32} : gm_W E d 6 11 [a0, a1, .int x, a3, a4, a5] st h Q ↔ gm_W E d 6 12 [a0, a1, .int x, a3, a4, a5] (.int x :: st) h Q := gw_loc m6 f6_11 rfl rfl
theorem f6_12 : gm_ft 6 12 = some (.iconst 5, 1) := by decide +kernel
theorem r6_12 {E : Nat → Value} {d : Nat} {st : List Value} {h : gm_H} {Q : gm_R → gm_H → Prop} {lv : List Value} : gm_W E d 6 12 lv st h Q ↔ gm_W E d 6 13 lv (.int (5 : Int32) :: st) h Q := gw_pure m6 f6_12 rfl
theorem f6_13 : gm_ft 6 13 = some (.invokevirtual 131, 3) := by decide +kernel
theorem c6_13 {E : Nat → Value} {d : Nat} {st : List Value} {h : gm_H} {Q : gm_R → gm_H → Prop} {lv : List Value} {b0 : Int32} {b1 : Int32} {a : Nat} {Qc : gm_R → gm_H → Prop} (hs : (st.map fun v => v.category).sum ≤ 8) (hr : gm_kd h a = 5) (hd : 1 ≤ d) (hc : gm_Ca E (d - 1) 4 [.ref a, .int b0, .int b1] h Qc) (kn : ∀ (v9 : Option Value) (h9 : gm_H), Qc (.inl v9) h9 → gm_W E d 6 16 lv (v9.toList ++ st) h9 Q) (kx : ∀ (x9 : Nat) (h9 : gm_H), Qc (.inr x9) h9 → Q (.inr x9) h9) : gm_W E d 6 13 lv (.int b1 :: .int b0 :: .ref a :: st) h Q := gw_call (gn_call m6 f6_13 rfl rfl rfl rfl rfl rfl rfl (gs_virt (bs := [.int b1, .int b0]) (w := 820) (L := 3) rfl rfl rfl rfl hs (by simp [gm_en1]) hr (by decide)) (by decide)) m6 rfl rfl hd hc kn kx
theorem f6_16 : gm_ft 6 16 = some (.ifCond .ne 25, 3) := by decide +kernel
theorem r6_16 {E : Nat → Value} {d : Nat} {st : List Value} {h : gm_H} {Q : gm_R → gm_H → Prop} {lv : List Value} {x : Int32} : gm_W E d 6 16 lv (.int x :: st) h Q ↔ (if x = 0 then gm_W E d 6 19 lv st h Q else gm_W E d 6 41 lv st h Q) := (gw_br m6 f6_16 rfl rfl rfl rfl).trans gw_ifn
theorem f6_19 : gm_ft 6 19 = some (.iload_n 3, 1) := by decide +kernel
theorem r6_19 {E : Nat → Value} {d : Nat} {st : List Value} {h : gm_H} {Q : gm_R → gm_H → Prop} {a0 a1 a2 a4 a5 : Value} {x : Int32} : gm_W E d 6 19 [a0, a1, a2, .int x, a4, a5] st h Q ↔ gm_W E d 6 20 [a0, a1, a2, .int x, a4, a5] (.int x :: st) h Q := gw_loc m6 f6_19 rfl rfl
theorem f6_20 : gm_ft 6 20 = some (.iconst (-1), 1) := by decide +kernel
theorem r6_20 {E : Nat → Value} {d : Nat} {st : List Value} {h : gm_H} {Q : gm_R → gm_H → Prop} {lv : List Value} : gm_W E d 6 20 lv st h Q ↔ gm_W E d 6 21 lv (.int (-1 : Int32) :: st) h Q := gw_pure m6 f6_20 rfl
theorem f6_21 : gm_ft 6 21 = some (.if_icmp .lt 20, 3) := by decide +kernel
theorem r6_21 {E : Nat → Value} {d : Nat} {st : List Value} {h : gm_H} {Q : gm_R → gm_H → Prop} {lv : List Value} {x y : Int32} : gm_W E d 6 21 lv (.int y :: .int x :: st) h Q ↔ (if x < y then gm_W E d 6 41 lv st h Q else gm_W E d 6 24 lv st h Q) := (gw_br m6 f6_21 rfl rfl rfl rfl).trans gw_if
theorem f6_24 : gm_ft 6 24 = some (.iload_n 3, 1) := by decide +kernel
theorem r6_24 {E : Nat → Value} {d : Nat} {st : List Value} {h : gm_H} {Q : gm_R → gm_H → Prop} {a0 a1 a2 a4 a5 : Value} {x : Int32} : gm_W E d 6 24 [a0, a1, a2, .int x, a4, a5] st h Q ↔ gm_W E d 6 25 [a0, a1, a2, .int x, a4, a5] (.int x :: st) h Q := gw_loc m6 f6_24 rfl rfl
theorem f6_25 : gm_ft 6 25 = some (.ifCond .lt 18, 3) := by decide +kernel
theorem r6_25 {E : Nat → Value} {d : Nat} {st : List Value} {h : gm_H} {Q : gm_R → gm_H → Prop} {lv : List Value} {x : Int32} : gm_W E d 6 25 lv (.int x :: st) h Q ↔ (if x < 0 then gm_W E d 6 43 lv st h Q else gm_W E d 6 28 lv st h Q) := (gw_br m6 f6_25 rfl rfl rfl rfl).trans gw_if
theorem f6_28 : gm_ft 6 28 = some (.iload_n 3, 1) := by decide +kernel
theorem r6_28 {E : Nat → Value} {d : Nat} {st : List Value} {h : gm_H} {Q : gm_R → gm_H → Prop} {a0 a1 a2 a4 a5 : Value} {x : Int32} : gm_W E d 6 28 [a0, a1, a2, .int x, a4, a5] st h Q ↔ gm_W E d 6 29 [a0, a1, a2, .int x, a4, a5] (.int x :: st) h Q := gw_loc m6 f6_28 rfl rfl
theorem f6_29 : gm_ft 6 29 = some (.iload_n 1, 1) := by decide +kernel
theorem r6_29 {E : Nat → Value} {d : Nat} {st : List Value} {h : gm_H} {Q : gm_R → gm_H → Prop} {a0 a2 a3 a4 a5 : Value} {x : Int32} : gm_W E d 6 29 [a0, .int x, a2, a3, a4, a5] st h Q ↔ gm_W E d 6 30 [a0, .int x, a2, a3, a4, a5] (.int x :: st) h Q := gw_loc m6 f6_29 rfl rfl
theorem f6_30 : gm_ft 6 30 = some (.if_icmp .ge 11, 3) := by decide +kernel
theorem r6_30 {E : Nat → Value} {d : Nat} {st : List Value} {h : gm_H} {Q : gm_R → gm_H → Prop} {lv : List Value} {x y : Int32} : gm_W E d 6 30 lv (.int y :: .int x :: st) h Q ↔ (if y ≤ x then gm_W E d 6 41 lv st h Q else gm_W E d 6 33 lv st h Q) := (gw_br m6 f6_30 rfl rfl rfl rfl).trans gw_if
theorem f6_33 : gm_ft 6 33 = some (.aload_n 0, 1) := by decide +kernel
theorem r6_33 {E : Nat → Value} {d : Nat} {st : List Value} {h : gm_H} {Q : gm_R → gm_H → Prop} {a1 a2 a3 a4 a5 : Value} {x : Nat} : gm_W E d 6 33 [.ref x, a1, a2, a3, a4, a5] st h Q ↔ gm_W E d 6 34 [.ref x, a1, a2, a3, a4, a5] (.ref x :: st) h Q := gw_loc m6 f6_33 rfl rfl
theorem r6_33n {E : Nat → Value} {d : Nat} {st : List Value} {h : gm_H} {Q : gm_R → gm_H → Prop} {a1 a2 a3 a4 a5 : Value}  : gm_W E d 6 33 [.null, a1, a2, a3, a4, a5] st h Q ↔ gm_W E d 6 34 [.null, a1, a2, a3, a4, a5] (.null :: st) h Q := gw_loc m6 f6_33 rfl rfl
theorem f6_34 : gm_ft 6 34 = some (.iload_n 3, 1) := by decide +kernel
theorem r6_34 {E : Nat → Value} {d : Nat} {st : List Value} {h : gm_H} {Q : gm_R → gm_H → Prop} {a0 a1 a2 a4 a5 : Value} {x : Int32} : gm_W E d 6 34 [a0, a1, a2, .int x, a4, a5] st h Q ↔ gm_W E d 6 35 [a0, a1, a2, .int x, a4, a5] (.int x :: st) h Q := gw_loc m6 f6_34 rfl rfl
theorem f6_35 : gm_ft 6 35 = some (.invokevirtual 135, 3) := by decide +kernel
theorem c6_35 {E : Nat → Value} {d : Nat} {st : List Value} {h : gm_H} {Q : gm_R → gm_H → Prop} {lv : List Value} {b0 : Int32} {a : Nat} {Qc : gm_R → gm_H → Prop} (hs : (st.map fun v => v.category).sum ≤ 8) (hr : gm_kd h a = 5) (hd : 1 ≤ d) (hc : gm_Ca E (d - 1) 5 [.ref a, .int b0] h Qc) (kn : ∀ (v9 : Option Value) (h9 : gm_H), Qc (.inl v9) h9 → gm_W E d 6 38 lv (v9.toList ++ st) h9 Q) (kx : ∀ (x9 : Nat) (h9 : gm_H), Qc (.inr x9) h9 → Q (.inr x9) h9) : gm_W E d 6 35 lv (.int b0 :: .ref a :: st) h Q := gw_call (gn_call m6 f6_35 rfl rfl rfl rfl rfl rfl rfl (gs_virt (bs := [.int b0]) (w := 824) (L := 2) rfl rfl rfl rfl hs (by simp [gm_en1]) hr (by decide)) (by decide)) m6 rfl rfl hd hc kn kx
theorem f6_38 : gm_ft 6 38 = some (.ifCond .eq 5, 3) := by decide +kernel
theorem r6_38 {E : Nat → Value} {d : Nat} {st : List Value} {h : gm_H} {Q : gm_R → gm_H → Prop} {lv : List Value} {x : Int32} : gm_W E d 6 38 lv (.int x :: st) h Q ↔ (if x = 0 then gm_W E d 6 43 lv st h Q else gm_W E d 6 41 lv st h Q) := (gw_br m6 f6_38 rfl rfl rfl rfl).trans gw_if
theorem f6_41 : gm_ft 6 41 = some (.iconst (-1), 1) := by decide +kernel
theorem r6_41 {E : Nat → Value} {d : Nat} {st : List Value} {h : gm_H} {Q : gm_R → gm_H → Prop} {lv : List Value} : gm_W E d 6 41 lv st h Q ↔ gm_W E d 6 42 lv (.int (-1 : Int32) :: st) h Q := gw_pure m6 f6_41 rfl
theorem f6_42 : gm_ft 6 42 = some (.ireturn, 1) := by decide +kernel
theorem r6_42 {E : Nat → Value} {d : Nat} {h : gm_H} {Q : gm_R → gm_H → Prop} {lv : List Value} {x : Int32} : gm_W E d 6 42 lv [.int x] h Q ↔ Q (.inl (some (.int x))) h := gw_ret m6 f6_42 rfl rfl rfl rfl rfl rfl rfl rfl (by unfold gm_rt; dsimp only; rw [if_pos ⟨rfl, rfl⟩])
theorem f6_43 : gm_ft 6 43 = some (.aload_n 0, 1) := by decide +kernel
theorem r6_43 {E : Nat → Value} {d : Nat} {st : List Value} {h : gm_H} {Q : gm_R → gm_H → Prop} {a1 a2 a3 a4 a5 : Value} {x : Nat} : gm_W E d 6 43 [.ref x, a1, a2, a3, a4, a5] st h Q ↔ gm_W E d 6 44 [.ref x, a1, a2, a3, a4, a5] (.ref x :: st) h Q := gw_loc m6 f6_43 rfl rfl
theorem r6_43n {E : Nat → Value} {d : Nat} {st : List Value} {h : gm_H} {Q : gm_R → gm_H → Prop} {a1 a2 a3 a4 a5 : Value}  : gm_W E d 6 43 [.null, a1, a2, a3, a4, a5] st h Q ↔ gm_W E d 6 44 [.null, a1, a2, a3, a4, a5] (.null :: st) h Q := gw_loc m6 f6_43 rfl rfl
theorem f6_44 : gm_ft 6 44 = some (.getfield 13, 3) := by decide +kernel
theorem r6_44 {E : Nat → Value} {d : Nat} {st : List Value} {h : gm_H} {Q : gm_R → gm_H → Prop} {lv : List Value} {a : Nat} (hk : gm_kd h a = 5) : gm_W E d 6 44 lv (.ref a :: st) h Q ↔ gm_W E d 6 47 lv (gm_fv h a 10 :: st) h Q := gw_rd m6 f6_44 rfl rfl rfl rfl (gs_get k5_13 hk (by decide))
theorem f6_47 : gm_ft 6 47 = some (.iload_n 1, 1) := by decide +kernel
theorem r6_47 {E : Nat → Value} {d : Nat} {st : List Value} {h : gm_H} {Q : gm_R → gm_H → Prop} {a0 a2 a3 a4 a5 : Value} {x : Int32} : gm_W E d 6 47 [a0, .int x, a2, a3, a4, a5] st h Q ↔ gm_W E d 6 48 [a0, .int x, a2, a3, a4, a5] (.int x :: st) h Q := gw_loc m6 f6_47 rfl rfl
theorem f6_48 : gm_ft 6 48 = some (.iaload, 1) := by decide +kernel
theorem r6_48 {E : Nat → Value} {d : Nat} {st : List Value} {h : gm_H} {Q : gm_R → gm_H → Prop} {lv : List Value} {a j : Nat} (hk : gm_kd h a % 100 = 0 ∧ 100 ≤ gm_kd h a ∧ gm_kd h a < 900) (hj : j < gm_ln h a) (hl : gm_ln h a < 2 ^ 31) : gm_W E d 6 48 lv (.int (nI j) :: .ref a :: st) h Q ↔ gm_W E d 6 49 lv (gm_fv h a j :: st) h Q := gw_rd m6 f6_48 rfl rfl rfl rfl (gs_ld (P := fun t => t == 0) hk.2 (by have := hk.1; simp [this] <;> omega) hj hl)
theorem f6_49 : gm_ft 6 49 = some (.ifCond .lt 5, 3) := by decide +kernel
theorem r6_49 {E : Nat → Value} {d : Nat} {st : List Value} {h : gm_H} {Q : gm_R → gm_H → Prop} {lv : List Value} {x : Int32} : gm_W E d 6 49 lv (.int x :: st) h Q ↔ (if x < 0 then gm_W E d 6 54 lv st h Q else gm_W E d 6 52 lv st h Q) := (gw_br m6 f6_49 rfl rfl rfl rfl).trans gw_if
theorem f6_52 : gm_ft 6 52 = some (.iconst (-1), 1) := by decide +kernel
theorem r6_52 {E : Nat → Value} {d : Nat} {st : List Value} {h : gm_H} {Q : gm_R → gm_H → Prop} {lv : List Value} : gm_W E d 6 52 lv st h Q ↔ gm_W E d 6 53 lv (.int (-1 : Int32) :: st) h Q := gw_pure m6 f6_52 rfl
theorem f6_53 : gm_ft 6 53 = some (.ireturn, 1) := by decide +kernel
theorem r6_53 {E : Nat → Value} {d : Nat} {h : gm_H} {Q : gm_R → gm_H → Prop} {lv : List Value} {x : Int32} : gm_W E d 6 53 lv [.int x] h Q ↔ Q (.inl (some (.int x))) h := gw_ret m6 f6_53 rfl rfl rfl rfl rfl rfl rfl rfl (by unfold gm_rt; dsimp only; rw [if_pos ⟨rfl, rfl⟩])
theorem f6_54 : gm_ft 6 54 = some (.iload_n 3, 1) := by decide +kernel
theorem r6_54 {E : Nat → Value} {d : Nat} {st : List Value} {h : gm_H} {Q : gm_R → gm_H → Prop} {a0 a1 a2 a4 a5 : Value} {x : Int32} : gm_W E d 6 54 [a0, a1, a2, .int x, a4, a5] st h Q ↔ gm_W E d 6 55 [a0, a1, a2, .int x, a4, a5] (.int x :: st) h Q := gw_loc m6 f6_54 rfl rfl
theorem f6_55 : gm_ft 6 55 = some (.ifCond .lt 33, 3) := by decide +kernel
theorem r6_55 {E : Nat → Value} {d : Nat} {st : List Value} {h : gm_H} {Q : gm_R → gm_H → Prop} {lv : List Value} {x : Int32} : gm_W E d 6 55 lv (.int x :: st) h Q ↔ (if x < 0 then gm_W E d 6 88 lv st h Q else gm_W E d 6 58 lv st h Q) := (gw_br m6 f6_55 rfl rfl rfl rfl).trans gw_if
theorem f6_58 : gm_ft 6 58 = some (.iload_n 2, 1) := by decide +kernel
theorem r6_58 {E : Nat → Value} {d : Nat} {st : List Value} {h : gm_H} {Q : gm_R → gm_H → Prop} {a0 a1 a3 a4 a5 : Value} {x : Int32} : gm_W E d 6 58 [a0, a1, .int x, a3, a4, a5] st h Q ↔ gm_W E d 6 59 [a0, a1, .int x, a3, a4, a5] (.int x :: st) h Q := gw_loc m6 f6_58 rfl rfl
theorem f6_59 : gm_ft 6 59 = some (.iconst 2, 1) := by decide +kernel
theorem r6_59 {E : Nat → Value} {d : Nat} {st : List Value} {h : gm_H} {Q : gm_R → gm_H → Prop} {lv : List Value} : gm_W E d 6 59 lv st h Q ↔ gm_W E d 6 60 lv (.int (2 : Int32) :: st) h Q := gw_pure m6 f6_59 rfl
theorem f6_60 : gm_ft 6 60 = some (.if_icmp .gt 26, 3) := by decide +kernel
theorem r6_60 {E : Nat → Value} {d : Nat} {st : List Value} {h : gm_H} {Q : gm_R → gm_H → Prop} {lv : List Value} {x y : Int32} : gm_W E d 6 60 lv (.int y :: .int x :: st) h Q ↔ (if y < x then gm_W E d 6 86 lv st h Q else gm_W E d 6 63 lv st h Q) := (gw_br m6 f6_60 rfl rfl rfl rfl).trans gw_if
theorem f6_63 : gm_ft 6 63 = some (.aload_n 0, 1) := by decide +kernel
theorem r6_63 {E : Nat → Value} {d : Nat} {st : List Value} {h : gm_H} {Q : gm_R → gm_H → Prop} {a1 a2 a3 a4 a5 : Value} {x : Nat} : gm_W E d 6 63 [.ref x, a1, a2, a3, a4, a5] st h Q ↔ gm_W E d 6 64 [.ref x, a1, a2, a3, a4, a5] (.ref x :: st) h Q := gw_loc m6 f6_63 rfl rfl
theorem r6_63n {E : Nat → Value} {d : Nat} {st : List Value} {h : gm_H} {Q : gm_R → gm_H → Prop} {a1 a2 a3 a4 a5 : Value}  : gm_W E d 6 63 [.null, a1, a2, a3, a4, a5] st h Q ↔ gm_W E d 6 64 [.null, a1, a2, a3, a4, a5] (.null :: st) h Q := gw_loc m6 f6_63 rfl rfl
theorem f6_64 : gm_ft 6 64 = some (.getfield 13, 3) := by decide +kernel
theorem r6_64 {E : Nat → Value} {d : Nat} {st : List Value} {h : gm_H} {Q : gm_R → gm_H → Prop} {lv : List Value} {a : Nat} (hk : gm_kd h a = 5) : gm_W E d 6 64 lv (.ref a :: st) h Q ↔ gm_W E d 6 67 lv (gm_fv h a 10 :: st) h Q := gw_rd m6 f6_64 rfl rfl rfl rfl (gs_get k5_13 hk (by decide))
theorem f6_67 : gm_ft 6 67 = some (.iload_n 3, 1) := by decide +kernel
theorem r6_67 {E : Nat → Value} {d : Nat} {st : List Value} {h : gm_H} {Q : gm_R → gm_H → Prop} {a0 a1 a2 a4 a5 : Value} {x : Int32} : gm_W E d 6 67 [a0, a1, a2, .int x, a4, a5] st h Q ↔ gm_W E d 6 68 [a0, a1, a2, .int x, a4, a5] (.int x :: st) h Q := gw_loc m6 f6_67 rfl rfl
theorem f6_68 : gm_ft 6 68 = some (.iaload, 1) := by decide +kernel
theorem r6_68 {E : Nat → Value} {d : Nat} {st : List Value} {h : gm_H} {Q : gm_R → gm_H → Prop} {lv : List Value} {a j : Nat} (hk : gm_kd h a % 100 = 0 ∧ 100 ≤ gm_kd h a ∧ gm_kd h a < 900) (hj : j < gm_ln h a) (hl : gm_ln h a < 2 ^ 31) : gm_W E d 6 68 lv (.int (nI j) :: .ref a :: st) h Q ↔ gm_W E d 6 69 lv (gm_fv h a j :: st) h Q := gw_rd m6 f6_68 rfl rfl rfl rfl (gs_ld (P := fun t => t == 0) hk.2 (by have := hk.1; simp [this] <;> omega) hj hl)
theorem f6_69 : gm_ft 6 69 = some (.iconst 2, 1) := by decide +kernel
theorem r6_69 {E : Nat → Value} {d : Nat} {st : List Value} {h : gm_H} {Q : gm_R → gm_H → Prop} {lv : List Value} : gm_W E d 6 69 lv st h Q ↔ gm_W E d 6 70 lv (.int (2 : Int32) :: st) h Q := gw_pure m6 f6_69 rfl
theorem f6_70 : gm_ft 6 70 = some (.if_icmp .gt 16, 3) := by decide +kernel
theorem r6_70 {E : Nat → Value} {d : Nat} {st : List Value} {h : gm_H} {Q : gm_R → gm_H → Prop} {lv : List Value} {x y : Int32} : gm_W E d 6 70 lv (.int y :: .int x :: st) h Q ↔ (if y < x then gm_W E d 6 86 lv st h Q else gm_W E d 6 73 lv st h Q) := (gw_br m6 f6_70 rfl rfl rfl rfl).trans gw_if
theorem f6_73 : gm_ft 6 73 = some (.iload_n 2, 1) := by decide +kernel
theorem r6_73 {E : Nat → Value} {d : Nat} {st : List Value} {h : gm_H} {Q : gm_R → gm_H → Prop} {a0 a1 a3 a4 a5 : Value} {x : Int32} : gm_W E d 6 73 [a0, a1, .int x, a3, a4, a5] st h Q ↔ gm_W E d 6 74 [a0, a1, .int x, a3, a4, a5] (.int x :: st) h Q := gw_loc m6 f6_73 rfl rfl
theorem f6_74 : gm_ft 6 74 = some (.ifCond .ne 14, 3) := by decide +kernel
theorem r6_74 {E : Nat → Value} {d : Nat} {st : List Value} {h : gm_H} {Q : gm_R → gm_H → Prop} {lv : List Value} {x : Int32} : gm_W E d 6 74 lv (.int x :: st) h Q ↔ (if x = 0 then gm_W E d 6 77 lv st h Q else gm_W E d 6 88 lv st h Q) := (gw_br m6 f6_74 rfl rfl rfl rfl).trans gw_ifn
theorem f6_77 : gm_ft 6 77 = some (.aload_n 0, 1) := by decide +kernel
theorem r6_77 {E : Nat → Value} {d : Nat} {st : List Value} {h : gm_H} {Q : gm_R → gm_H → Prop} {a1 a2 a3 a4 a5 : Value} {x : Nat} : gm_W E d 6 77 [.ref x, a1, a2, a3, a4, a5] st h Q ↔ gm_W E d 6 78 [.ref x, a1, a2, a3, a4, a5] (.ref x :: st) h Q := gw_loc m6 f6_77 rfl rfl
theorem r6_77n {E : Nat → Value} {d : Nat} {st : List Value} {h : gm_H} {Q : gm_R → gm_H → Prop} {a1 a2 a3 a4 a5 : Value}  : gm_W E d 6 77 [.null, a1, a2, a3, a4, a5] st h Q ↔ gm_W E d 6 78 [.null, a1, a2, a3, a4, a5] (.null :: st) h Q := gw_loc m6 f6_77 rfl rfl
theorem f6_78 : gm_ft 6 78 = some (.getfield 13, 3) := by decide +kernel
theorem r6_78 {E : Nat → Value} {d : Nat} {st : List Value} {h : gm_H} {Q : gm_R → gm_H → Prop} {lv : List Value} {a : Nat} (hk : gm_kd h a = 5) : gm_W E d 6 78 lv (.ref a :: st) h Q ↔ gm_W E d 6 81 lv (gm_fv h a 10 :: st) h Q := gw_rd m6 f6_78 rfl rfl rfl rfl (gs_get k5_13 hk (by decide))
theorem f6_81 : gm_ft 6 81 = some (.iload_n 3, 1) := by decide +kernel
theorem r6_81 {E : Nat → Value} {d : Nat} {st : List Value} {h : gm_H} {Q : gm_R → gm_H → Prop} {a0 a1 a2 a4 a5 : Value} {x : Int32} : gm_W E d 6 81 [a0, a1, a2, .int x, a4, a5] st h Q ↔ gm_W E d 6 82 [a0, a1, a2, .int x, a4, a5] (.int x :: st) h Q := gw_loc m6 f6_81 rfl rfl
theorem f6_82 : gm_ft 6 82 = some (.iaload, 1) := by decide +kernel
theorem r6_82 {E : Nat → Value} {d : Nat} {st : List Value} {h : gm_H} {Q : gm_R → gm_H → Prop} {lv : List Value} {a j : Nat} (hk : gm_kd h a % 100 = 0 ∧ 100 ≤ gm_kd h a ∧ gm_kd h a < 900) (hj : j < gm_ln h a) (hl : gm_ln h a < 2 ^ 31) : gm_W E d 6 82 lv (.int (nI j) :: .ref a :: st) h Q ↔ gm_W E d 6 83 lv (gm_fv h a j :: st) h Q := gw_rd m6 f6_82 rfl rfl rfl rfl (gs_ld (P := fun t => t == 0) hk.2 (by have := hk.1; simp [this] <;> omega) hj hl)
theorem f6_83 : gm_ft 6 83 = some (.ifCond .eq 5, 3) := by decide +kernel
theorem r6_83 {E : Nat → Value} {d : Nat} {st : List Value} {h : gm_H} {Q : gm_R → gm_H → Prop} {lv : List Value} {x : Int32} : gm_W E d 6 83 lv (.int x :: st) h Q ↔ (if x = 0 then gm_W E d 6 88 lv st h Q else gm_W E d 6 86 lv st h Q) := (gw_br m6 f6_83 rfl rfl rfl rfl).trans gw_if
theorem f6_86 : gm_ft 6 86 = some (.iconst (-1), 1) := by decide +kernel
theorem r6_86 {E : Nat → Value} {d : Nat} {st : List Value} {h : gm_H} {Q : gm_R → gm_H → Prop} {lv : List Value} : gm_W E d 6 86 lv st h Q ↔ gm_W E d 6 87 lv (.int (-1 : Int32) :: st) h Q := gw_pure m6 f6_86 rfl
theorem f6_87 : gm_ft 6 87 = some (.ireturn, 1) := by decide +kernel
theorem r6_87 {E : Nat → Value} {d : Nat} {h : gm_H} {Q : gm_R → gm_H → Prop} {lv : List Value} {x : Int32} : gm_W E d 6 87 lv [.int x] h Q ↔ Q (.inl (some (.int x))) h := gw_ret m6 f6_87 rfl rfl rfl rfl rfl rfl rfl rfl (by unfold gm_rt; dsimp only; rw [if_pos ⟨rfl, rfl⟩])
theorem f6_88 : gm_ft 6 88 = some (.aload_n 0, 1) := by decide +kernel
theorem r6_88 {E : Nat → Value} {d : Nat} {st : List Value} {h : gm_H} {Q : gm_R → gm_H → Prop} {a1 a2 a3 a4 a5 : Value} {x : Nat} : gm_W E d 6 88 [.ref x, a1, a2, a3, a4, a5] st h Q ↔ gm_W E d 6 89 [.ref x, a1, a2, a3, a4, a5] (.ref x :: st) h Q := gw_loc m6 f6_88 rfl rfl
theorem r6_88n {E : Nat → Value} {d : Nat} {st : List Value} {h : gm_H} {Q : gm_R → gm_H → Prop} {a1 a2 a3 a4 a5 : Value}  : gm_W E d 6 88 [.null, a1, a2, a3, a4, a5] st h Q ↔ gm_W E d 6 89 [.null, a1, a2, a3, a4, a5] (.null :: st) h Q := gw_loc m6 f6_88 rfl rfl
theorem f6_89 : gm_ft 6 89 = some (.getfield 13, 3) := by decide +kernel
theorem r6_89 {E : Nat → Value} {d : Nat} {st : List Value} {h : gm_H} {Q : gm_R → gm_H → Prop} {lv : List Value} {a : Nat} (hk : gm_kd h a = 5) : gm_W E d 6 89 lv (.ref a :: st) h Q ↔ gm_W E d 6 92 lv (gm_fv h a 10 :: st) h Q := gw_rd m6 f6_89 rfl rfl rfl rfl (gs_get k5_13 hk (by decide))
theorem f6_92 : gm_ft 6 92 = some (.iload_n 1, 1) := by decide +kernel
theorem r6_92 {E : Nat → Value} {d : Nat} {st : List Value} {h : gm_H} {Q : gm_R → gm_H → Prop} {a0 a2 a3 a4 a5 : Value} {x : Int32} : gm_W E d 6 92 [a0, .int x, a2, a3, a4, a5] st h Q ↔ gm_W E d 6 93 [a0, .int x, a2, a3, a4, a5] (.int x :: st) h Q := gw_loc m6 f6_92 rfl rfl
theorem f6_93 : gm_ft 6 93 = some (.iload_n 2, 1) := by decide +kernel
theorem r6_93 {E : Nat → Value} {d : Nat} {st : List Value} {h : gm_H} {Q : gm_R → gm_H → Prop} {a0 a1 a3 a4 a5 : Value} {x : Int32} : gm_W E d 6 93 [a0, a1, .int x, a3, a4, a5] st h Q ↔ gm_W E d 6 94 [a0, a1, .int x, a3, a4, a5] (.int x :: st) h Q := gw_loc m6 f6_93 rfl rfl
theorem f6_94 : gm_ft 6 94 = some (.iastore, 1) := by decide +kernel
theorem r6_94 {E : Nat → Value} {d : Nat} {st : List Value} {h : gm_H} {Q : gm_R → gm_H → Prop} {lv : List Value} {a j : Nat} {x : Int32} (hk : gm_kd h a = 200) (hj : j < gm_ln h a) (hl : gm_ln h a < 2 ^ 31) : gm_W E d 6 94 lv (.int x :: .int (nI j) :: .ref a :: st) h Q ↔ gm_W E d 6 95 lv st (gm_sf h a j (.int x)) Q := gw_wr m6 f6_94 rfl rfl rfl rfl rfl (gs_st hk (by decide) hj hl)
theorem f6_95 : gm_ft 6 95 = some (.aload_n 0, 1) := by decide +kernel
theorem r6_95 {E : Nat → Value} {d : Nat} {st : List Value} {h : gm_H} {Q : gm_R → gm_H → Prop} {a1 a2 a3 a4 a5 : Value} {x : Nat} : gm_W E d 6 95 [.ref x, a1, a2, a3, a4, a5] st h Q ↔ gm_W E d 6 96 [.ref x, a1, a2, a3, a4, a5] (.ref x :: st) h Q := gw_loc m6 f6_95 rfl rfl
theorem r6_95n {E : Nat → Value} {d : Nat} {st : List Value} {h : gm_H} {Q : gm_R → gm_H → Prop} {a1 a2 a3 a4 a5 : Value}  : gm_W E d 6 95 [.null, a1, a2, a3, a4, a5] st h Q ↔ gm_W E d 6 96 [.null, a1, a2, a3, a4, a5] (.null :: st) h Q := gw_loc m6 f6_95 rfl rfl
theorem f6_96 : gm_ft 6 96 = some (.getfield 20, 3) := by decide +kernel
theorem r6_96 {E : Nat → Value} {d : Nat} {st : List Value} {h : gm_H} {Q : gm_R → gm_H → Prop} {lv : List Value} {a : Nat} (hk : gm_kd h a = 5) : gm_W E d 6 96 lv (.ref a :: st) h Q ↔ gm_W E d 6 99 lv (gm_fv h a 12 :: st) h Q := gw_rd m6 f6_96 rfl rfl rfl rfl (gs_get k5_20 hk (by decide))
theorem f6_99 : gm_ft 6 99 = some (.iload_n 1, 1) := by decide +kernel
theorem r6_99 {E : Nat → Value} {d : Nat} {st : List Value} {h : gm_H} {Q : gm_R → gm_H → Prop} {a0 a2 a3 a4 a5 : Value} {x : Int32} : gm_W E d 6 99 [a0, .int x, a2, a3, a4, a5] st h Q ↔ gm_W E d 6 100 [a0, .int x, a2, a3, a4, a5] (.int x :: st) h Q := gw_loc m6 f6_99 rfl rfl
theorem f6_100 : gm_ft 6 100 = some (.iload_n 3, 1) := by decide +kernel
theorem r6_100 {E : Nat → Value} {d : Nat} {st : List Value} {h : gm_H} {Q : gm_R → gm_H → Prop} {a0 a1 a2 a4 a5 : Value} {x : Int32} : gm_W E d 6 100 [a0, a1, a2, .int x, a4, a5] st h Q ↔ gm_W E d 6 101 [a0, a1, a2, .int x, a4, a5] (.int x :: st) h Q := gw_loc m6 f6_100 rfl rfl
theorem f6_101 : gm_ft 6 101 = some (.iastore, 1) := by decide +kernel
theorem r6_101 {E : Nat → Value} {d : Nat} {st : List Value} {h : gm_H} {Q : gm_R → gm_H → Prop} {lv : List Value} {a j : Nat} {x : Int32} (hk : gm_kd h a = 200) (hj : j < gm_ln h a) (hl : gm_ln h a < 2 ^ 31) : gm_W E d 6 101 lv (.int x :: .int (nI j) :: .ref a :: st) h Q ↔ gm_W E d 6 102 lv st (gm_sf h a j (.int x)) Q := gw_wr m6 f6_101 rfl rfl rfl rfl rfl (gs_st hk (by decide) hj hl)
theorem f6_102 : gm_ft 6 102 = some (.aload_n 0, 1) := by decide +kernel
theorem r6_102 {E : Nat → Value} {d : Nat} {st : List Value} {h : gm_H} {Q : gm_R → gm_H → Prop} {a1 a2 a3 a4 a5 : Value} {x : Nat} : gm_W E d 6 102 [.ref x, a1, a2, a3, a4, a5] st h Q ↔ gm_W E d 6 103 [.ref x, a1, a2, a3, a4, a5] (.ref x :: st) h Q := gw_loc m6 f6_102 rfl rfl
theorem r6_102n {E : Nat → Value} {d : Nat} {st : List Value} {h : gm_H} {Q : gm_R → gm_H → Prop} {a1 a2 a3 a4 a5 : Value}  : gm_W E d 6 102 [.null, a1, a2, a3, a4, a5] st h Q ↔ gm_W E d 6 103 [.null, a1, a2, a3, a4, a5] (.null :: st) h Q := gw_loc m6 f6_102 rfl rfl
theorem f6_103 : gm_ft 6 103 = some (.getfield 16, 3) := by decide +kernel
theorem r6_103 {E : Nat → Value} {d : Nat} {st : List Value} {h : gm_H} {Q : gm_R → gm_H → Prop} {lv : List Value} {a : Nat} (hk : gm_kd h a = 5) : gm_W E d 6 103 lv (.ref a :: st) h Q ↔ gm_W E d 6 106 lv (gm_fv h a 11 :: st) h Q := gw_rd m6 f6_103 rfl rfl rfl rfl (gs_get k5_16 hk (by decide))
theorem f6_106 : gm_ft 6 106 = some (.iload_n 1, 1) := by decide +kernel
theorem r6_106 {E : Nat → Value} {d : Nat} {st : List Value} {h : gm_H} {Q : gm_R → gm_H → Prop} {a0 a2 a3 a4 a5 : Value} {x : Int32} : gm_W E d 6 106 [a0, .int x, a2, a3, a4, a5] st h Q ↔ gm_W E d 6 107 [a0, .int x, a2, a3, a4, a5] (.int x :: st) h Q := gw_loc m6 f6_106 rfl rfl
theorem f6_107 : gm_ft 6 107 = some (.lload 4, 2) := by decide +kernel
theorem r6_107 {E : Nat → Value} {d : Nat} {st : List Value} {h : gm_H} {Q : gm_R → gm_H → Prop} {a0 a1 a2 a3 a5 : Value} {x : Int64} : gm_W E d 6 107 [a0, a1, a2, a3, .long x, a5] st h Q ↔ gm_W E d 6 109 [a0, a1, a2, a3, .long x, a5] (.long x :: st) h Q := gw_loc m6 f6_107 rfl rfl
theorem f6_109 : gm_ft 6 109 = some (.lastore, 1) := by decide +kernel
theorem r6_109 {E : Nat → Value} {d : Nat} {st : List Value} {h : gm_H} {Q : gm_R → gm_H → Prop} {lv : List Value} {a j : Nat} {x : Int64} (hk : gm_kd h a = 201) (hj : j < gm_ln h a) (hl : gm_ln h a < 2 ^ 31) : gm_W E d 6 109 lv (.long x :: .int (nI j) :: .ref a :: st) h Q ↔ gm_W E d 6 110 lv st (gm_sf h a j (.long x)) Q := gw_wr m6 f6_109 rfl rfl rfl rfl rfl (gs_st hk (by decide) hj hl)
theorem f6_110 : gm_ft 6 110 = some (.iconst 0, 1) := by decide +kernel
theorem r6_110 {E : Nat → Value} {d : Nat} {st : List Value} {h : gm_H} {Q : gm_R → gm_H → Prop} {lv : List Value} : gm_W E d 6 110 lv st h Q ↔ gm_W E d 6 111 lv (.int (0 : Int32) :: st) h Q := gw_pure m6 f6_110 rfl
theorem f6_111 : gm_ft 6 111 = some (.ireturn, 1) := by decide +kernel
theorem r6_111 {E : Nat → Value} {d : Nat} {h : gm_H} {Q : gm_R → gm_H → Prop} {lv : List Value} {x : Int32} : gm_W E d 6 111 lv [.int x] h Q ↔ Q (.inl (some (.int x))) h := gw_ret m6 f6_111 rfl rfl rfl rfl rfl rfl rfl rfl (by unfold gm_rt; dsimp only; rw [if_pos ⟨rfl, rfl⟩])
/-! GraphReaderModel.field(III)I -/
theorem m7 : gm_mt[7]? = some (⟨"GraphReaderModel", "field", "(III)I"⟩, prog_7_method_6_code, 5, (some .int), [], 5, 2) := rfl
theorem f7_0 : gm_ft 7 0 = some (.aload_n 0, 1) := by decide +kernel
theorem r7_0 {E : Nat → Value} {d : Nat} {st : List Value} {h : gm_H} {Q : gm_R → gm_H → Prop} {a1 a2 a3 a4 : Value} {x : Nat} : gm_W E d 7 0 [.ref x, a1, a2, a3, a4] st h Q ↔ gm_W E d 7 1 [.ref x, a1, a2, a3, a4] (.ref x :: st) h Q := gw_loc m7 f7_0 rfl rfl
theorem r7_0n {E : Nat → Value} {d : Nat} {st : List Value} {h : gm_H} {Q : gm_R → gm_H → Prop} {a1 a2 a3 a4 : Value}  : gm_W E d 7 0 [.null, a1, a2, a3, a4] st h Q ↔ gm_W E d 7 1 [.null, a1, a2, a3, a4] (.null :: st) h Q := gw_loc m7 f7_0 rfl rfl
theorem f7_1 : gm_ft 7 1 = some (.iload_n 1, 1) := by decide +kernel
theorem r7_1 {E : Nat → Value} {d : Nat} {st : List Value} {h : gm_H} {Q : gm_R → gm_H → Prop} {a0 a2 a3 a4 : Value} {x : Int32} : gm_W E d 7 1 [a0, .int x, a2, a3, a4] st h Q ↔ gm_W E d 7 2 [a0, .int x, a2, a3, a4] (.int x :: st) h Q := gw_loc m7 f7_1 rfl rfl
theorem f7_2 : gm_ft 7 2 = some (.invokevirtual 135, 3) := by decide +kernel
theorem c7_2 {E : Nat → Value} {d : Nat} {st : List Value} {h : gm_H} {Q : gm_R → gm_H → Prop} {lv : List Value} {b0 : Int32} {a : Nat} {Qc : gm_R → gm_H → Prop} (hs : (st.map fun v => v.category).sum ≤ 8) (hr : gm_kd h a = 5) (hd : 1 ≤ d) (hc : gm_Ca E (d - 1) 5 [.ref a, .int b0] h Qc) (kn : ∀ (v9 : Option Value) (h9 : gm_H), Qc (.inl v9) h9 → gm_W E d 7 5 lv (v9.toList ++ st) h9 Q) (kx : ∀ (x9 : Nat) (h9 : gm_H), Qc (.inr x9) h9 → Q (.inr x9) h9) : gm_W E d 7 2 lv (.int b0 :: .ref a :: st) h Q := gw_call (gn_call m7 f7_2 rfl rfl rfl rfl rfl rfl rfl (gs_virt (bs := [.int b0]) (w := 824) (L := 2) rfl rfl rfl rfl hs (by simp [gm_en1]) hr (by decide)) (by decide)) m7 rfl rfl hd hc kn kx
theorem f7_5 : gm_ft 7 5 = some (.ifCond .ne 33, 3) := by decide +kernel
theorem r7_5 {E : Nat → Value} {d : Nat} {st : List Value} {h : gm_H} {Q : gm_R → gm_H → Prop} {lv : List Value} {x : Int32} : gm_W E d 7 5 lv (.int x :: st) h Q ↔ (if x = 0 then gm_W E d 7 8 lv st h Q else gm_W E d 7 38 lv st h Q) := (gw_br m7 f7_5 rfl rfl rfl rfl).trans gw_ifn
theorem f7_8 : gm_ft 7 8 = some (.aload_n 0, 1) := by decide +kernel
theorem r7_8 {E : Nat → Value} {d : Nat} {st : List Value} {h : gm_H} {Q : gm_R → gm_H → Prop} {a1 a2 a3 a4 : Value} {x : Nat} : gm_W E d 7 8 [.ref x, a1, a2, a3, a4] st h Q ↔ gm_W E d 7 9 [.ref x, a1, a2, a3, a4] (.ref x :: st) h Q := gw_loc m7 f7_8 rfl rfl
theorem r7_8n {E : Nat → Value} {d : Nat} {st : List Value} {h : gm_H} {Q : gm_R → gm_H → Prop} {a1 a2 a3 a4 : Value}  : gm_W E d 7 8 [.null, a1, a2, a3, a4] st h Q ↔ gm_W E d 7 9 [.null, a1, a2, a3, a4] (.null :: st) h Q := gw_loc m7 f7_8 rfl rfl
theorem f7_9 : gm_ft 7 9 = some (.getfield 13, 3) := by decide +kernel
theorem r7_9 {E : Nat → Value} {d : Nat} {st : List Value} {h : gm_H} {Q : gm_R → gm_H → Prop} {lv : List Value} {a : Nat} (hk : gm_kd h a = 5) : gm_W E d 7 9 lv (.ref a :: st) h Q ↔ gm_W E d 7 12 lv (gm_fv h a 10 :: st) h Q := gw_rd m7 f7_9 rfl rfl rfl rfl (gs_get k5_13 hk (by decide))
theorem f7_12 : gm_ft 7 12 = some (.iload_n 1, 1) := by decide +kernel
theorem r7_12 {E : Nat → Value} {d : Nat} {st : List Value} {h : gm_H} {Q : gm_R → gm_H → Prop} {a0 a2 a3 a4 : Value} {x : Int32} : gm_W E d 7 12 [a0, .int x, a2, a3, a4] st h Q ↔ gm_W E d 7 13 [a0, .int x, a2, a3, a4] (.int x :: st) h Q := gw_loc m7 f7_12 rfl rfl
theorem f7_13 : gm_ft 7 13 = some (.iaload, 1) := by decide +kernel
theorem r7_13 {E : Nat → Value} {d : Nat} {st : List Value} {h : gm_H} {Q : gm_R → gm_H → Prop} {lv : List Value} {a j : Nat} (hk : gm_kd h a % 100 = 0 ∧ 100 ≤ gm_kd h a ∧ gm_kd h a < 900) (hj : j < gm_ln h a) (hl : gm_ln h a < 2 ^ 31) : gm_W E d 7 13 lv (.int (nI j) :: .ref a :: st) h Q ↔ gm_W E d 7 14 lv (gm_fv h a j :: st) h Q := gw_rd m7 f7_13 rfl rfl rfl rfl (gs_ld (P := fun t => t == 0) hk.2 (by have := hk.1; simp [this] <;> omega) hj hl)
theorem f7_14 : gm_ft 7 14 = some (.iconst 3, 1) := by decide +kernel
theorem r7_14 {E : Nat → Value} {d : Nat} {st : List Value} {h : gm_H} {Q : gm_R → gm_H → Prop} {lv : List Value} : gm_W E d 7 14 lv st h Q ↔ gm_W E d 7 15 lv (.int (3 : Int32) :: st) h Q := gw_pure m7 f7_14 rfl
theorem f7_15 : gm_ft 7 15 = some (.if_icmp .eq 23, 3) := by decide +kernel
theorem r7_15 {E : Nat → Value} {d : Nat} {st : List Value} {h : gm_H} {Q : gm_R → gm_H → Prop} {lv : List Value} {x y : Int32} : gm_W E d 7 15 lv (.int y :: .int x :: st) h Q ↔ (if x = y then gm_W E d 7 38 lv st h Q else gm_W E d 7 18 lv st h Q) := (gw_br m7 f7_15 rfl rfl rfl rfl).trans gw_if
theorem f7_18 : gm_ft 7 18 = some (.aload_n 0, 1) := by decide +kernel
theorem r7_18 {E : Nat → Value} {d : Nat} {st : List Value} {h : gm_H} {Q : gm_R → gm_H → Prop} {a1 a2 a3 a4 : Value} {x : Nat} : gm_W E d 7 18 [.ref x, a1, a2, a3, a4] st h Q ↔ gm_W E d 7 19 [.ref x, a1, a2, a3, a4] (.ref x :: st) h Q := gw_loc m7 f7_18 rfl rfl
theorem r7_18n {E : Nat → Value} {d : Nat} {st : List Value} {h : gm_H} {Q : gm_R → gm_H → Prop} {a1 a2 a3 a4 : Value}  : gm_W E d 7 18 [.null, a1, a2, a3, a4] st h Q ↔ gm_W E d 7 19 [.null, a1, a2, a3, a4] (.null :: st) h Q := gw_loc m7 f7_18 rfl rfl
theorem f7_19 : gm_ft 7 19 = some (.iload_n 2, 1) := by decide +kernel
theorem r7_19 {E : Nat → Value} {d : Nat} {st : List Value} {h : gm_H} {Q : gm_R → gm_H → Prop} {a0 a1 a3 a4 : Value} {x : Int32} : gm_W E d 7 19 [a0, a1, .int x, a3, a4] st h Q ↔ gm_W E d 7 20 [a0, a1, .int x, a3, a4] (.int x :: st) h Q := gw_loc m7 f7_19 rfl rfl
theorem f7_20 : gm_ft 7 20 = some (.bipush 26, 2) := by decide +kernel
theorem r7_20 {E : Nat → Value} {d : Nat} {st : List Value} {h : gm_H} {Q : gm_R → gm_H → Prop} {lv : List Value} : gm_W E d 7 20 lv st h Q ↔ gm_W E d 7 22 lv (.int (26 : Int32) :: st) h Q := gw_pure m7 f7_20 rfl
theorem f7_22 : gm_ft 7 22 = some (.invokevirtual 131, 3) := by decide +kernel
theorem c7_22 {E : Nat → Value} {d : Nat} {st : List Value} {h : gm_H} {Q : gm_R → gm_H → Prop} {lv : List Value} {b0 : Int32} {b1 : Int32} {a : Nat} {Qc : gm_R → gm_H → Prop} (hs : (st.map fun v => v.category).sum ≤ 8) (hr : gm_kd h a = 5) (hd : 1 ≤ d) (hc : gm_Ca E (d - 1) 4 [.ref a, .int b0, .int b1] h Qc) (kn : ∀ (v9 : Option Value) (h9 : gm_H), Qc (.inl v9) h9 → gm_W E d 7 25 lv (v9.toList ++ st) h9 Q) (kx : ∀ (x9 : Nat) (h9 : gm_H), Qc (.inr x9) h9 → Q (.inr x9) h9) : gm_W E d 7 22 lv (.int b1 :: .int b0 :: .ref a :: st) h Q := gw_call (gn_call m7 f7_22 rfl rfl rfl rfl rfl rfl rfl (gs_virt (bs := [.int b1, .int b0]) (w := 820) (L := 3) rfl rfl rfl rfl hs (by simp [gm_en1]) hr (by decide)) (by decide)) m7 rfl rfl hd hc kn kx
theorem f7_25 : gm_ft 7 25 = some (.ifCond .ne 13, 3) := by decide +kernel
theorem r7_25 {E : Nat → Value} {d : Nat} {st : List Value} {h : gm_H} {Q : gm_R → gm_H → Prop} {lv : List Value} {x : Int32} : gm_W E d 7 25 lv (.int x :: st) h Q ↔ (if x = 0 then gm_W E d 7 28 lv st h Q else gm_W E d 7 38 lv st h Q) := (gw_br m7 f7_25 rfl rfl rfl rfl).trans gw_ifn
theorem f7_28 : gm_ft 7 28 = some (.aload_n 0, 1) := by decide +kernel
theorem r7_28 {E : Nat → Value} {d : Nat} {st : List Value} {h : gm_H} {Q : gm_R → gm_H → Prop} {a1 a2 a3 a4 : Value} {x : Nat} : gm_W E d 7 28 [.ref x, a1, a2, a3, a4] st h Q ↔ gm_W E d 7 29 [.ref x, a1, a2, a3, a4] (.ref x :: st) h Q := gw_loc m7 f7_28 rfl rfl
theorem r7_28n {E : Nat → Value} {d : Nat} {st : List Value} {h : gm_H} {Q : gm_R → gm_H → Prop} {a1 a2 a3 a4 : Value}  : gm_W E d 7 28 [.null, a1, a2, a3, a4] st h Q ↔ gm_W E d 7 29 [.null, a1, a2, a3, a4] (.null :: st) h Q := gw_loc m7 f7_28 rfl rfl
theorem f7_29 : gm_ft 7 29 = some (.iload_n 3, 1) := by decide +kernel
theorem r7_29 {E : Nat → Value} {d : Nat} {st : List Value} {h : gm_H} {Q : gm_R → gm_H → Prop} {a0 a1 a2 a4 : Value} {x : Int32} : gm_W E d 7 29 [a0, a1, a2, .int x, a4] st h Q ↔ gm_W E d 7 30 [a0, a1, a2, .int x, a4] (.int x :: st) h Q := gw_loc m7 f7_29 rfl rfl
theorem f7_30 : gm_ft 7 30 = some (.bipush 8, 2) := by decide +kernel
theorem r7_30 {E : Nat → Value} {d : Nat} {st : List Value} {h : gm_H} {Q : gm_R → gm_H → Prop} {lv : List Value} : gm_W E d 7 30 lv st h Q ↔ gm_W E d 7 32 lv (.int (8 : Int32) :: st) h Q := gw_pure m7 f7_30 rfl
theorem f7_32 : gm_ft 7 32 = some (.invokevirtual 131, 3) := by decide +kernel
theorem c7_32 {E : Nat → Value} {d : Nat} {st : List Value} {h : gm_H} {Q : gm_R → gm_H → Prop} {lv : List Value} {b0 : Int32} {b1 : Int32} {a : Nat} {Qc : gm_R → gm_H → Prop} (hs : (st.map fun v => v.category).sum ≤ 8) (hr : gm_kd h a = 5) (hd : 1 ≤ d) (hc : gm_Ca E (d - 1) 4 [.ref a, .int b0, .int b1] h Qc) (kn : ∀ (v9 : Option Value) (h9 : gm_H), Qc (.inl v9) h9 → gm_W E d 7 35 lv (v9.toList ++ st) h9 Q) (kx : ∀ (x9 : Nat) (h9 : gm_H), Qc (.inr x9) h9 → Q (.inr x9) h9) : gm_W E d 7 32 lv (.int b1 :: .int b0 :: .ref a :: st) h Q := gw_call (gn_call m7 f7_32 rfl rfl rfl rfl rfl rfl rfl (gs_virt (bs := [.int b1, .int b0]) (w := 820) (L := 3) rfl rfl rfl rfl hs (by simp [gm_en1]) hr (by decide)) (by decide)) m7 rfl rfl hd hc kn kx
theorem f7_35 : gm_ft 7 35 = some (.ifCond .eq 5, 3) := by decide +kernel
theorem r7_35 {E : Nat → Value} {d : Nat} {st : List Value} {h : gm_H} {Q : gm_R → gm_H → Prop} {lv : List Value} {x : Int32} : gm_W E d 7 35 lv (.int x :: st) h Q ↔ (if x = 0 then gm_W E d 7 40 lv st h Q else gm_W E d 7 38 lv st h Q) := (gw_br m7 f7_35 rfl rfl rfl rfl).trans gw_if
theorem f7_38 : gm_ft 7 38 = some (.iconst (-1), 1) := by decide +kernel
theorem r7_38 {E : Nat → Value} {d : Nat} {st : List Value} {h : gm_H} {Q : gm_R → gm_H → Prop} {lv : List Value} : gm_W E d 7 38 lv st h Q ↔ gm_W E d 7 39 lv (.int (-1 : Int32) :: st) h Q := gw_pure m7 f7_38 rfl
theorem f7_39 : gm_ft 7 39 = some (.ireturn, 1) := by decide +kernel
theorem r7_39 {E : Nat → Value} {d : Nat} {h : gm_H} {Q : gm_R → gm_H → Prop} {lv : List Value} {x : Int32} : gm_W E d 7 39 lv [.int x] h Q ↔ Q (.inl (some (.int x))) h := gw_ret m7 f7_39 rfl rfl rfl rfl rfl rfl rfl rfl (by unfold gm_rt; dsimp only; rw [if_pos ⟨rfl, rfl⟩])
theorem f7_40 : gm_ft 7 40 = some (.aload_n 0, 1) := by decide +kernel
theorem r7_40 {E : Nat → Value} {d : Nat} {st : List Value} {h : gm_H} {Q : gm_R → gm_H → Prop} {a1 a2 a3 a4 : Value} {x : Nat} : gm_W E d 7 40 [.ref x, a1, a2, a3, a4] st h Q ↔ gm_W E d 7 41 [.ref x, a1, a2, a3, a4] (.ref x :: st) h Q := gw_loc m7 f7_40 rfl rfl
theorem r7_40n {E : Nat → Value} {d : Nat} {st : List Value} {h : gm_H} {Q : gm_R → gm_H → Prop} {a1 a2 a3 a4 : Value}  : gm_W E d 7 40 [.null, a1, a2, a3, a4] st h Q ↔ gm_W E d 7 41 [.null, a1, a2, a3, a4] (.null :: st) h Q := gw_loc m7 f7_40 rfl rfl
theorem f7_41 : gm_ft 7 41 = some (.getfield 23, 3) := by decide +kernel
theorem r7_41 {E : Nat → Value} {d : Nat} {st : List Value} {h : gm_H} {Q : gm_R → gm_H → Prop} {lv : List Value} {a : Nat} (hk : gm_kd h a = 5) : gm_W E d 7 41 lv (.ref a :: st) h Q ↔ gm_W E d 7 44 lv (gm_fv h a 13 :: st) h Q := gw_rd m7 f7_41 rfl rfl rfl rfl (gs_get k5_23 hk (by decide))
theorem f7_44 : gm_ft 7 44 = some (.iload_n 1, 1) := by decide +kernel
theorem r7_44 {E : Nat → Value} {d : Nat} {st : List Value} {h : gm_H} {Q : gm_R → gm_H → Prop} {a0 a2 a3 a4 : Value} {x : Int32} : gm_W E d 7 44 [a0, .int x, a2, a3, a4] st h Q ↔ gm_W E d 7 45 [a0, .int x, a2, a3, a4] (.int x :: st) h Q := gw_loc m7 f7_44 rfl rfl
theorem f7_45 : gm_ft 7 45 = some (.iaload, 1) := by decide +kernel
theorem r7_45 {E : Nat → Value} {d : Nat} {st : List Value} {h : gm_H} {Q : gm_R → gm_H → Prop} {lv : List Value} {a j : Nat} (hk : gm_kd h a % 100 = 0 ∧ 100 ≤ gm_kd h a ∧ gm_kd h a < 900) (hj : j < gm_ln h a) (hl : gm_ln h a < 2 ^ 31) : gm_W E d 7 45 lv (.int (nI j) :: .ref a :: st) h Q ↔ gm_W E d 7 46 lv (gm_fv h a j :: st) h Q := gw_rd m7 f7_45 rfl rfl rfl rfl (gs_ld (P := fun t => t == 0) hk.2 (by have := hk.1; simp [this] <;> omega) hj hl)
theorem f7_46 : gm_ft 7 46 = some (.iconst 4, 1) := by decide +kernel
theorem r7_46 {E : Nat → Value} {d : Nat} {st : List Value} {h : gm_H} {Q : gm_R → gm_H → Prop} {lv : List Value} : gm_W E d 7 46 lv st h Q ↔ gm_W E d 7 47 lv (.int (4 : Int32) :: st) h Q := gw_pure m7 f7_46 rfl
theorem f7_47 : gm_ft 7 47 = some (.if_icmp .eq 10, 3) := by decide +kernel
theorem r7_47 {E : Nat → Value} {d : Nat} {st : List Value} {h : gm_H} {Q : gm_R → gm_H → Prop} {lv : List Value} {x y : Int32} : gm_W E d 7 47 lv (.int y :: .int x :: st) h Q ↔ (if x = y then gm_W E d 7 57 lv st h Q else gm_W E d 7 50 lv st h Q) := (gw_br m7 f7_47 rfl rfl rfl rfl).trans gw_if
theorem f7_50 : gm_ft 7 50 = some (.aload_n 0, 1) := by decide +kernel
theorem r7_50 {E : Nat → Value} {d : Nat} {st : List Value} {h : gm_H} {Q : gm_R → gm_H → Prop} {a1 a2 a3 a4 : Value} {x : Nat} : gm_W E d 7 50 [.ref x, a1, a2, a3, a4] st h Q ↔ gm_W E d 7 51 [.ref x, a1, a2, a3, a4] (.ref x :: st) h Q := gw_loc m7 f7_50 rfl rfl
theorem r7_50n {E : Nat → Value} {d : Nat} {st : List Value} {h : gm_H} {Q : gm_R → gm_H → Prop} {a1 a2 a3 a4 : Value}  : gm_W E d 7 50 [.null, a1, a2, a3, a4] st h Q ↔ gm_W E d 7 51 [.null, a1, a2, a3, a4] (.null :: st) h Q := gw_loc m7 f7_50 rfl rfl
theorem f7_51 : gm_ft 7 51 = some (.getfield 139, 3) := by decide +kernel
theorem r7_51 {E : Nat → Value} {d : Nat} {st : List Value} {h : gm_H} {Q : gm_R → gm_H → Prop} {lv : List Value} {a : Nat} (hk : gm_kd h a = 5) : gm_W E d 7 51 lv (.ref a :: st) h Q ↔ gm_W E d 7 54 lv (gm_fv h a 23 :: st) h Q := gw_rd m7 f7_51 rfl rfl rfl rfl (gs_get k5_139 hk (by decide))
theorem f7_54 : gm_ft 7 54 = some (.ifCond .le 5, 3) := by decide +kernel
theorem r7_54 {E : Nat → Value} {d : Nat} {st : List Value} {h : gm_H} {Q : gm_R → gm_H → Prop} {lv : List Value} {x : Int32} : gm_W E d 7 54 lv (.int x :: st) h Q ↔ (if x ≤ 0 then gm_W E d 7 59 lv st h Q else gm_W E d 7 57 lv st h Q) := (gw_br m7 f7_54 rfl rfl rfl rfl).trans gw_if
theorem f7_57 : gm_ft 7 57 = some (.iconst (-1), 1) := by decide +kernel
theorem r7_57 {E : Nat → Value} {d : Nat} {st : List Value} {h : gm_H} {Q : gm_R → gm_H → Prop} {lv : List Value} : gm_W E d 7 57 lv st h Q ↔ gm_W E d 7 58 lv (.int (-1 : Int32) :: st) h Q := gw_pure m7 f7_57 rfl
theorem f7_58 : gm_ft 7 58 = some (.ireturn, 1) := by decide +kernel
theorem r7_58 {E : Nat → Value} {d : Nat} {h : gm_H} {Q : gm_R → gm_H → Prop} {lv : List Value} {x : Int32} : gm_W E d 7 58 lv [.int x] h Q ↔ Q (.inl (some (.int x))) h := gw_ret m7 f7_58 rfl rfl rfl rfl rfl rfl rfl rfl (by unfold gm_rt; dsimp only; rw [if_pos ⟨rfl, rfl⟩])
theorem f7_59 : gm_ft 7 59 = some (.iconst 0, 1) := by decide +kernel
theorem r7_59 {E : Nat → Value} {d : Nat} {st : List Value} {h : gm_H} {Q : gm_R → gm_H → Prop} {lv : List Value} : gm_W E d 7 59 lv st h Q ↔ gm_W E d 7 60 lv (.int (0 : Int32) :: st) h Q := gw_pure m7 f7_59 rfl
theorem f7_60 : gm_ft 7 60 = some (.istore 4, 2) := by decide +kernel
theorem r7_60 {E : Nat → Value} {d : Nat} {st : List Value} {h : gm_H} {Q : gm_R → gm_H → Prop} {a0 a1 a2 a3 a4 : Value} {x : Int32} : gm_W E d 7 60 [a0, a1, a2, a3, a4] (.int x :: st) h Q ↔ gm_W E d 7 62 [a0, a1, a2, gm_k a3, .int x] st h Q := gw_loc m7 f7_60 rfl rfl
theorem f7_62 : gm_ft 7 62 = some (.iload 4, 2) := by decide +kernel
theorem r7_62 {E : Nat → Value} {d : Nat} {st : List Value} {h : gm_H} {Q : gm_R → gm_H → Prop} {a0 a1 a2 a3 : Value} {x : Int32} : gm_W E d 7 62 [a0, a1, a2, a3, .int x] st h Q ↔ gm_W E d 7 64 [a0, a1, a2, a3, .int x] (.int x :: st) h Q := gw_loc m7 f7_62 rfl rfl
theorem f7_64 : gm_ft 7 64 = some (.aload_n 0, 1) := by decide +kernel
theorem r7_64 {E : Nat → Value} {d : Nat} {st : List Value} {h : gm_H} {Q : gm_R → gm_H → Prop} {a1 a2 a3 a4 : Value} {x : Nat} : gm_W E d 7 64 [.ref x, a1, a2, a3, a4] st h Q ↔ gm_W E d 7 65 [.ref x, a1, a2, a3, a4] (.ref x :: st) h Q := gw_loc m7 f7_64 rfl rfl
theorem r7_64n {E : Nat → Value} {d : Nat} {st : List Value} {h : gm_H} {Q : gm_R → gm_H → Prop} {a1 a2 a3 a4 : Value}  : gm_W E d 7 64 [.null, a1, a2, a3, a4] st h Q ↔ gm_W E d 7 65 [.null, a1, a2, a3, a4] (.null :: st) h Q := gw_loc m7 f7_64 rfl rfl
theorem f7_65 : gm_ft 7 65 = some (.getfield 23, 3) := by decide +kernel
theorem r7_65 {E : Nat → Value} {d : Nat} {st : List Value} {h : gm_H} {Q : gm_R → gm_H → Prop} {lv : List Value} {a : Nat} (hk : gm_kd h a = 5) : gm_W E d 7 65 lv (.ref a :: st) h Q ↔ gm_W E d 7 68 lv (gm_fv h a 13 :: st) h Q := gw_rd m7 f7_65 rfl rfl rfl rfl (gs_get k5_23 hk (by decide))
theorem f7_68 : gm_ft 7 68 = some (.iload_n 1, 1) := by decide +kernel
theorem r7_68 {E : Nat → Value} {d : Nat} {st : List Value} {h : gm_H} {Q : gm_R → gm_H → Prop} {a0 a2 a3 a4 : Value} {x : Int32} : gm_W E d 7 68 [a0, .int x, a2, a3, a4] st h Q ↔ gm_W E d 7 69 [a0, .int x, a2, a3, a4] (.int x :: st) h Q := gw_loc m7 f7_68 rfl rfl
theorem f7_69 : gm_ft 7 69 = some (.iaload, 1) := by decide +kernel
theorem r7_69 {E : Nat → Value} {d : Nat} {st : List Value} {h : gm_H} {Q : gm_R → gm_H → Prop} {lv : List Value} {a j : Nat} (hk : gm_kd h a % 100 = 0 ∧ 100 ≤ gm_kd h a ∧ gm_kd h a < 900) (hj : j < gm_ln h a) (hl : gm_ln h a < 2 ^ 31) : gm_W E d 7 69 lv (.int (nI j) :: .ref a :: st) h Q ↔ gm_W E d 7 70 lv (gm_fv h a j :: st) h Q := gw_rd m7 f7_69 rfl rfl rfl rfl (gs_ld (P := fun t => t == 0) hk.2 (by have := hk.1; simp [this] <;> omega) hj hl)
theorem f7_70 : gm_ft 7 70 = some (.if_icmp .ge 26, 3) := by decide +kernel
theorem r7_70 {E : Nat → Value} {d : Nat} {st : List Value} {h : gm_H} {Q : gm_R → gm_H → Prop} {lv : List Value} {x y : Int32} : gm_W E d 7 70 lv (.int y :: .int x :: st) h Q ↔ (if y ≤ x then gm_W E d 7 96 lv st h Q else gm_W E d 7 73 lv st h Q) := (gw_br m7 f7_70 rfl rfl rfl rfl).trans gw_if
theorem f7_73 : gm_ft 7 73 = some (.aload_n 0, 1) := by decide +kernel
theorem r7_73 {E : Nat → Value} {d : Nat} {st : List Value} {h : gm_H} {Q : gm_R → gm_H → Prop} {a1 a2 a3 a4 : Value} {x : Nat} : gm_W E d 7 73 [.ref x, a1, a2, a3, a4] st h Q ↔ gm_W E d 7 74 [.ref x, a1, a2, a3, a4] (.ref x :: st) h Q := gw_loc m7 f7_73 rfl rfl
theorem r7_73n {E : Nat → Value} {d : Nat} {st : List Value} {h : gm_H} {Q : gm_R → gm_H → Prop} {a1 a2 a3 a4 : Value}  : gm_W E d 7 73 [.null, a1, a2, a3, a4] st h Q ↔ gm_W E d 7 74 [.null, a1, a2, a3, a4] (.null :: st) h Q := gw_loc m7 f7_73 rfl rfl
theorem f7_74 : gm_ft 7 74 = some (.getfield 26, 3) := by decide +kernel
theorem r7_74 {E : Nat → Value} {d : Nat} {st : List Value} {h : gm_H} {Q : gm_R → gm_H → Prop} {lv : List Value} {a : Nat} (hk : gm_kd h a = 5) : gm_W E d 7 74 lv (.ref a :: st) h Q ↔ gm_W E d 7 77 lv (gm_fv h a 14 :: st) h Q := gw_rd m7 f7_74 rfl rfl rfl rfl (gs_get k5_26 hk (by decide))
theorem f7_77 : gm_ft 7 77 = some (.iconst 4, 1) := by decide +kernel
theorem r7_77 {E : Nat → Value} {d : Nat} {st : List Value} {h : gm_H} {Q : gm_R → gm_H → Prop} {lv : List Value} : gm_W E d 7 77 lv st h Q ↔ gm_W E d 7 78 lv (.int (4 : Int32) :: st) h Q := gw_pure m7 f7_77 rfl
theorem f7_78 : gm_ft 7 78 = some (.iload_n 1, 1) := by decide +kernel
theorem r7_78 {E : Nat → Value} {d : Nat} {st : List Value} {h : gm_H} {Q : gm_R → gm_H → Prop} {a0 a2 a3 a4 : Value} {x : Int32} : gm_W E d 7 78 [a0, .int x, a2, a3, a4] st h Q ↔ gm_W E d 7 79 [a0, .int x, a2, a3, a4] (.int x :: st) h Q := gw_loc m7 f7_78 rfl rfl
theorem f7_79 : gm_ft 7 79 = some (.imul, 1) := by decide +kernel
theorem r7_79 {E : Nat → Value} {d : Nat} {st : List Value} {h : gm_H} {Q : gm_R → gm_H → Prop} {lv : List Value} {x y : Int32} : gm_W E d 7 79 lv (.int y :: .int x :: st) h Q ↔ gm_W E d 7 80 lv (.int (x * y) :: st) h Q := gw_pure m7 f7_79 rfl
theorem f7_80 : gm_ft 7 80 = some (.iload 4, 2) := by decide +kernel
theorem r7_80 {E : Nat → Value} {d : Nat} {st : List Value} {h : gm_H} {Q : gm_R → gm_H → Prop} {a0 a1 a2 a3 : Value} {x : Int32} : gm_W E d 7 80 [a0, a1, a2, a3, .int x] st h Q ↔ gm_W E d 7 82 [a0, a1, a2, a3, .int x] (.int x :: st) h Q := gw_loc m7 f7_80 rfl rfl
theorem f7_82 : gm_ft 7 82 = some (.iadd, 1) := by decide +kernel
theorem r7_82 {E : Nat → Value} {d : Nat} {st : List Value} {h : gm_H} {Q : gm_R → gm_H → Prop} {lv : List Value} {x y : Int32} : gm_W E d 7 82 lv (.int y :: .int x :: st) h Q ↔ gm_W E d 7 83 lv (.int (x + y) :: st) h Q := gw_pure m7 f7_82 rfl
theorem f7_83 : gm_ft 7 83 = some (.iaload, 1) := by decide +kernel
theorem r7_83 {E : Nat → Value} {d : Nat} {st : List Value} {h : gm_H} {Q : gm_R → gm_H → Prop} {lv : List Value} {a j : Nat} (hk : gm_kd h a % 100 = 0 ∧ 100 ≤ gm_kd h a ∧ gm_kd h a < 900) (hj : j < gm_ln h a) (hl : gm_ln h a < 2 ^ 31) : gm_W E d 7 83 lv (.int (nI j) :: .ref a :: st) h Q ↔ gm_W E d 7 84 lv (gm_fv h a j :: st) h Q := gw_rd m7 f7_83 rfl rfl rfl rfl (gs_ld (P := fun t => t == 0) hk.2 (by have := hk.1; simp [this] <;> omega) hj hl)
theorem f7_84 : gm_ft 7 84 = some (.iload_n 2, 1) := by decide +kernel
theorem r7_84 {E : Nat → Value} {d : Nat} {st : List Value} {h : gm_H} {Q : gm_R → gm_H → Prop} {a0 a1 a3 a4 : Value} {x : Int32} : gm_W E d 7 84 [a0, a1, .int x, a3, a4] st h Q ↔ gm_W E d 7 85 [a0, a1, .int x, a3, a4] (.int x :: st) h Q := gw_loc m7 f7_84 rfl rfl
theorem f7_85 : gm_ft 7 85 = some (.if_icmp .ne 5, 3) := by decide +kernel
theorem r7_85 {E : Nat → Value} {d : Nat} {st : List Value} {h : gm_H} {Q : gm_R → gm_H → Prop} {lv : List Value} {x y : Int32} : gm_W E d 7 85 lv (.int y :: .int x :: st) h Q ↔ (if x = y then gm_W E d 7 88 lv st h Q else gm_W E d 7 90 lv st h Q) := (gw_br m7 f7_85 rfl rfl rfl rfl).trans gw_ifn
theorem f7_88 : gm_ft 7 88 = some (.iconst (-1), 1) := by decide +kernel
theorem r7_88 {E : Nat → Value} {d : Nat} {st : List Value} {h : gm_H} {Q : gm_R → gm_H → Prop} {lv : List Value} : gm_W E d 7 88 lv st h Q ↔ gm_W E d 7 89 lv (.int (-1 : Int32) :: st) h Q := gw_pure m7 f7_88 rfl
theorem f7_89 : gm_ft 7 89 = some (.ireturn, 1) := by decide +kernel
theorem r7_89 {E : Nat → Value} {d : Nat} {h : gm_H} {Q : gm_R → gm_H → Prop} {lv : List Value} {x : Int32} : gm_W E d 7 89 lv [.int x] h Q ↔ Q (.inl (some (.int x))) h := gw_ret m7 f7_89 rfl rfl rfl rfl rfl rfl rfl rfl (by unfold gm_rt; dsimp only; rw [if_pos ⟨rfl, rfl⟩])
theorem f7_90 : gm_ft 7 90 = some (.iinc 4 1, 3) := by decide +kernel
theorem r7_90 {E : Nat → Value} {d : Nat} {st : List Value} {h : gm_H} {Q : gm_R → gm_H → Prop} {a0 a1 a2 a3 : Value} {x : Int32} : gm_W E d 7 90 [a0, a1, a2, a3, .int x] st h Q ↔ gm_W E d 7 93 [a0, a1, a2, gm_k a3, .int (x + (1 : Int32))] st h Q := gw_loc m7 f7_90 rfl rfl
theorem f7_93 : gm_ft 7 93 = some (.goto (-31), 3) := by decide +kernel
theorem r7_93 {E : Nat → Value} {d : Nat} {st : List Value} {h : gm_H} {Q : gm_R → gm_H → Prop} {lv : List Value} : gm_W E d 7 93 lv st h Q ↔ gm_W E d 7 62 lv st h Q := gw_brT m7 f7_93 rfl rfl rfl rfl
theorem f7_96 : gm_ft 7 96 = some (.aload_n 0, 1) := by decide +kernel
theorem r7_96 {E : Nat → Value} {d : Nat} {st : List Value} {h : gm_H} {Q : gm_R → gm_H → Prop} {a1 a2 a3 a4 : Value} {x : Nat} : gm_W E d 7 96 [.ref x, a1, a2, a3, a4] st h Q ↔ gm_W E d 7 97 [.ref x, a1, a2, a3, a4] (.ref x :: st) h Q := gw_loc m7 f7_96 rfl rfl
theorem r7_96n {E : Nat → Value} {d : Nat} {st : List Value} {h : gm_H} {Q : gm_R → gm_H → Prop} {a1 a2 a3 a4 : Value}  : gm_W E d 7 96 [.null, a1, a2, a3, a4] st h Q ↔ gm_W E d 7 97 [.null, a1, a2, a3, a4] (.null :: st) h Q := gw_loc m7 f7_96 rfl rfl
theorem f7_97 : gm_ft 7 97 = some (.getfield 26, 3) := by decide +kernel
theorem r7_97 {E : Nat → Value} {d : Nat} {st : List Value} {h : gm_H} {Q : gm_R → gm_H → Prop} {lv : List Value} {a : Nat} (hk : gm_kd h a = 5) : gm_W E d 7 97 lv (.ref a :: st) h Q ↔ gm_W E d 7 100 lv (gm_fv h a 14 :: st) h Q := gw_rd m7 f7_97 rfl rfl rfl rfl (gs_get k5_26 hk (by decide))
theorem f7_100 : gm_ft 7 100 = some (.iconst 4, 1) := by decide +kernel
theorem r7_100 {E : Nat → Value} {d : Nat} {st : List Value} {h : gm_H} {Q : gm_R → gm_H → Prop} {lv : List Value} : gm_W E d 7 100 lv st h Q ↔ gm_W E d 7 101 lv (.int (4 : Int32) :: st) h Q := gw_pure m7 f7_100 rfl
theorem f7_101 : gm_ft 7 101 = some (.iload_n 1, 1) := by decide +kernel
theorem r7_101 {E : Nat → Value} {d : Nat} {st : List Value} {h : gm_H} {Q : gm_R → gm_H → Prop} {a0 a2 a3 a4 : Value} {x : Int32} : gm_W E d 7 101 [a0, .int x, a2, a3, a4] st h Q ↔ gm_W E d 7 102 [a0, .int x, a2, a3, a4] (.int x :: st) h Q := gw_loc m7 f7_101 rfl rfl
theorem f7_102 : gm_ft 7 102 = some (.imul, 1) := by decide +kernel
theorem r7_102 {E : Nat → Value} {d : Nat} {st : List Value} {h : gm_H} {Q : gm_R → gm_H → Prop} {lv : List Value} {x y : Int32} : gm_W E d 7 102 lv (.int y :: .int x :: st) h Q ↔ gm_W E d 7 103 lv (.int (x * y) :: st) h Q := gw_pure m7 f7_102 rfl
theorem f7_103 : gm_ft 7 103 = some (.aload_n 0, 1) := by decide +kernel
theorem r7_103 {E : Nat → Value} {d : Nat} {st : List Value} {h : gm_H} {Q : gm_R → gm_H → Prop} {a1 a2 a3 a4 : Value} {x : Nat} : gm_W E d 7 103 [.ref x, a1, a2, a3, a4] st h Q ↔ gm_W E d 7 104 [.ref x, a1, a2, a3, a4] (.ref x :: st) h Q := gw_loc m7 f7_103 rfl rfl
theorem r7_103n {E : Nat → Value} {d : Nat} {st : List Value} {h : gm_H} {Q : gm_R → gm_H → Prop} {a1 a2 a3 a4 : Value}  : gm_W E d 7 103 [.null, a1, a2, a3, a4] st h Q ↔ gm_W E d 7 104 [.null, a1, a2, a3, a4] (.null :: st) h Q := gw_loc m7 f7_103 rfl rfl
theorem f7_104 : gm_ft 7 104 = some (.getfield 23, 3) := by decide +kernel
theorem r7_104 {E : Nat → Value} {d : Nat} {st : List Value} {h : gm_H} {Q : gm_R → gm_H → Prop} {lv : List Value} {a : Nat} (hk : gm_kd h a = 5) : gm_W E d 7 104 lv (.ref a :: st) h Q ↔ gm_W E d 7 107 lv (gm_fv h a 13 :: st) h Q := gw_rd m7 f7_104 rfl rfl rfl rfl (gs_get k5_23 hk (by decide))
theorem f7_107 : gm_ft 7 107 = some (.iload_n 1, 1) := by decide +kernel
theorem r7_107 {E : Nat → Value} {d : Nat} {st : List Value} {h : gm_H} {Q : gm_R → gm_H → Prop} {a0 a2 a3 a4 : Value} {x : Int32} : gm_W E d 7 107 [a0, .int x, a2, a3, a4] st h Q ↔ gm_W E d 7 108 [a0, .int x, a2, a3, a4] (.int x :: st) h Q := gw_loc m7 f7_107 rfl rfl
theorem f7_108 : gm_ft 7 108 = some (.iaload, 1) := by decide +kernel
theorem r7_108 {E : Nat → Value} {d : Nat} {st : List Value} {h : gm_H} {Q : gm_R → gm_H → Prop} {lv : List Value} {a j : Nat} (hk : gm_kd h a % 100 = 0 ∧ 100 ≤ gm_kd h a ∧ gm_kd h a < 900) (hj : j < gm_ln h a) (hl : gm_ln h a < 2 ^ 31) : gm_W E d 7 108 lv (.int (nI j) :: .ref a :: st) h Q ↔ gm_W E d 7 109 lv (gm_fv h a j :: st) h Q := gw_rd m7 f7_108 rfl rfl rfl rfl (gs_ld (P := fun t => t == 0) hk.2 (by have := hk.1; simp [this] <;> omega) hj hl)
theorem f7_109 : gm_ft 7 109 = some (.iadd, 1) := by decide +kernel
theorem r7_109 {E : Nat → Value} {d : Nat} {st : List Value} {h : gm_H} {Q : gm_R → gm_H → Prop} {lv : List Value} {x y : Int32} : gm_W E d 7 109 lv (.int y :: .int x :: st) h Q ↔ gm_W E d 7 110 lv (.int (x + y) :: st) h Q := gw_pure m7 f7_109 rfl
theorem f7_110 : gm_ft 7 110 = some (.iload_n 2, 1) := by decide +kernel
theorem r7_110 {E : Nat → Value} {d : Nat} {st : List Value} {h : gm_H} {Q : gm_R → gm_H → Prop} {a0 a1 a3 a4 : Value} {x : Int32} : gm_W E d 7 110 [a0, a1, .int x, a3, a4] st h Q ↔ gm_W E d 7 111 [a0, a1, .int x, a3, a4] (.int x :: st) h Q := gw_loc m7 f7_110 rfl rfl
theorem f7_111 : gm_ft 7 111 = some (.iastore, 1) := by decide +kernel
theorem r7_111 {E : Nat → Value} {d : Nat} {st : List Value} {h : gm_H} {Q : gm_R → gm_H → Prop} {lv : List Value} {a j : Nat} {x : Int32} (hk : gm_kd h a = 200) (hj : j < gm_ln h a) (hl : gm_ln h a < 2 ^ 31) : gm_W E d 7 111 lv (.int x :: .int (nI j) :: .ref a :: st) h Q ↔ gm_W E d 7 112 lv st (gm_sf h a j (.int x)) Q := gw_wr m7 f7_111 rfl rfl rfl rfl rfl (gs_st hk (by decide) hj hl)
theorem f7_112 : gm_ft 7 112 = some (.aload_n 0, 1) := by decide +kernel
theorem r7_112 {E : Nat → Value} {d : Nat} {st : List Value} {h : gm_H} {Q : gm_R → gm_H → Prop} {a1 a2 a3 a4 : Value} {x : Nat} : gm_W E d 7 112 [.ref x, a1, a2, a3, a4] st h Q ↔ gm_W E d 7 113 [.ref x, a1, a2, a3, a4] (.ref x :: st) h Q := gw_loc m7 f7_112 rfl rfl
theorem r7_112n {E : Nat → Value} {d : Nat} {st : List Value} {h : gm_H} {Q : gm_R → gm_H → Prop} {a1 a2 a3 a4 : Value}  : gm_W E d 7 112 [.null, a1, a2, a3, a4] st h Q ↔ gm_W E d 7 113 [.null, a1, a2, a3, a4] (.null :: st) h Q := gw_loc m7 f7_112 rfl rfl
theorem f7_113 : gm_ft 7 113 = some (.getfield 29, 3) := by decide +kernel
theorem r7_113 {E : Nat → Value} {d : Nat} {st : List Value} {h : gm_H} {Q : gm_R → gm_H → Prop} {lv : List Value} {a : Nat} (hk : gm_kd h a = 5) : gm_W E d 7 113 lv (.ref a :: st) h Q ↔ gm_W E d 7 116 lv (gm_fv h a 15 :: st) h Q := gw_rd m7 f7_113 rfl rfl rfl rfl (gs_get k5_29 hk (by decide))
theorem f7_116 : gm_ft 7 116 = some (.iconst 4, 1) := by decide +kernel
theorem r7_116 {E : Nat → Value} {d : Nat} {st : List Value} {h : gm_H} {Q : gm_R → gm_H → Prop} {lv : List Value} : gm_W E d 7 116 lv st h Q ↔ gm_W E d 7 117 lv (.int (4 : Int32) :: st) h Q := gw_pure m7 f7_116 rfl
theorem f7_117 : gm_ft 7 117 = some (.iload_n 1, 1) := by decide +kernel
theorem r7_117 {E : Nat → Value} {d : Nat} {st : List Value} {h : gm_H} {Q : gm_R → gm_H → Prop} {a0 a2 a3 a4 : Value} {x : Int32} : gm_W E d 7 117 [a0, .int x, a2, a3, a4] st h Q ↔ gm_W E d 7 118 [a0, .int x, a2, a3, a4] (.int x :: st) h Q := gw_loc m7 f7_117 rfl rfl
theorem f7_118 : gm_ft 7 118 = some (.imul, 1) := by decide +kernel
theorem r7_118 {E : Nat → Value} {d : Nat} {st : List Value} {h : gm_H} {Q : gm_R → gm_H → Prop} {lv : List Value} {x y : Int32} : gm_W E d 7 118 lv (.int y :: .int x :: st) h Q ↔ gm_W E d 7 119 lv (.int (x * y) :: st) h Q := gw_pure m7 f7_118 rfl
theorem f7_119 : gm_ft 7 119 = some (.aload_n 0, 1) := by decide +kernel
theorem r7_119 {E : Nat → Value} {d : Nat} {st : List Value} {h : gm_H} {Q : gm_R → gm_H → Prop} {a1 a2 a3 a4 : Value} {x : Nat} : gm_W E d 7 119 [.ref x, a1, a2, a3, a4] st h Q ↔ gm_W E d 7 120 [.ref x, a1, a2, a3, a4] (.ref x :: st) h Q := gw_loc m7 f7_119 rfl rfl
theorem r7_119n {E : Nat → Value} {d : Nat} {st : List Value} {h : gm_H} {Q : gm_R → gm_H → Prop} {a1 a2 a3 a4 : Value}  : gm_W E d 7 119 [.null, a1, a2, a3, a4] st h Q ↔ gm_W E d 7 120 [.null, a1, a2, a3, a4] (.null :: st) h Q := gw_loc m7 f7_119 rfl rfl
theorem f7_120 : gm_ft 7 120 = some (.getfield 23, 3) := by decide +kernel
theorem r7_120 {E : Nat → Value} {d : Nat} {st : List Value} {h : gm_H} {Q : gm_R → gm_H → Prop} {lv : List Value} {a : Nat} (hk : gm_kd h a = 5) : gm_W E d 7 120 lv (.ref a :: st) h Q ↔ gm_W E d 7 123 lv (gm_fv h a 13 :: st) h Q := gw_rd m7 f7_120 rfl rfl rfl rfl (gs_get k5_23 hk (by decide))
theorem f7_123 : gm_ft 7 123 = some (.iload_n 1, 1) := by decide +kernel
theorem r7_123 {E : Nat → Value} {d : Nat} {st : List Value} {h : gm_H} {Q : gm_R → gm_H → Prop} {a0 a2 a3 a4 : Value} {x : Int32} : gm_W E d 7 123 [a0, .int x, a2, a3, a4] st h Q ↔ gm_W E d 7 124 [a0, .int x, a2, a3, a4] (.int x :: st) h Q := gw_loc m7 f7_123 rfl rfl
theorem f7_124 : gm_ft 7 124 = some (.iaload, 1) := by decide +kernel
theorem r7_124 {E : Nat → Value} {d : Nat} {st : List Value} {h : gm_H} {Q : gm_R → gm_H → Prop} {lv : List Value} {a j : Nat} (hk : gm_kd h a % 100 = 0 ∧ 100 ≤ gm_kd h a ∧ gm_kd h a < 900) (hj : j < gm_ln h a) (hl : gm_ln h a < 2 ^ 31) : gm_W E d 7 124 lv (.int (nI j) :: .ref a :: st) h Q ↔ gm_W E d 7 125 lv (gm_fv h a j :: st) h Q := gw_rd m7 f7_124 rfl rfl rfl rfl (gs_ld (P := fun t => t == 0) hk.2 (by have := hk.1; simp [this] <;> omega) hj hl)
theorem f7_125 : gm_ft 7 125 = some (.iadd, 1) := by decide +kernel
theorem r7_125 {E : Nat → Value} {d : Nat} {st : List Value} {h : gm_H} {Q : gm_R → gm_H → Prop} {lv : List Value} {x y : Int32} : gm_W E d 7 125 lv (.int y :: .int x :: st) h Q ↔ gm_W E d 7 126 lv (.int (x + y) :: st) h Q := gw_pure m7 f7_125 rfl
theorem f7_126 : gm_ft 7 126 = some (.iload_n 3, 1) := by decide +kernel
theorem r7_126 {E : Nat → Value} {d : Nat} {st : List Value} {h : gm_H} {Q : gm_R → gm_H → Prop} {a0 a1 a2 a4 : Value} {x : Int32} : gm_W E d 7 126 [a0, a1, a2, .int x, a4] st h Q ↔ gm_W E d 7 127 [a0, a1, a2, .int x, a4] (.int x :: st) h Q := gw_loc m7 f7_126 rfl rfl
theorem f7_127 : gm_ft 7 127 = some (.iastore, 1) := by decide +kernel
theorem r7_127 {E : Nat → Value} {d : Nat} {st : List Value} {h : gm_H} {Q : gm_R → gm_H → Prop} {lv : List Value} {a j : Nat} {x : Int32} (hk : gm_kd h a = 200) (hj : j < gm_ln h a) (hl : gm_ln h a < 2 ^ 31) : gm_W E d 7 127 lv (.int x :: .int (nI j) :: .ref a :: st) h Q ↔ gm_W E d 7 128 lv st (gm_sf h a j (.int x)) Q := gw_wr m7 f7_127 rfl rfl rfl rfl rfl (gs_st hk (by decide) hj hl)
theorem f7_128 : gm_ft 7 128 = some (.aload_n 0, 1) := by decide +kernel
theorem r7_128 {E : Nat → Value} {d : Nat} {st : List Value} {h : gm_H} {Q : gm_R → gm_H → Prop} {a1 a2 a3 a4 : Value} {x : Nat} : gm_W E d 7 128 [.ref x, a1, a2, a3, a4] st h Q ↔ gm_W E d 7 129 [.ref x, a1, a2, a3, a4] (.ref x :: st) h Q := gw_loc m7 f7_128 rfl rfl
theorem r7_128n {E : Nat → Value} {d : Nat} {st : List Value} {h : gm_H} {Q : gm_R → gm_H → Prop} {a1 a2 a3 a4 : Value}  : gm_W E d 7 128 [.null, a1, a2, a3, a4] st h Q ↔ gm_W E d 7 129 [.null, a1, a2, a3, a4] (.null :: st) h Q := gw_loc m7 f7_128 rfl rfl
theorem f7_129 : gm_ft 7 129 = some (.getfield 23, 3) := by decide +kernel
theorem r7_129 {E : Nat → Value} {d : Nat} {st : List Value} {h : gm_H} {Q : gm_R → gm_H → Prop} {lv : List Value} {a : Nat} (hk : gm_kd h a = 5) : gm_W E d 7 129 lv (.ref a :: st) h Q ↔ gm_W E d 7 132 lv (gm_fv h a 13 :: st) h Q := gw_rd m7 f7_129 rfl rfl rfl rfl (gs_get k5_23 hk (by decide))
theorem f7_132 : gm_ft 7 132 = some (.iload_n 1, 1) := by decide +kernel
theorem r7_132 {E : Nat → Value} {d : Nat} {st : List Value} {h : gm_H} {Q : gm_R → gm_H → Prop} {a0 a2 a3 a4 : Value} {x : Int32} : gm_W E d 7 132 [a0, .int x, a2, a3, a4] st h Q ↔ gm_W E d 7 133 [a0, .int x, a2, a3, a4] (.int x :: st) h Q := gw_loc m7 f7_132 rfl rfl
theorem f7_133 : gm_ft 7 133 = some (.dup2, 1) := by decide +kernel
theorem r7_133 {E : Nat → Value} {d : Nat} {st : List Value} {h : gm_H} {Q : gm_R → gm_H → Prop} {lv : List Value} {x : Int32} {a : Nat} : gm_W E d 7 133 lv (.int x :: .ref a :: st) h Q ↔ gm_W E d 7 134 lv (.int x :: .ref a :: .int x :: .ref a :: st) h Q := gw_pure m7 f7_133 rfl
theorem f7_134 : gm_ft 7 134 = some (.iaload, 1) := by decide +kernel
theorem r7_134 {E : Nat → Value} {d : Nat} {st : List Value} {h : gm_H} {Q : gm_R → gm_H → Prop} {lv : List Value} {a j : Nat} (hk : gm_kd h a % 100 = 0 ∧ 100 ≤ gm_kd h a ∧ gm_kd h a < 900) (hj : j < gm_ln h a) (hl : gm_ln h a < 2 ^ 31) : gm_W E d 7 134 lv (.int (nI j) :: .ref a :: st) h Q ↔ gm_W E d 7 135 lv (gm_fv h a j :: st) h Q := gw_rd m7 f7_134 rfl rfl rfl rfl (gs_ld (P := fun t => t == 0) hk.2 (by have := hk.1; simp [this] <;> omega) hj hl)
theorem f7_135 : gm_ft 7 135 = some (.iconst 1, 1) := by decide +kernel
theorem r7_135 {E : Nat → Value} {d : Nat} {st : List Value} {h : gm_H} {Q : gm_R → gm_H → Prop} {lv : List Value} : gm_W E d 7 135 lv st h Q ↔ gm_W E d 7 136 lv (.int (1 : Int32) :: st) h Q := gw_pure m7 f7_135 rfl
theorem f7_136 : gm_ft 7 136 = some (.iadd, 1) := by decide +kernel
theorem r7_136 {E : Nat → Value} {d : Nat} {st : List Value} {h : gm_H} {Q : gm_R → gm_H → Prop} {lv : List Value} {x y : Int32} : gm_W E d 7 136 lv (.int y :: .int x :: st) h Q ↔ gm_W E d 7 137 lv (.int (x + y) :: st) h Q := gw_pure m7 f7_136 rfl
theorem f7_137 : gm_ft 7 137 = some (.iastore, 1) := by decide +kernel
theorem r7_137 {E : Nat → Value} {d : Nat} {st : List Value} {h : gm_H} {Q : gm_R → gm_H → Prop} {lv : List Value} {a j : Nat} {x : Int32} (hk : gm_kd h a = 200) (hj : j < gm_ln h a) (hl : gm_ln h a < 2 ^ 31) : gm_W E d 7 137 lv (.int x :: .int (nI j) :: .ref a :: st) h Q ↔ gm_W E d 7 138 lv st (gm_sf h a j (.int x)) Q := gw_wr m7 f7_137 rfl rfl rfl rfl rfl (gs_st hk (by decide) hj hl)
theorem f7_138 : gm_ft 7 138 = some (.aload_n 0, 1) := by decide +kernel
theorem r7_138 {E : Nat → Value} {d : Nat} {st : List Value} {h : gm_H} {Q : gm_R → gm_H → Prop} {a1 a2 a3 a4 : Value} {x : Nat} : gm_W E d 7 138 [.ref x, a1, a2, a3, a4] st h Q ↔ gm_W E d 7 139 [.ref x, a1, a2, a3, a4] (.ref x :: st) h Q := gw_loc m7 f7_138 rfl rfl
theorem r7_138n {E : Nat → Value} {d : Nat} {st : List Value} {h : gm_H} {Q : gm_R → gm_H → Prop} {a1 a2 a3 a4 : Value}  : gm_W E d 7 138 [.null, a1, a2, a3, a4] st h Q ↔ gm_W E d 7 139 [.null, a1, a2, a3, a4] (.null :: st) h Q := gw_loc m7 f7_138 rfl rfl
theorem f7_139 : gm_ft 7 139 = some (.getfield 23, 3) := by decide +kernel
theorem r7_139 {E : Nat → Value} {d : Nat} {st : List Value} {h : gm_H} {Q : gm_R → gm_H → Prop} {lv : List Value} {a : Nat} (hk : gm_kd h a = 5) : gm_W E d 7 139 lv (.ref a :: st) h Q ↔ gm_W E d 7 142 lv (gm_fv h a 13 :: st) h Q := gw_rd m7 f7_139 rfl rfl rfl rfl (gs_get k5_23 hk (by decide))
theorem f7_142 : gm_ft 7 142 = some (.iload_n 1, 1) := by decide +kernel
theorem r7_142 {E : Nat → Value} {d : Nat} {st : List Value} {h : gm_H} {Q : gm_R → gm_H → Prop} {a0 a2 a3 a4 : Value} {x : Int32} : gm_W E d 7 142 [a0, .int x, a2, a3, a4] st h Q ↔ gm_W E d 7 143 [a0, .int x, a2, a3, a4] (.int x :: st) h Q := gw_loc m7 f7_142 rfl rfl
theorem f7_143 : gm_ft 7 143 = some (.iaload, 1) := by decide +kernel
theorem r7_143 {E : Nat → Value} {d : Nat} {st : List Value} {h : gm_H} {Q : gm_R → gm_H → Prop} {lv : List Value} {a j : Nat} (hk : gm_kd h a % 100 = 0 ∧ 100 ≤ gm_kd h a ∧ gm_kd h a < 900) (hj : j < gm_ln h a) (hl : gm_ln h a < 2 ^ 31) : gm_W E d 7 143 lv (.int (nI j) :: .ref a :: st) h Q ↔ gm_W E d 7 144 lv (gm_fv h a j :: st) h Q := gw_rd m7 f7_143 rfl rfl rfl rfl (gs_ld (P := fun t => t == 0) hk.2 (by have := hk.1; simp [this] <;> omega) hj hl)
theorem f7_144 : gm_ft 7 144 = some (.ireturn, 1) := by decide +kernel
theorem r7_144 {E : Nat → Value} {d : Nat} {h : gm_H} {Q : gm_R → gm_H → Prop} {lv : List Value} {x : Int32} : gm_W E d 7 144 lv [.int x] h Q ↔ Q (.inl (some (.int x))) h := gw_ret m7 f7_144 rfl rfl rfl rfl rfl rfl rfl rfl (by unfold gm_rt; dsimp only; rw [if_pos ⟨rfl, rfl⟩])
/-! GraphReaderModel.constant(IIZ)I -/
theorem m8 : gm_mt[8]? = some (⟨"GraphReaderModel", "constant", "(IIZ)I"⟩, prog_7_method_7_code, 4, (some .int), [], 5, 2) := rfl
theorem f8_0 : gm_ft 8 0 = some (.aload_n 0, 1) := by decide +kernel
theorem r8_0 {E : Nat → Value} {d : Nat} {st : List Value} {h : gm_H} {Q : gm_R → gm_H → Prop} {a1 a2 a3 : Value} {x : Nat} : gm_W E d 8 0 [.ref x, a1, a2, a3] st h Q ↔ gm_W E d 8 1 [.ref x, a1, a2, a3] (.ref x :: st) h Q := gw_loc m8 f8_0 rfl rfl
theorem r8_0n {E : Nat → Value} {d : Nat} {st : List Value} {h : gm_H} {Q : gm_R → gm_H → Prop} {a1 a2 a3 : Value}  : gm_W E d 8 0 [.null, a1, a2, a3] st h Q ↔ gm_W E d 8 1 [.null, a1, a2, a3] (.null :: st) h Q := gw_loc m8 f8_0 rfl rfl
theorem f8_1 : gm_ft 8 1 = some (.iload_n 1, 1) := by decide +kernel
theorem r8_1 {E : Nat → Value} {d : Nat} {st : List Value} {h : gm_H} {Q : gm_R → gm_H → Prop} {a0 a2 a3 : Value} {x : Int32} : gm_W E d 8 1 [a0, .int x, a2, a3] st h Q ↔ gm_W E d 8 2 [a0, .int x, a2, a3] (.int x :: st) h Q := gw_loc m8 f8_1 rfl rfl
theorem f8_2 : gm_ft 8 2 = some (.invokevirtual 135, 3) := by decide +kernel
theorem c8_2 {E : Nat → Value} {d : Nat} {st : List Value} {h : gm_H} {Q : gm_R → gm_H → Prop} {lv : List Value} {b0 : Int32} {a : Nat} {Qc : gm_R → gm_H → Prop} (hs : (st.map fun v => v.category).sum ≤ 8) (hr : gm_kd h a = 5) (hd : 1 ≤ d) (hc : gm_Ca E (d - 1) 5 [.ref a, .int b0] h Qc) (kn : ∀ (v9 : Option Value) (h9 : gm_H), Qc (.inl v9) h9 → gm_W E d 8 5 lv (v9.toList ++ st) h9 Q) (kx : ∀ (x9 : Nat) (h9 : gm_H), Qc (.inr x9) h9 → Q (.inr x9) h9) : gm_W E d 8 2 lv (.int b0 :: .ref a :: st) h Q := gw_call (gn_call m8 f8_2 rfl rfl rfl rfl rfl rfl rfl (gs_virt (bs := [.int b0]) (w := 824) (L := 2) rfl rfl rfl rfl hs (by simp [gm_en1]) hr (by decide)) (by decide)) m8 rfl rfl hd hc kn kx
theorem f8_5 : gm_ft 8 5 = some (.ifCond .ne 23, 3) := by decide +kernel
theorem r8_5 {E : Nat → Value} {d : Nat} {st : List Value} {h : gm_H} {Q : gm_R → gm_H → Prop} {lv : List Value} {x : Int32} : gm_W E d 8 5 lv (.int x :: st) h Q ↔ (if x = 0 then gm_W E d 8 8 lv st h Q else gm_W E d 8 28 lv st h Q) := (gw_br m8 f8_5 rfl rfl rfl rfl).trans gw_ifn
theorem f8_8 : gm_ft 8 8 = some (.aload_n 0, 1) := by decide +kernel
theorem r8_8 {E : Nat → Value} {d : Nat} {st : List Value} {h : gm_H} {Q : gm_R → gm_H → Prop} {a1 a2 a3 : Value} {x : Nat} : gm_W E d 8 8 [.ref x, a1, a2, a3] st h Q ↔ gm_W E d 8 9 [.ref x, a1, a2, a3] (.ref x :: st) h Q := gw_loc m8 f8_8 rfl rfl
theorem r8_8n {E : Nat → Value} {d : Nat} {st : List Value} {h : gm_H} {Q : gm_R → gm_H → Prop} {a1 a2 a3 : Value}  : gm_W E d 8 8 [.null, a1, a2, a3] st h Q ↔ gm_W E d 8 9 [.null, a1, a2, a3] (.null :: st) h Q := gw_loc m8 f8_8 rfl rfl
theorem f8_9 : gm_ft 8 9 = some (.getfield 13, 3) := by decide +kernel
theorem r8_9 {E : Nat → Value} {d : Nat} {st : List Value} {h : gm_H} {Q : gm_R → gm_H → Prop} {lv : List Value} {a : Nat} (hk : gm_kd h a = 5) : gm_W E d 8 9 lv (.ref a :: st) h Q ↔ gm_W E d 8 12 lv (gm_fv h a 10 :: st) h Q := gw_rd m8 f8_9 rfl rfl rfl rfl (gs_get k5_13 hk (by decide))
theorem f8_12 : gm_ft 8 12 = some (.iload_n 1, 1) := by decide +kernel
theorem r8_12 {E : Nat → Value} {d : Nat} {st : List Value} {h : gm_H} {Q : gm_R → gm_H → Prop} {a0 a2 a3 : Value} {x : Int32} : gm_W E d 8 12 [a0, .int x, a2, a3] st h Q ↔ gm_W E d 8 13 [a0, .int x, a2, a3] (.int x :: st) h Q := gw_loc m8 f8_12 rfl rfl
theorem f8_13 : gm_ft 8 13 = some (.iaload, 1) := by decide +kernel
theorem r8_13 {E : Nat → Value} {d : Nat} {st : List Value} {h : gm_H} {Q : gm_R → gm_H → Prop} {lv : List Value} {a j : Nat} (hk : gm_kd h a % 100 = 0 ∧ 100 ≤ gm_kd h a ∧ gm_kd h a < 900) (hj : j < gm_ln h a) (hl : gm_ln h a < 2 ^ 31) : gm_W E d 8 13 lv (.int (nI j) :: .ref a :: st) h Q ↔ gm_W E d 8 14 lv (gm_fv h a j :: st) h Q := gw_rd m8 f8_13 rfl rfl rfl rfl (gs_ld (P := fun t => t == 0) hk.2 (by have := hk.1; simp [this] <;> omega) hj hl)
theorem f8_14 : gm_ft 8 14 = some (.iconst 3, 1) := by decide +kernel
theorem r8_14 {E : Nat → Value} {d : Nat} {st : List Value} {h : gm_H} {Q : gm_R → gm_H → Prop} {lv : List Value} : gm_W E d 8 14 lv st h Q ↔ gm_W E d 8 15 lv (.int (3 : Int32) :: st) h Q := gw_pure m8 f8_14 rfl
theorem f8_15 : gm_ft 8 15 = some (.if_icmp .ne 15, 3) := by decide +kernel
theorem r8_15 {E : Nat → Value} {d : Nat} {st : List Value} {h : gm_H} {Q : gm_R → gm_H → Prop} {lv : List Value} {x y : Int32} : gm_W E d 8 15 lv (.int y :: .int x :: st) h Q ↔ (if x = y then gm_W E d 8 18 lv st h Q else gm_W E d 8 30 lv st h Q) := (gw_br m8 f8_15 rfl rfl rfl rfl).trans gw_ifn
theorem f8_18 : gm_ft 8 18 = some (.aload_n 0, 1) := by decide +kernel
theorem r8_18 {E : Nat → Value} {d : Nat} {st : List Value} {h : gm_H} {Q : gm_R → gm_H → Prop} {a1 a2 a3 : Value} {x : Nat} : gm_W E d 8 18 [.ref x, a1, a2, a3] st h Q ↔ gm_W E d 8 19 [.ref x, a1, a2, a3] (.ref x :: st) h Q := gw_loc m8 f8_18 rfl rfl
theorem r8_18n {E : Nat → Value} {d : Nat} {st : List Value} {h : gm_H} {Q : gm_R → gm_H → Prop} {a1 a2 a3 : Value}  : gm_W E d 8 18 [.null, a1, a2, a3] st h Q ↔ gm_W E d 8 19 [.null, a1, a2, a3] (.null :: st) h Q := gw_loc m8 f8_18 rfl rfl
theorem f8_19 : gm_ft 8 19 = some (.iload_n 2, 1) := by decide +kernel
theorem r8_19 {E : Nat → Value} {d : Nat} {st : List Value} {h : gm_H} {Q : gm_R → gm_H → Prop} {a0 a1 a3 : Value} {x : Int32} : gm_W E d 8 19 [a0, a1, .int x, a3] st h Q ↔ gm_W E d 8 20 [a0, a1, .int x, a3] (.int x :: st) h Q := gw_loc m8 f8_19 rfl rfl
theorem f8_20 : gm_ft 8 20 = some (.bipush 26, 2) := by decide +kernel
theorem r8_20 {E : Nat → Value} {d : Nat} {st : List Value} {h : gm_H} {Q : gm_R → gm_H → Prop} {lv : List Value} : gm_W E d 8 20 lv st h Q ↔ gm_W E d 8 22 lv (.int (26 : Int32) :: st) h Q := gw_pure m8 f8_20 rfl
theorem f8_22 : gm_ft 8 22 = some (.invokevirtual 131, 3) := by decide +kernel
theorem c8_22 {E : Nat → Value} {d : Nat} {st : List Value} {h : gm_H} {Q : gm_R → gm_H → Prop} {lv : List Value} {b0 : Int32} {b1 : Int32} {a : Nat} {Qc : gm_R → gm_H → Prop} (hs : (st.map fun v => v.category).sum ≤ 8) (hr : gm_kd h a = 5) (hd : 1 ≤ d) (hc : gm_Ca E (d - 1) 4 [.ref a, .int b0, .int b1] h Qc) (kn : ∀ (v9 : Option Value) (h9 : gm_H), Qc (.inl v9) h9 → gm_W E d 8 25 lv (v9.toList ++ st) h9 Q) (kx : ∀ (x9 : Nat) (h9 : gm_H), Qc (.inr x9) h9 → Q (.inr x9) h9) : gm_W E d 8 22 lv (.int b1 :: .int b0 :: .ref a :: st) h Q := gw_call (gn_call m8 f8_22 rfl rfl rfl rfl rfl rfl rfl (gs_virt (bs := [.int b1, .int b0]) (w := 820) (L := 3) rfl rfl rfl rfl hs (by simp [gm_en1]) hr (by decide)) (by decide)) m8 rfl rfl hd hc kn kx
theorem f8_25 : gm_ft 8 25 = some (.ifCond .eq 5, 3) := by decide +kernel
theorem r8_25 {E : Nat → Value} {d : Nat} {st : List Value} {h : gm_H} {Q : gm_R → gm_H → Prop} {lv : List Value} {x : Int32} : gm_W E d 8 25 lv (.int x :: st) h Q ↔ (if x = 0 then gm_W E d 8 30 lv st h Q else gm_W E d 8 28 lv st h Q) := (gw_br m8 f8_25 rfl rfl rfl rfl).trans gw_if
theorem f8_28 : gm_ft 8 28 = some (.iconst (-1), 1) := by decide +kernel
theorem r8_28 {E : Nat → Value} {d : Nat} {st : List Value} {h : gm_H} {Q : gm_R → gm_H → Prop} {lv : List Value} : gm_W E d 8 28 lv st h Q ↔ gm_W E d 8 29 lv (.int (-1 : Int32) :: st) h Q := gw_pure m8 f8_28 rfl
theorem f8_29 : gm_ft 8 29 = some (.ireturn, 1) := by decide +kernel
theorem r8_29 {E : Nat → Value} {d : Nat} {h : gm_H} {Q : gm_R → gm_H → Prop} {lv : List Value} {x : Int32} : gm_W E d 8 29 lv [.int x] h Q ↔ Q (.inl (some (.int x))) h := gw_ret m8 f8_29 rfl rfl rfl rfl rfl rfl rfl rfl (by unfold gm_rt; dsimp only; rw [if_pos ⟨rfl, rfl⟩])
theorem f8_30 : gm_ft 8 30 = some (.aload_n 0, 1) := by decide +kernel
theorem r8_30 {E : Nat → Value} {d : Nat} {st : List Value} {h : gm_H} {Q : gm_R → gm_H → Prop} {a1 a2 a3 : Value} {x : Nat} : gm_W E d 8 30 [.ref x, a1, a2, a3] st h Q ↔ gm_W E d 8 31 [.ref x, a1, a2, a3] (.ref x :: st) h Q := gw_loc m8 f8_30 rfl rfl
theorem r8_30n {E : Nat → Value} {d : Nat} {st : List Value} {h : gm_H} {Q : gm_R → gm_H → Prop} {a1 a2 a3 : Value}  : gm_W E d 8 30 [.null, a1, a2, a3] st h Q ↔ gm_W E d 8 31 [.null, a1, a2, a3] (.null :: st) h Q := gw_loc m8 f8_30 rfl rfl
theorem f8_31 : gm_ft 8 31 = some (.getfield 13, 3) := by decide +kernel
theorem r8_31 {E : Nat → Value} {d : Nat} {st : List Value} {h : gm_H} {Q : gm_R → gm_H → Prop} {lv : List Value} {a : Nat} (hk : gm_kd h a = 5) : gm_W E d 8 31 lv (.ref a :: st) h Q ↔ gm_W E d 8 34 lv (gm_fv h a 10 :: st) h Q := gw_rd m8 f8_31 rfl rfl rfl rfl (gs_get k5_13 hk (by decide))
theorem f8_34 : gm_ft 8 34 = some (.iload_n 1, 1) := by decide +kernel
theorem r8_34 {E : Nat → Value} {d : Nat} {st : List Value} {h : gm_H} {Q : gm_R → gm_H → Prop} {a0 a2 a3 : Value} {x : Int32} : gm_W E d 8 34 [a0, .int x, a2, a3] st h Q ↔ gm_W E d 8 35 [a0, .int x, a2, a3] (.int x :: st) h Q := gw_loc m8 f8_34 rfl rfl
theorem f8_35 : gm_ft 8 35 = some (.iaload, 1) := by decide +kernel
theorem r8_35 {E : Nat → Value} {d : Nat} {st : List Value} {h : gm_H} {Q : gm_R → gm_H → Prop} {lv : List Value} {a j : Nat} (hk : gm_kd h a % 100 = 0 ∧ 100 ≤ gm_kd h a ∧ gm_kd h a < 900) (hj : j < gm_ln h a) (hl : gm_ln h a < 2 ^ 31) : gm_W E d 8 35 lv (.int (nI j) :: .ref a :: st) h Q ↔ gm_W E d 8 36 lv (gm_fv h a j :: st) h Q := gw_rd m8 f8_35 rfl rfl rfl rfl (gs_ld (P := fun t => t == 0) hk.2 (by have := hk.1; simp [this] <;> omega) hj hl)
theorem f8_36 : gm_ft 8 36 = some (.iconst 3, 1) := by decide +kernel
theorem r8_36 {E : Nat → Value} {d : Nat} {st : List Value} {h : gm_H} {Q : gm_R → gm_H → Prop} {lv : List Value} : gm_W E d 8 36 lv st h Q ↔ gm_W E d 8 37 lv (.int (3 : Int32) :: st) h Q := gw_pure m8 f8_36 rfl
theorem f8_37 : gm_ft 8 37 = some (.if_icmp .ne 18, 3) := by decide +kernel
theorem r8_37 {E : Nat → Value} {d : Nat} {st : List Value} {h : gm_H} {Q : gm_R → gm_H → Prop} {lv : List Value} {x y : Int32} : gm_W E d 8 37 lv (.int y :: .int x :: st) h Q ↔ (if x = y then gm_W E d 8 40 lv st h Q else gm_W E d 8 55 lv st h Q) := (gw_br m8 f8_37 rfl rfl rfl rfl).trans gw_ifn
theorem f8_40 : gm_ft 8 40 = some (.aload_n 0, 1) := by decide +kernel
theorem r8_40 {E : Nat → Value} {d : Nat} {st : List Value} {h : gm_H} {Q : gm_R → gm_H → Prop} {a1 a2 a3 : Value} {x : Nat} : gm_W E d 8 40 [.ref x, a1, a2, a3] st h Q ↔ gm_W E d 8 41 [.ref x, a1, a2, a3] (.ref x :: st) h Q := gw_loc m8 f8_40 rfl rfl
theorem r8_40n {E : Nat → Value} {d : Nat} {st : List Value} {h : gm_H} {Q : gm_R → gm_H → Prop} {a1 a2 a3 : Value}  : gm_W E d 8 40 [.null, a1, a2, a3] st h Q ↔ gm_W E d 8 41 [.null, a1, a2, a3] (.null :: st) h Q := gw_loc m8 f8_40 rfl rfl
theorem f8_41 : gm_ft 8 41 = some (.getfield 32, 3) := by decide +kernel
theorem r8_41 {E : Nat → Value} {d : Nat} {st : List Value} {h : gm_H} {Q : gm_R → gm_H → Prop} {lv : List Value} {a : Nat} (hk : gm_kd h a = 5) : gm_W E d 8 41 lv (.ref a :: st) h Q ↔ gm_W E d 8 44 lv (gm_fv h a 16 :: st) h Q := gw_rd m8 f8_41 rfl rfl rfl rfl (gs_get k5_32 hk (by decide))
theorem f8_44 : gm_ft 8 44 = some (.iload_n 1, 1) := by decide +kernel
theorem r8_44 {E : Nat → Value} {d : Nat} {st : List Value} {h : gm_H} {Q : gm_R → gm_H → Prop} {a0 a2 a3 : Value} {x : Int32} : gm_W E d 8 44 [a0, .int x, a2, a3] st h Q ↔ gm_W E d 8 45 [a0, .int x, a2, a3] (.int x :: st) h Q := gw_loc m8 f8_44 rfl rfl
theorem f8_45 : gm_ft 8 45 = some (.dup2, 1) := by decide +kernel
theorem r8_45 {E : Nat → Value} {d : Nat} {st : List Value} {h : gm_H} {Q : gm_R → gm_H → Prop} {lv : List Value} {x : Int32} {a : Nat} : gm_W E d 8 45 lv (.int x :: .ref a :: st) h Q ↔ gm_W E d 8 46 lv (.int x :: .ref a :: .int x :: .ref a :: st) h Q := gw_pure m8 f8_45 rfl
theorem f8_46 : gm_ft 8 46 = some (.iaload, 1) := by decide +kernel
theorem r8_46 {E : Nat → Value} {d : Nat} {st : List Value} {h : gm_H} {Q : gm_R → gm_H → Prop} {lv : List Value} {a j : Nat} (hk : gm_kd h a % 100 = 0 ∧ 100 ≤ gm_kd h a ∧ gm_kd h a < 900) (hj : j < gm_ln h a) (hl : gm_ln h a < 2 ^ 31) : gm_W E d 8 46 lv (.int (nI j) :: .ref a :: st) h Q ↔ gm_W E d 8 47 lv (gm_fv h a j :: st) h Q := gw_rd m8 f8_46 rfl rfl rfl rfl (gs_ld (P := fun t => t == 0) hk.2 (by have := hk.1; simp [this] <;> omega) hj hl)
theorem f8_47 : gm_ft 8 47 = some (.iconst 1, 1) := by decide +kernel
theorem r8_47 {E : Nat → Value} {d : Nat} {st : List Value} {h : gm_H} {Q : gm_R → gm_H → Prop} {lv : List Value} : gm_W E d 8 47 lv st h Q ↔ gm_W E d 8 48 lv (.int (1 : Int32) :: st) h Q := gw_pure m8 f8_47 rfl
theorem f8_48 : gm_ft 8 48 = some (.iload_n 2, 1) := by decide +kernel
theorem r8_48 {E : Nat → Value} {d : Nat} {st : List Value} {h : gm_H} {Q : gm_R → gm_H → Prop} {a0 a1 a3 : Value} {x : Int32} : gm_W E d 8 48 [a0, a1, .int x, a3] st h Q ↔ gm_W E d 8 49 [a0, a1, .int x, a3] (.int x :: st) h Q := gw_loc m8 f8_48 rfl rfl
theorem f8_49 : gm_ft 8 49 = some (.ishl, 1) := by decide +kernel
theorem r8_49 {E : Nat → Value} {d : Nat} {st : List Value} {h : gm_H} {Q : gm_R → gm_H → Prop} {lv : List Value} {x y : Int32} : gm_W E d 8 49 lv (.int y :: .int x :: st) h Q ↔ gm_W E d 8 50 lv (.int (x <<< (y &&& 31)) :: st) h Q := gw_pure m8 f8_49 rfl
theorem f8_50 : gm_ft 8 50 = some (.ior, 1) := by decide +kernel
theorem r8_50 {E : Nat → Value} {d : Nat} {st : List Value} {h : gm_H} {Q : gm_R → gm_H → Prop} {lv : List Value} {x y : Int32} : gm_W E d 8 50 lv (.int y :: .int x :: st) h Q ↔ gm_W E d 8 51 lv (.int (x ||| y) :: st) h Q := gw_pure m8 f8_50 rfl
theorem f8_51 : gm_ft 8 51 = some (.iastore, 1) := by decide +kernel
theorem r8_51 {E : Nat → Value} {d : Nat} {st : List Value} {h : gm_H} {Q : gm_R → gm_H → Prop} {lv : List Value} {a j : Nat} {x : Int32} (hk : gm_kd h a = 200) (hj : j < gm_ln h a) (hl : gm_ln h a < 2 ^ 31) : gm_W E d 8 51 lv (.int x :: .int (nI j) :: .ref a :: st) h Q ↔ gm_W E d 8 52 lv st (gm_sf h a j (.int x)) Q := gw_wr m8 f8_51 rfl rfl rfl rfl rfl (gs_st hk (by decide) hj hl)
theorem f8_52 : gm_ft 8 52 = some (.goto 10, 3) := by decide +kernel
theorem r8_52 {E : Nat → Value} {d : Nat} {st : List Value} {h : gm_H} {Q : gm_R → gm_H → Prop} {lv : List Value} : gm_W E d 8 52 lv st h Q ↔ gm_W E d 8 62 lv st h Q := gw_brT m8 f8_52 rfl rfl rfl rfl
theorem f8_55 : gm_ft 8 55 = some (.aload_n 0, 1) := by decide +kernel
theorem r8_55 {E : Nat → Value} {d : Nat} {st : List Value} {h : gm_H} {Q : gm_R → gm_H → Prop} {a1 a2 a3 : Value} {x : Nat} : gm_W E d 8 55 [.ref x, a1, a2, a3] st h Q ↔ gm_W E d 8 56 [.ref x, a1, a2, a3] (.ref x :: st) h Q := gw_loc m8 f8_55 rfl rfl
theorem r8_55n {E : Nat → Value} {d : Nat} {st : List Value} {h : gm_H} {Q : gm_R → gm_H → Prop} {a1 a2 a3 : Value}  : gm_W E d 8 55 [.null, a1, a2, a3] st h Q ↔ gm_W E d 8 56 [.null, a1, a2, a3] (.null :: st) h Q := gw_loc m8 f8_55 rfl rfl
theorem f8_56 : gm_ft 8 56 = some (.getfield 35, 3) := by decide +kernel
theorem r8_56 {E : Nat → Value} {d : Nat} {st : List Value} {h : gm_H} {Q : gm_R → gm_H → Prop} {lv : List Value} {a : Nat} (hk : gm_kd h a = 5) : gm_W E d 8 56 lv (.ref a :: st) h Q ↔ gm_W E d 8 59 lv (gm_fv h a 17 :: st) h Q := gw_rd m8 f8_56 rfl rfl rfl rfl (gs_get k5_35 hk (by decide))
theorem f8_59 : gm_ft 8 59 = some (.iload_n 1, 1) := by decide +kernel
theorem r8_59 {E : Nat → Value} {d : Nat} {st : List Value} {h : gm_H} {Q : gm_R → gm_H → Prop} {a0 a2 a3 : Value} {x : Int32} : gm_W E d 8 59 [a0, .int x, a2, a3] st h Q ↔ gm_W E d 8 60 [a0, .int x, a2, a3] (.int x :: st) h Q := gw_loc m8 f8_59 rfl rfl
theorem f8_60 : gm_ft 8 60 = some (.iload_n 3, 1) := by decide +kernel
theorem r8_60 {E : Nat → Value} {d : Nat} {st : List Value} {h : gm_H} {Q : gm_R → gm_H → Prop} {a0 a1 a2 : Value} {x : Int32} : gm_W E d 8 60 [a0, a1, a2, .int x] st h Q ↔ gm_W E d 8 61 [a0, a1, a2, .int x] (.int x :: st) h Q := gw_loc m8 f8_60 rfl rfl
theorem f8_61 : gm_ft 8 61 = some (.bastore, 1) := by decide +kernel
theorem r8_61 {E : Nat → Value} {d : Nat} {st : List Value} {h : gm_H} {Q : gm_R → gm_H → Prop} {lv : List Value} {a j : Nat} {x : Int32} (hk : gm_kd h a = 202) (hj : j < gm_ln h a) (hl : gm_ln h a < 2 ^ 31) : gm_W E d 8 61 lv (.int x :: .int (nI j) :: .ref a :: st) h Q ↔ gm_W E d 8 62 lv st (gm_sf h a j (.int x.toInt8.toInt32)) Q := gw_wr m8 f8_61 rfl rfl rfl rfl rfl (gs_bst hk (by decide) hj hl)
theorem r8_61z {E : Nat → Value} {d : Nat} {st : List Value} {h : gm_H} {Q : gm_R → gm_H → Prop} {lv : List Value} {a j : Nat} {x : Int32} (hk : gm_kd h a = 203) (hj : j < gm_ln h a) (hl : gm_ln h a < 2 ^ 31) : gm_W E d 8 61 lv (.int x :: .int (nI j) :: .ref a :: st) h Q ↔ gm_W E d 8 62 lv st (gm_sf h a j (.int (x &&& 1))) Q := gw_wr m8 f8_61 rfl rfl rfl rfl rfl (gs_zst hk (by decide) hj hl)
theorem f8_62 : gm_ft 8 62 = some (.iconst 0, 1) := by decide +kernel
theorem r8_62 {E : Nat → Value} {d : Nat} {st : List Value} {h : gm_H} {Q : gm_R → gm_H → Prop} {lv : List Value} : gm_W E d 8 62 lv st h Q ↔ gm_W E d 8 63 lv (.int (0 : Int32) :: st) h Q := gw_pure m8 f8_62 rfl
theorem f8_63 : gm_ft 8 63 = some (.ireturn, 1) := by decide +kernel
theorem r8_63 {E : Nat → Value} {d : Nat} {h : gm_H} {Q : gm_R → gm_H → Prop} {lv : List Value} {x : Int32} : gm_W E d 8 63 lv [.int x] h Q ↔ Q (.inl (some (.int x))) h := gw_ret m8 f8_63 rfl rfl rfl rfl rfl rfl rfl rfl (by unfold gm_rt; dsimp only; rw [if_pos ⟨rfl, rfl⟩])
/-! GraphReaderModel.put(JI)I -/
theorem m9 : gm_mt[9]? = some (⟨"GraphReaderModel", "put", "(JI)I"⟩, prog_7_method_8_code, 5, (some .int), [], 5, 2) := rfl
theorem f9_0 : gm_ft 9 0 = some (.iload_n 3, 1) := by decide +kernel
theorem r9_0 {E : Nat → Value} {d : Nat} {st : List Value} {h : gm_H} {Q : gm_R → gm_H → Prop} {a0 a1 a2 a4 : Value} {x : Int32} : gm_W E d 9 0 [a0, a1, a2, .int x, a4] st h Q ↔ gm_W E d 9 1 [a0, a1, a2, .int x, a4] (.int x :: st) h Q := gw_loc m9 f9_0 rfl rfl
theorem f9_1 : gm_ft 9 1 = some (.iconst 1, 1) := by decide +kernel
theorem r9_1 {E : Nat → Value} {d : Nat} {st : List Value} {h : gm_H} {Q : gm_R → gm_H → Prop} {lv : List Value} : gm_W E d 9 1 lv st h Q ↔ gm_W E d 9 2 lv (.int (1 : Int32) :: st) h Q := gw_pure m9 f9_1 rfl
theorem f9_2 : gm_ft 9 2 = some (.if_icmp .lt 21, 3) := by decide +kernel
theorem r9_2 {E : Nat → Value} {d : Nat} {st : List Value} {h : gm_H} {Q : gm_R → gm_H → Prop} {lv : List Value} {x y : Int32} : gm_W E d 9 2 lv (.int y :: .int x :: st) h Q ↔ (if x < y then gm_W E d 9 23 lv st h Q else gm_W E d 9 5 lv st h Q) := (gw_br m9 f9_2 rfl rfl rfl rfl).trans gw_if
theorem f9_5 : gm_ft 9 5 = some (.iload_n 3, 1) := by decide +kernel
theorem r9_5 {E : Nat → Value} {d : Nat} {st : List Value} {h : gm_H} {Q : gm_R → gm_H → Prop} {a0 a1 a2 a4 : Value} {x : Int32} : gm_W E d 9 5 [a0, a1, a2, .int x, a4] st h Q ↔ gm_W E d 9 6 [a0, a1, a2, .int x, a4] (.int x :: st) h Q := gw_loc m9 f9_5 rfl rfl
theorem f9_6 : gm_ft 9 6 = some (.bipush 8, 2) := by decide +kernel
theorem r9_6 {E : Nat → Value} {d : Nat} {st : List Value} {h : gm_H} {Q : gm_R → gm_H → Prop} {lv : List Value} : gm_W E d 9 6 lv st h Q ↔ gm_W E d 9 8 lv (.int (8 : Int32) :: st) h Q := gw_pure m9 f9_6 rfl
theorem f9_8 : gm_ft 9 8 = some (.if_icmp .gt 15, 3) := by decide +kernel
theorem r9_8 {E : Nat → Value} {d : Nat} {st : List Value} {h : gm_H} {Q : gm_R → gm_H → Prop} {lv : List Value} {x y : Int32} : gm_W E d 9 8 lv (.int y :: .int x :: st) h Q ↔ (if y < x then gm_W E d 9 23 lv st h Q else gm_W E d 9 11 lv st h Q) := (gw_br m9 f9_8 rfl rfl rfl rfl).trans gw_if
theorem f9_11 : gm_ft 9 11 = some (.aload_n 0, 1) := by decide +kernel
theorem r9_11 {E : Nat → Value} {d : Nat} {st : List Value} {h : gm_H} {Q : gm_R → gm_H → Prop} {a1 a2 a3 a4 : Value} {x : Nat} : gm_W E d 9 11 [.ref x, a1, a2, a3, a4] st h Q ↔ gm_W E d 9 12 [.ref x, a1, a2, a3, a4] (.ref x :: st) h Q := gw_loc m9 f9_11 rfl rfl
theorem r9_11n {E : Nat → Value} {d : Nat} {st : List Value} {h : gm_H} {Q : gm_R → gm_H → Prop} {a1 a2 a3 a4 : Value}  : gm_W E d 9 11 [.null, a1, a2, a3, a4] st h Q ↔ gm_W E d 9 12 [.null, a1, a2, a3, a4] (.null :: st) h Q := gw_loc m9 f9_11 rfl rfl
theorem f9_12 : gm_ft 9 12 = some (.getfield 142, 3) := by decide +kernel
theorem r9_12 {E : Nat → Value} {d : Nat} {st : List Value} {h : gm_H} {Q : gm_R → gm_H → Prop} {lv : List Value} {a : Nat} (hk : gm_kd h a = 5) : gm_W E d 9 12 lv (.ref a :: st) h Q ↔ gm_W E d 9 15 lv (gm_fv h a 5 :: st) h Q := gw_rd m9 f9_12 rfl rfl rfl rfl (gs_get k5_142 hk (by decide))
theorem f9_15 : gm_ft 9 15 = some (.iload_n 3, 1) := by decide +kernel
theorem r9_15 {E : Nat → Value} {d : Nat} {st : List Value} {h : gm_H} {Q : gm_R → gm_H → Prop} {a0 a1 a2 a4 : Value} {x : Int32} : gm_W E d 9 15 [a0, a1, a2, .int x, a4] st h Q ↔ gm_W E d 9 16 [a0, a1, a2, .int x, a4] (.int x :: st) h Q := gw_loc m9 f9_15 rfl rfl
theorem f9_16 : gm_ft 9 16 = some (.iadd, 1) := by decide +kernel
theorem r9_16 {E : Nat → Value} {d : Nat} {st : List Value} {h : gm_H} {Q : gm_R → gm_H → Prop} {lv : List Value} {x y : Int32} : gm_W E d 9 16 lv (.int y :: .int x :: st) h Q ↔ gm_W E d 9 17 lv (.int (x + y) :: st) h Q := gw_pure m9 f9_16 rfl
theorem f9_17 : gm_ft 9 17 = some (.sipush 700, 3) := by decide +kernel
theorem r9_17 {E : Nat → Value} {d : Nat} {st : List Value} {h : gm_H} {Q : gm_R → gm_H → Prop} {lv : List Value} : gm_W E d 9 17 lv st h Q ↔ gm_W E d 9 20 lv (.int (700 : Int32) :: st) h Q := gw_pure m9 f9_17 rfl
theorem f9_20 : gm_ft 9 20 = some (.if_icmp .le 5, 3) := by decide +kernel
theorem r9_20 {E : Nat → Value} {d : Nat} {st : List Value} {h : gm_H} {Q : gm_R → gm_H → Prop} {lv : List Value} {x y : Int32} : gm_W E d 9 20 lv (.int y :: .int x :: st) h Q ↔ (if x ≤ y then gm_W E d 9 25 lv st h Q else gm_W E d 9 23 lv st h Q) := (gw_br m9 f9_20 rfl rfl rfl rfl).trans gw_if
theorem f9_23 : gm_ft 9 23 = some (.iconst (-1), 1) := by decide +kernel
theorem r9_23 {E : Nat → Value} {d : Nat} {st : List Value} {h : gm_H} {Q : gm_R → gm_H → Prop} {lv : List Value} : gm_W E d 9 23 lv st h Q ↔ gm_W E d 9 24 lv (.int (-1 : Int32) :: st) h Q := gw_pure m9 f9_23 rfl
theorem f9_24 : gm_ft 9 24 = some (.ireturn, 1) := by decide +kernel
theorem r9_24 {E : Nat → Value} {d : Nat} {h : gm_H} {Q : gm_R → gm_H → Prop} {lv : List Value} {x : Int32} : gm_W E d 9 24 lv [.int x] h Q ↔ Q (.inl (some (.int x))) h := gw_ret m9 f9_24 rfl rfl rfl rfl rfl rfl rfl rfl (by unfold gm_rt; dsimp only; rw [if_pos ⟨rfl, rfl⟩])
theorem f9_25 : gm_ft 9 25 = some (.iload_n 3, 1) := by decide +kernel
theorem r9_25 {E : Nat → Value} {d : Nat} {st : List Value} {h : gm_H} {Q : gm_R → gm_H → Prop} {a0 a1 a2 a4 : Value} {x : Int32} : gm_W E d 9 25 [a0, a1, a2, .int x, a4] st h Q ↔ gm_W E d 9 26 [a0, a1, a2, .int x, a4] (.int x :: st) h Q := gw_loc m9 f9_25 rfl rfl
theorem f9_26 : gm_ft 9 26 = some (.iconst 1, 1) := by decide +kernel
theorem r9_26 {E : Nat → Value} {d : Nat} {st : List Value} {h : gm_H} {Q : gm_R → gm_H → Prop} {lv : List Value} : gm_W E d 9 26 lv st h Q ↔ gm_W E d 9 27 lv (.int (1 : Int32) :: st) h Q := gw_pure m9 f9_26 rfl
theorem f9_27 : gm_ft 9 27 = some (.isub, 1) := by decide +kernel
theorem r9_27 {E : Nat → Value} {d : Nat} {st : List Value} {h : gm_H} {Q : gm_R → gm_H → Prop} {lv : List Value} {x y : Int32} : gm_W E d 9 27 lv (.int y :: .int x :: st) h Q ↔ gm_W E d 9 28 lv (.int (x - y) :: st) h Q := gw_pure m9 f9_27 rfl
theorem f9_28 : gm_ft 9 28 = some (.istore 4, 2) := by decide +kernel
theorem r9_28 {E : Nat → Value} {d : Nat} {st : List Value} {h : gm_H} {Q : gm_R → gm_H → Prop} {a0 a1 a2 a3 a4 : Value} {x : Int32} : gm_W E d 9 28 [a0, a1, a2, a3, a4] (.int x :: st) h Q ↔ gm_W E d 9 30 [a0, a1, a2, gm_k a3, .int x] st h Q := gw_loc m9 f9_28 rfl rfl
theorem f9_30 : gm_ft 9 30 = some (.iload 4, 2) := by decide +kernel
theorem r9_30 {E : Nat → Value} {d : Nat} {st : List Value} {h : gm_H} {Q : gm_R → gm_H → Prop} {a0 a1 a2 a3 : Value} {x : Int32} : gm_W E d 9 30 [a0, a1, a2, a3, .int x] st h Q ↔ gm_W E d 9 32 [a0, a1, a2, a3, .int x] (.int x :: st) h Q := gw_loc m9 f9_30 rfl rfl
theorem f9_32 : gm_ft 9 32 = some (.ifCond .lt 40, 3) := by decide +kernel
theorem r9_32 {E : Nat → Value} {d : Nat} {st : List Value} {h : gm_H} {Q : gm_R → gm_H → Prop} {lv : List Value} {x : Int32} : gm_W E d 9 32 lv (.int x :: st) h Q ↔ (if x < 0 then gm_W E d 9 72 lv st h Q else gm_W E d 9 35 lv st h Q) := (gw_br m9 f9_32 rfl rfl rfl rfl).trans gw_if
theorem f9_35 : gm_ft 9 35 = some (.aload_n 0, 1) := by decide +kernel
theorem r9_35 {E : Nat → Value} {d : Nat} {st : List Value} {h : gm_H} {Q : gm_R → gm_H → Prop} {a1 a2 a3 a4 : Value} {x : Nat} : gm_W E d 9 35 [.ref x, a1, a2, a3, a4] st h Q ↔ gm_W E d 9 36 [.ref x, a1, a2, a3, a4] (.ref x :: st) h Q := gw_loc m9 f9_35 rfl rfl
theorem r9_35n {E : Nat → Value} {d : Nat} {st : List Value} {h : gm_H} {Q : gm_R → gm_H → Prop} {a1 a2 a3 a4 : Value}  : gm_W E d 9 35 [.null, a1, a2, a3, a4] st h Q ↔ gm_W E d 9 36 [.null, a1, a2, a3, a4] (.null :: st) h Q := gw_loc m9 f9_35 rfl rfl
theorem f9_36 : gm_ft 9 36 = some (.getfield 7, 3) := by decide +kernel
theorem r9_36 {E : Nat → Value} {d : Nat} {st : List Value} {h : gm_H} {Q : gm_R → gm_H → Prop} {lv : List Value} {a : Nat} (hk : gm_kd h a = 5) : gm_W E d 9 36 lv (.ref a :: st) h Q ↔ gm_W E d 9 39 lv (gm_fv h a 4 :: st) h Q := gw_rd m9 f9_36 rfl rfl rfl rfl (gs_get k5_7 hk (by decide))
theorem f9_39 : gm_ft 9 39 = some (.aload_n 0, 1) := by decide +kernel
theorem r9_39 {E : Nat → Value} {d : Nat} {st : List Value} {h : gm_H} {Q : gm_R → gm_H → Prop} {a1 a2 a3 a4 : Value} {x : Nat} : gm_W E d 9 39 [.ref x, a1, a2, a3, a4] st h Q ↔ gm_W E d 9 40 [.ref x, a1, a2, a3, a4] (.ref x :: st) h Q := gw_loc m9 f9_39 rfl rfl
theorem r9_39n {E : Nat → Value} {d : Nat} {st : List Value} {h : gm_H} {Q : gm_R → gm_H → Prop} {a1 a2 a3 a4 : Value}  : gm_W E d 9 39 [.null, a1, a2, a3, a4] st h Q ↔ gm_W E d 9 40 [.null, a1, a2, a3, a4] (.null :: st) h Q := gw_loc m9 f9_39 rfl rfl
theorem f9_40 : gm_ft 9 40 = some (.getfield 142, 3) := by decide +kernel
theorem r9_40 {E : Nat → Value} {d : Nat} {st : List Value} {h : gm_H} {Q : gm_R → gm_H → Prop} {lv : List Value} {a : Nat} (hk : gm_kd h a = 5) : gm_W E d 9 40 lv (.ref a :: st) h Q ↔ gm_W E d 9 43 lv (gm_fv h a 5 :: st) h Q := gw_rd m9 f9_40 rfl rfl rfl rfl (gs_get k5_142 hk (by decide))
theorem f9_43 : gm_ft 9 43 = some (.lload_n 1, 1) := by decide +kernel
theorem r9_43 {E : Nat → Value} {d : Nat} {st : List Value} {h : gm_H} {Q : gm_R → gm_H → Prop} {a0 a2 a3 a4 : Value} {x : Int64} : gm_W E d 9 43 [a0, .long x, a2, a3, a4] st h Q ↔ gm_W E d 9 44 [a0, .long x, a2, a3, a4] (.long x :: st) h Q := gw_loc m9 f9_43 rfl rfl
theorem f9_44 : gm_ft 9 44 = some (.bipush 8, 2) := by decide +kernel
theorem r9_44 {E : Nat → Value} {d : Nat} {st : List Value} {h : gm_H} {Q : gm_R → gm_H → Prop} {lv : List Value} : gm_W E d 9 44 lv st h Q ↔ gm_W E d 9 46 lv (.int (8 : Int32) :: st) h Q := gw_pure m9 f9_44 rfl
theorem f9_46 : gm_ft 9 46 = some (.iload 4, 2) := by decide +kernel
theorem r9_46 {E : Nat → Value} {d : Nat} {st : List Value} {h : gm_H} {Q : gm_R → gm_H → Prop} {a0 a1 a2 a3 : Value} {x : Int32} : gm_W E d 9 46 [a0, a1, a2, a3, .int x] st h Q ↔ gm_W E d 9 48 [a0, a1, a2, a3, .int x] (.int x :: st) h Q := gw_loc m9 f9_46 rfl rfl
theorem f9_48 : gm_ft 9 48 = some (.imul, 1) := by decide +kernel
theorem r9_48 {E : Nat → Value} {d : Nat} {st : List Value} {h : gm_H} {Q : gm_R → gm_H → Prop} {lv : List Value} {x y : Int32} : gm_W E d 9 48 lv (.int y :: .int x :: st) h Q ↔ gm_W E d 9 49 lv (.int (x * y) :: st) h Q := gw_pure m9 f9_48 rfl
theorem f9_49 : gm_ft 9 49 = some (.lshr, 1) := by decide +kernel
theorem r9_49 {E : Nat → Value} {d : Nat} {st : List Value} {h : gm_H} {Q : gm_R → gm_H → Prop} {lv : List Value} {x : Int64} {y : Int32} : gm_W E d 9 49 lv (.int y :: .long x :: st) h Q ↔ gm_W E d 9 50 lv (.long (x >>> (y.toInt64 &&& 63)) :: st) h Q := gw_pure m9 f9_49 rfl
theorem f9_50 : gm_ft 9 50 = some (.l2i, 1) := by decide +kernel
theorem r9_50 {E : Nat → Value} {d : Nat} {st : List Value} {h : gm_H} {Q : gm_R → gm_H → Prop} {lv : List Value} {x : Int64} : gm_W E d 9 50 lv (.long x :: st) h Q ↔ gm_W E d 9 51 lv (.int (x.toInt32) :: st) h Q := gw_pure m9 f9_50 rfl
theorem f9_51 : gm_ft 9 51 = some (.sipush 255, 3) := by decide +kernel
theorem r9_51 {E : Nat → Value} {d : Nat} {st : List Value} {h : gm_H} {Q : gm_R → gm_H → Prop} {lv : List Value} : gm_W E d 9 51 lv st h Q ↔ gm_W E d 9 54 lv (.int (255 : Int32) :: st) h Q := gw_pure m9 f9_51 rfl
theorem f9_54 : gm_ft 9 54 = some (.iand, 1) := by decide +kernel
theorem r9_54 {E : Nat → Value} {d : Nat} {st : List Value} {h : gm_H} {Q : gm_R → gm_H → Prop} {lv : List Value} {x y : Int32} : gm_W E d 9 54 lv (.int y :: .int x :: st) h Q ↔ gm_W E d 9 55 lv (.int (x &&& y) :: st) h Q := gw_pure m9 f9_54 rfl
theorem f9_55 : gm_ft 9 55 = some (.iastore, 1) := by decide +kernel
theorem r9_55 {E : Nat → Value} {d : Nat} {st : List Value} {h : gm_H} {Q : gm_R → gm_H → Prop} {lv : List Value} {a j : Nat} {x : Int32} (hk : gm_kd h a = 200) (hj : j < gm_ln h a) (hl : gm_ln h a < 2 ^ 31) : gm_W E d 9 55 lv (.int x :: .int (nI j) :: .ref a :: st) h Q ↔ gm_W E d 9 56 lv st (gm_sf h a j (.int x)) Q := gw_wr m9 f9_55 rfl rfl rfl rfl rfl (gs_st hk (by decide) hj hl)
theorem f9_56 : gm_ft 9 56 = some (.aload_n 0, 1) := by decide +kernel
theorem r9_56 {E : Nat → Value} {d : Nat} {st : List Value} {h : gm_H} {Q : gm_R → gm_H → Prop} {a1 a2 a3 a4 : Value} {x : Nat} : gm_W E d 9 56 [.ref x, a1, a2, a3, a4] st h Q ↔ gm_W E d 9 57 [.ref x, a1, a2, a3, a4] (.ref x :: st) h Q := gw_loc m9 f9_56 rfl rfl
theorem r9_56n {E : Nat → Value} {d : Nat} {st : List Value} {h : gm_H} {Q : gm_R → gm_H → Prop} {a1 a2 a3 a4 : Value}  : gm_W E d 9 56 [.null, a1, a2, a3, a4] st h Q ↔ gm_W E d 9 57 [.null, a1, a2, a3, a4] (.null :: st) h Q := gw_loc m9 f9_56 rfl rfl
theorem f9_57 : gm_ft 9 57 = some (.dup, 1) := by decide +kernel
theorem r9_57 {E : Nat → Value} {d : Nat} {st : List Value} {h : gm_H} {Q : gm_R → gm_H → Prop} {lv : List Value} {a : Nat} : gm_W E d 9 57 lv (.ref a :: st) h Q ↔ gm_W E d 9 58 lv (.ref a :: .ref a :: st) h Q := gw_pure m9 f9_57 rfl
theorem r9_57i {E : Nat → Value} {d : Nat} {st : List Value} {h : gm_H} {Q : gm_R → gm_H → Prop} {lv : List Value} {x : Int32} : gm_W E d 9 57 lv (.int x :: st) h Q ↔ gm_W E d 9 58 lv (.int x :: .int x :: st) h Q := gw_pure m9 f9_57 rfl
theorem f9_58 : gm_ft 9 58 = some (.getfield 142, 3) := by decide +kernel
theorem r9_58 {E : Nat → Value} {d : Nat} {st : List Value} {h : gm_H} {Q : gm_R → gm_H → Prop} {lv : List Value} {a : Nat} (hk : gm_kd h a = 5) : gm_W E d 9 58 lv (.ref a :: st) h Q ↔ gm_W E d 9 61 lv (gm_fv h a 5 :: st) h Q := gw_rd m9 f9_58 rfl rfl rfl rfl (gs_get k5_142 hk (by decide))
theorem f9_61 : gm_ft 9 61 = some (.iconst 1, 1) := by decide +kernel
theorem r9_61 {E : Nat → Value} {d : Nat} {st : List Value} {h : gm_H} {Q : gm_R → gm_H → Prop} {lv : List Value} : gm_W E d 9 61 lv st h Q ↔ gm_W E d 9 62 lv (.int (1 : Int32) :: st) h Q := gw_pure m9 f9_61 rfl
theorem f9_62 : gm_ft 9 62 = some (.iadd, 1) := by decide +kernel
theorem r9_62 {E : Nat → Value} {d : Nat} {st : List Value} {h : gm_H} {Q : gm_R → gm_H → Prop} {lv : List Value} {x y : Int32} : gm_W E d 9 62 lv (.int y :: .int x :: st) h Q ↔ gm_W E d 9 63 lv (.int (x + y) :: st) h Q := gw_pure m9 f9_62 rfl
theorem f9_63 : gm_ft 9 63 = some (.putfield 142, 3) := by decide +kernel
theorem r9_63 {E : Nat → Value} {d : Nat} {st : List Value} {h : gm_H} {Q : gm_R → gm_H → Prop} {lv : List Value} {a : Nat} {x : Int32} (hk : gm_kd h a = 5) : gm_W E d 9 63 lv (.int x :: .ref a :: st) h Q ↔ gm_W E d 9 66 lv st (gm_sf h a 5 (.int x)) Q := gw_wr m9 f9_63 rfl rfl rfl rfl rfl (gs_put k5_142 hk (by decide) (by decide) ⟨rfl, rfl⟩ (by decide))
theorem f9_66 : gm_ft 9 66 = some (.iinc 4 (-1), 3) := by decide +kernel
theorem r9_66 {E : Nat → Value} {d : Nat} {st : List Value} {h : gm_H} {Q : gm_R → gm_H → Prop} {a0 a1 a2 a3 : Value} {x : Int32} : gm_W E d 9 66 [a0, a1, a2, a3, .int x] st h Q ↔ gm_W E d 9 69 [a0, a1, a2, gm_k a3, .int (x + (-1 : Int32))] st h Q := gw_loc m9 f9_66 rfl rfl
theorem f9_69 : gm_ft 9 69 = some (.goto (-39), 3) := by decide +kernel
theorem r9_69 {E : Nat → Value} {d : Nat} {st : List Value} {h : gm_H} {Q : gm_R → gm_H → Prop} {lv : List Value} : gm_W E d 9 69 lv st h Q ↔ gm_W E d 9 30 lv st h Q := gw_brT m9 f9_69 rfl rfl rfl rfl
theorem f9_72 : gm_ft 9 72 = some (.aload_n 0, 1) := by decide +kernel
theorem r9_72 {E : Nat → Value} {d : Nat} {st : List Value} {h : gm_H} {Q : gm_R → gm_H → Prop} {a1 a2 a3 a4 : Value} {x : Nat} : gm_W E d 9 72 [.ref x, a1, a2, a3, a4] st h Q ↔ gm_W E d 9 73 [.ref x, a1, a2, a3, a4] (.ref x :: st) h Q := gw_loc m9 f9_72 rfl rfl
theorem r9_72n {E : Nat → Value} {d : Nat} {st : List Value} {h : gm_H} {Q : gm_R → gm_H → Prop} {a1 a2 a3 a4 : Value}  : gm_W E d 9 72 [.null, a1, a2, a3, a4] st h Q ↔ gm_W E d 9 73 [.null, a1, a2, a3, a4] (.null :: st) h Q := gw_loc m9 f9_72 rfl rfl
theorem f9_73 : gm_ft 9 73 = some (.getfield 142, 3) := by decide +kernel
theorem r9_73 {E : Nat → Value} {d : Nat} {st : List Value} {h : gm_H} {Q : gm_R → gm_H → Prop} {lv : List Value} {a : Nat} (hk : gm_kd h a = 5) : gm_W E d 9 73 lv (.ref a :: st) h Q ↔ gm_W E d 9 76 lv (gm_fv h a 5 :: st) h Q := gw_rd m9 f9_73 rfl rfl rfl rfl (gs_get k5_142 hk (by decide))
theorem f9_76 : gm_ft 9 76 = some (.ireturn, 1) := by decide +kernel
theorem r9_76 {E : Nat → Value} {d : Nat} {h : gm_H} {Q : gm_R → gm_H → Prop} {lv : List Value} {x : Int32} : gm_W E d 9 76 lv [.int x] h Q ↔ Q (.inl (some (.int x))) h := gw_ret m9 f9_76 rfl rfl rfl rfl rfl rfl rfl rfl (by unfold gm_rt; dsimp only; rw [if_pos ⟨rfl, rfl⟩])
/-! GraphReaderModel.fail(I)V -/
theorem m10 : gm_mt[10]? = some (⟨"GraphReaderModel", "fail", "(I)V"⟩, prog_7_method_9_code, 2, none, [], 5, 2) := rfl
theorem f10_0 : gm_ft 10 0 = some (.aload_n 0, 1) := by decide +kernel
theorem r10_0 {E : Nat → Value} {d : Nat} {st : List Value} {h : gm_H} {Q : gm_R → gm_H → Prop} {a1 : Value} {x : Nat} : gm_W E d 10 0 [.ref x, a1] st h Q ↔ gm_W E d 10 1 [.ref x, a1] (.ref x :: st) h Q := gw_loc m10 f10_0 rfl rfl
theorem r10_0n {E : Nat → Value} {d : Nat} {st : List Value} {h : gm_H} {Q : gm_R → gm_H → Prop} {a1 : Value}  : gm_W E d 10 0 [.null, a1] st h Q ↔ gm_W E d 10 1 [.null, a1] (.null :: st) h Q := gw_loc m10 f10_0 rfl rfl
theorem f10_1 : gm_ft 10 1 = some (.getfield 145, 3) := by decide +kernel
theorem r10_1 {E : Nat → Value} {d : Nat} {st : List Value} {h : gm_H} {Q : gm_R → gm_H → Prop} {lv : List Value} {a : Nat} (hk : gm_kd h a = 5) : gm_W E d 10 1 lv (.ref a :: st) h Q ↔ gm_W E d 10 4 lv (gm_fv h a 8 :: st) h Q := gw_rd m10 f10_1 rfl rfl rfl rfl (gs_get k5_145 hk (by decide))
theorem f10_4 : gm_ft 10 4 = some (.ifCond .ne 8, 3) := by decide +kernel
theorem r10_4 {E : Nat → Value} {d : Nat} {st : List Value} {h : gm_H} {Q : gm_R → gm_H → Prop} {lv : List Value} {x : Int32} : gm_W E d 10 4 lv (.int x :: st) h Q ↔ (if x = 0 then gm_W E d 10 7 lv st h Q else gm_W E d 10 12 lv st h Q) := (gw_br m10 f10_4 rfl rfl rfl rfl).trans gw_ifn
theorem f10_7 : gm_ft 10 7 = some (.aload_n 0, 1) := by decide +kernel
theorem r10_7 {E : Nat → Value} {d : Nat} {st : List Value} {h : gm_H} {Q : gm_R → gm_H → Prop} {a1 : Value} {x : Nat} : gm_W E d 10 7 [.ref x, a1] st h Q ↔ gm_W E d 10 8 [.ref x, a1] (.ref x :: st) h Q := gw_loc m10 f10_7 rfl rfl
theorem r10_7n {E : Nat → Value} {d : Nat} {st : List Value} {h : gm_H} {Q : gm_R → gm_H → Prop} {a1 : Value}  : gm_W E d 10 7 [.null, a1] st h Q ↔ gm_W E d 10 8 [.null, a1] (.null :: st) h Q := gw_loc m10 f10_7 rfl rfl
theorem f10_8 : gm_ft 10 8 = some (.iload_n 1, 1) := by decide +kernel
theorem r10_8 {E : Nat → Value} {d : Nat} {st : List Value} {h : gm_H} {Q : gm_R → gm_H → Prop} {a0 : Value} {x : Int32} : gm_W E d 10 8 [a0, .int x] st h Q ↔ gm_W E d 10 9 [a0, .int x] (.int x :: st) h Q := gw_loc m10 f10_8 rfl rfl
theorem f10_9 : gm_ft 10 9 = some (.putfield 145, 3) := by decide +kernel
theorem r10_9 {E : Nat → Value} {d : Nat} {st : List Value} {h : gm_H} {Q : gm_R → gm_H → Prop} {lv : List Value} {a : Nat} {x : Int32} (hk : gm_kd h a = 5) : gm_W E d 10 9 lv (.int x :: .ref a :: st) h Q ↔ gm_W E d 10 12 lv st (gm_sf h a 8 (.int x)) Q := gw_wr m10 f10_9 rfl rfl rfl rfl rfl (gs_put k5_145 hk (by decide) (by decide) ⟨rfl, rfl⟩ (by decide))
theorem f10_12 : gm_ft 10 12 = some (.return_, 1) := by decide +kernel
theorem r10_12 {E : Nat → Value} {d : Nat} {h : gm_H} {Q : gm_R → gm_H → Prop} {lv : List Value} : gm_W E d 10 12 lv [] h Q ↔ Q (.inl none) h := gw_ret m10 f10_12 rfl rfl rfl rfl rfl rfl rfl rfl rfl
/-! GraphReaderModel.next()I -/
theorem m11 : gm_mt[11]? = some (⟨"GraphReaderModel", "next", "()I"⟩, prog_7_method_10_code, 1, (some .int), [], 5, 2) := rfl
theorem f11_0 : gm_ft 11 0 = some (.aload_n 0, 1) := by decide +kernel
theorem r11_0 {E : Nat → Value} {d : Nat} {st : List Value} {h : gm_H} {Q : gm_R → gm_H → Prop}  {x : Nat} : gm_W E d 11 0 [.ref x] st h Q ↔ gm_W E d 11 1 [.ref x] (.ref x :: st) h Q := gw_loc m11 f11_0 rfl rfl
theorem r11_0n {E : Nat → Value} {d : Nat} {st : List Value} {h : gm_H} {Q : gm_R → gm_H → Prop}   : gm_W E d 11 0 [.null] st h Q ↔ gm_W E d 11 1 [.null] (.null :: st) h Q := gw_loc m11 f11_0 rfl rfl
theorem f11_1 : gm_ft 11 1 = some (.getfield 148, 3) := by decide +kernel
theorem r11_1 {E : Nat → Value} {d : Nat} {st : List Value} {h : gm_H} {Q : gm_R → gm_H → Prop} {lv : List Value} {a : Nat} (hk : gm_kd h a = 5) : gm_W E d 11 1 lv (.ref a :: st) h Q ↔ gm_W E d 11 4 lv (gm_fv h a 6 :: st) h Q := gw_rd m11 f11_1 rfl rfl rfl rfl (gs_get k5_148 hk (by decide))
theorem f11_4 : gm_ft 11 4 = some (.aload_n 0, 1) := by decide +kernel
theorem r11_4 {E : Nat → Value} {d : Nat} {st : List Value} {h : gm_H} {Q : gm_R → gm_H → Prop}  {x : Nat} : gm_W E d 11 4 [.ref x] st h Q ↔ gm_W E d 11 5 [.ref x] (.ref x :: st) h Q := gw_loc m11 f11_4 rfl rfl
theorem r11_4n {E : Nat → Value} {d : Nat} {st : List Value} {h : gm_H} {Q : gm_R → gm_H → Prop}   : gm_W E d 11 4 [.null] st h Q ↔ gm_W E d 11 5 [.null] (.null :: st) h Q := gw_loc m11 f11_4 rfl rfl
theorem f11_5 : gm_ft 11 5 = some (.getfield 142, 3) := by decide +kernel
theorem r11_5 {E : Nat → Value} {d : Nat} {st : List Value} {h : gm_H} {Q : gm_R → gm_H → Prop} {lv : List Value} {a : Nat} (hk : gm_kd h a = 5) : gm_W E d 11 5 lv (.ref a :: st) h Q ↔ gm_W E d 11 8 lv (gm_fv h a 5 :: st) h Q := gw_rd m11 f11_5 rfl rfl rfl rfl (gs_get k5_142 hk (by decide))
theorem f11_8 : gm_ft 11 8 = some (.if_icmp .lt 9, 3) := by decide +kernel
theorem r11_8 {E : Nat → Value} {d : Nat} {st : List Value} {h : gm_H} {Q : gm_R → gm_H → Prop} {lv : List Value} {x y : Int32} : gm_W E d 11 8 lv (.int y :: .int x :: st) h Q ↔ (if x < y then gm_W E d 11 17 lv st h Q else gm_W E d 11 11 lv st h Q) := (gw_br m11 f11_8 rfl rfl rfl rfl).trans gw_if
theorem f11_11 : gm_ft 11 11 = some (.aload_n 0, 1) := by decide +kernel
theorem r11_11 {E : Nat → Value} {d : Nat} {st : List Value} {h : gm_H} {Q : gm_R → gm_H → Prop}  {x : Nat} : gm_W E d 11 11 [.ref x] st h Q ↔ gm_W E d 11 12 [.ref x] (.ref x :: st) h Q := gw_loc m11 f11_11 rfl rfl
theorem r11_11n {E : Nat → Value} {d : Nat} {st : List Value} {h : gm_H} {Q : gm_R → gm_H → Prop}   : gm_W E d 11 11 [.null] st h Q ↔ gm_W E d 11 12 [.null] (.null :: st) h Q := gw_loc m11 f11_11 rfl rfl
theorem f11_12 : gm_ft 11 12 = some (.bipush (-3), 2) := by decide +kernel
theorem r11_12 {E : Nat → Value} {d : Nat} {st : List Value} {h : gm_H} {Q : gm_R → gm_H → Prop} {lv : List Value} : gm_W E d 11 12 lv st h Q ↔ gm_W E d 11 14 lv (.int (-3 : Int32) :: st) h Q := gw_pure m11 f11_12 rfl
theorem f11_14 : gm_ft 11 14 = some (.invokevirtual 151, 3) := by decide +kernel
theorem c11_14 {E : Nat → Value} {d : Nat} {st : List Value} {h : gm_H} {Q : gm_R → gm_H → Prop} {lv : List Value} {b0 : Int32} {a : Nat} {Qc : gm_R → gm_H → Prop} (hs : (st.map fun v => v.category).sum ≤ 8) (hr : gm_kd h a = 5) (hd : 1 ≤ d) (hc : gm_Ca E (d - 1) 10 [.ref a, .int b0] h Qc) (kn : ∀ (v9 : Option Value) (h9 : gm_H), Qc (.inl v9) h9 → gm_W E d 11 17 lv (v9.toList ++ st) h9 Q) (kx : ∀ (x9 : Nat) (h9 : gm_H), Qc (.inr x9) h9 → Q (.inr x9) h9) : gm_W E d 11 14 lv (.int b0 :: .ref a :: st) h Q := gw_call (gn_call m11 f11_14 rfl rfl rfl rfl rfl rfl rfl (gs_virt (bs := [.int b0]) (w := 844) (L := 2) rfl rfl rfl rfl hs (by simp [gm_en1]) hr (by decide)) (by decide)) m11 rfl rfl hd hc kn kx
theorem f11_17 : gm_ft 11 17 = some (.aload_n 0, 1) := by decide +kernel
theorem r11_17 {E : Nat → Value} {d : Nat} {st : List Value} {h : gm_H} {Q : gm_R → gm_H → Prop}  {x : Nat} : gm_W E d 11 17 [.ref x] st h Q ↔ gm_W E d 11 18 [.ref x] (.ref x :: st) h Q := gw_loc m11 f11_17 rfl rfl
theorem r11_17n {E : Nat → Value} {d : Nat} {st : List Value} {h : gm_H} {Q : gm_R → gm_H → Prop}   : gm_W E d 11 17 [.null] st h Q ↔ gm_W E d 11 18 [.null] (.null :: st) h Q := gw_loc m11 f11_17 rfl rfl
theorem f11_18 : gm_ft 11 18 = some (.getfield 145, 3) := by decide +kernel
theorem r11_18 {E : Nat → Value} {d : Nat} {st : List Value} {h : gm_H} {Q : gm_R → gm_H → Prop} {lv : List Value} {a : Nat} (hk : gm_kd h a = 5) : gm_W E d 11 18 lv (.ref a :: st) h Q ↔ gm_W E d 11 21 lv (gm_fv h a 8 :: st) h Q := gw_rd m11 f11_18 rfl rfl rfl rfl (gs_get k5_145 hk (by decide))
theorem f11_21 : gm_ft 11 21 = some (.ifCond .eq 5, 3) := by decide +kernel
theorem r11_21 {E : Nat → Value} {d : Nat} {st : List Value} {h : gm_H} {Q : gm_R → gm_H → Prop} {lv : List Value} {x : Int32} : gm_W E d 11 21 lv (.int x :: st) h Q ↔ (if x = 0 then gm_W E d 11 26 lv st h Q else gm_W E d 11 24 lv st h Q) := (gw_br m11 f11_21 rfl rfl rfl rfl).trans gw_if
theorem f11_24 : gm_ft 11 24 = some (.iconst 0, 1) := by decide +kernel
theorem r11_24 {E : Nat → Value} {d : Nat} {st : List Value} {h : gm_H} {Q : gm_R → gm_H → Prop} {lv : List Value} : gm_W E d 11 24 lv st h Q ↔ gm_W E d 11 25 lv (.int (0 : Int32) :: st) h Q := gw_pure m11 f11_24 rfl
theorem f11_25 : gm_ft 11 25 = some (.ireturn, 1) := by decide +kernel
theorem r11_25 {E : Nat → Value} {d : Nat} {h : gm_H} {Q : gm_R → gm_H → Prop} {lv : List Value} {x : Int32} : gm_W E d 11 25 lv [.int x] h Q ↔ Q (.inl (some (.int x))) h := gw_ret m11 f11_25 rfl rfl rfl rfl rfl rfl rfl rfl (by unfold gm_rt; dsimp only; rw [if_pos ⟨rfl, rfl⟩])
theorem f11_26 : gm_ft 11 26 = some (.aload_n 0, 1) := by decide +kernel
theorem r11_26 {E : Nat → Value} {d : Nat} {st : List Value} {h : gm_H} {Q : gm_R → gm_H → Prop}  {x : Nat} : gm_W E d 11 26 [.ref x] st h Q ↔ gm_W E d 11 27 [.ref x] (.ref x :: st) h Q := gw_loc m11 f11_26 rfl rfl
theorem r11_26n {E : Nat → Value} {d : Nat} {st : List Value} {h : gm_H} {Q : gm_R → gm_H → Prop}   : gm_W E d 11 26 [.null] st h Q ↔ gm_W E d 11 27 [.null] (.null :: st) h Q := gw_loc m11 f11_26 rfl rfl
theorem f11_27 : gm_ft 11 27 = some (.dup, 1) := by decide +kernel
theorem r11_27 {E : Nat → Value} {d : Nat} {st : List Value} {h : gm_H} {Q : gm_R → gm_H → Prop} {lv : List Value} {a : Nat} : gm_W E d 11 27 lv (.ref a :: st) h Q ↔ gm_W E d 11 28 lv (.ref a :: .ref a :: st) h Q := gw_pure m11 f11_27 rfl
theorem r11_27i {E : Nat → Value} {d : Nat} {st : List Value} {h : gm_H} {Q : gm_R → gm_H → Prop} {lv : List Value} {x : Int32} : gm_W E d 11 27 lv (.int x :: st) h Q ↔ gm_W E d 11 28 lv (.int x :: .int x :: st) h Q := gw_pure m11 f11_27 rfl
theorem f11_28 : gm_ft 11 28 = some (.getfield 148, 3) := by decide +kernel
theorem r11_28 {E : Nat → Value} {d : Nat} {st : List Value} {h : gm_H} {Q : gm_R → gm_H → Prop} {lv : List Value} {a : Nat} (hk : gm_kd h a = 5) : gm_W E d 11 28 lv (.ref a :: st) h Q ↔ gm_W E d 11 31 lv (gm_fv h a 6 :: st) h Q := gw_rd m11 f11_28 rfl rfl rfl rfl (gs_get k5_148 hk (by decide))
theorem f11_31 : gm_ft 11 31 = some (.iconst 1, 1) := by decide +kernel
theorem r11_31 {E : Nat → Value} {d : Nat} {st : List Value} {h : gm_H} {Q : gm_R → gm_H → Prop} {lv : List Value} : gm_W E d 11 31 lv st h Q ↔ gm_W E d 11 32 lv (.int (1 : Int32) :: st) h Q := gw_pure m11 f11_31 rfl
theorem f11_32 : gm_ft 11 32 = some (.iadd, 1) := by decide +kernel
theorem r11_32 {E : Nat → Value} {d : Nat} {st : List Value} {h : gm_H} {Q : gm_R → gm_H → Prop} {lv : List Value} {x y : Int32} : gm_W E d 11 32 lv (.int y :: .int x :: st) h Q ↔ gm_W E d 11 33 lv (.int (x + y) :: st) h Q := gw_pure m11 f11_32 rfl
theorem f11_33 : gm_ft 11 33 = some (.putfield 148, 3) := by decide +kernel
theorem r11_33 {E : Nat → Value} {d : Nat} {st : List Value} {h : gm_H} {Q : gm_R → gm_H → Prop} {lv : List Value} {a : Nat} {x : Int32} (hk : gm_kd h a = 5) : gm_W E d 11 33 lv (.int x :: .ref a :: st) h Q ↔ gm_W E d 11 36 lv st (gm_sf h a 6 (.int x)) Q := gw_wr m11 f11_33 rfl rfl rfl rfl rfl (gs_put k5_148 hk (by decide) (by decide) ⟨rfl, rfl⟩ (by decide))
theorem f11_36 : gm_ft 11 36 = some (.aload_n 0, 1) := by decide +kernel
theorem r11_36 {E : Nat → Value} {d : Nat} {st : List Value} {h : gm_H} {Q : gm_R → gm_H → Prop}  {x : Nat} : gm_W E d 11 36 [.ref x] st h Q ↔ gm_W E d 11 37 [.ref x] (.ref x :: st) h Q := gw_loc m11 f11_36 rfl rfl
theorem r11_36n {E : Nat → Value} {d : Nat} {st : List Value} {h : gm_H} {Q : gm_R → gm_H → Prop}   : gm_W E d 11 36 [.null] st h Q ↔ gm_W E d 11 37 [.null] (.null :: st) h Q := gw_loc m11 f11_36 rfl rfl
theorem f11_37 : gm_ft 11 37 = some (.getfield 7, 3) := by decide +kernel
theorem r11_37 {E : Nat → Value} {d : Nat} {st : List Value} {h : gm_H} {Q : gm_R → gm_H → Prop} {lv : List Value} {a : Nat} (hk : gm_kd h a = 5) : gm_W E d 11 37 lv (.ref a :: st) h Q ↔ gm_W E d 11 40 lv (gm_fv h a 4 :: st) h Q := gw_rd m11 f11_37 rfl rfl rfl rfl (gs_get k5_7 hk (by decide))
theorem f11_40 : gm_ft 11 40 = some (.aload_n 0, 1) := by decide +kernel
theorem r11_40 {E : Nat → Value} {d : Nat} {st : List Value} {h : gm_H} {Q : gm_R → gm_H → Prop}  {x : Nat} : gm_W E d 11 40 [.ref x] st h Q ↔ gm_W E d 11 41 [.ref x] (.ref x :: st) h Q := gw_loc m11 f11_40 rfl rfl
theorem r11_40n {E : Nat → Value} {d : Nat} {st : List Value} {h : gm_H} {Q : gm_R → gm_H → Prop}   : gm_W E d 11 40 [.null] st h Q ↔ gm_W E d 11 41 [.null] (.null :: st) h Q := gw_loc m11 f11_40 rfl rfl
theorem f11_41 : gm_ft 11 41 = some (.getfield 148, 3) := by decide +kernel
theorem r11_41 {E : Nat → Value} {d : Nat} {st : List Value} {h : gm_H} {Q : gm_R → gm_H → Prop} {lv : List Value} {a : Nat} (hk : gm_kd h a = 5) : gm_W E d 11 41 lv (.ref a :: st) h Q ↔ gm_W E d 11 44 lv (gm_fv h a 6 :: st) h Q := gw_rd m11 f11_41 rfl rfl rfl rfl (gs_get k5_148 hk (by decide))
theorem f11_44 : gm_ft 11 44 = some (.iconst 1, 1) := by decide +kernel
theorem r11_44 {E : Nat → Value} {d : Nat} {st : List Value} {h : gm_H} {Q : gm_R → gm_H → Prop} {lv : List Value} : gm_W E d 11 44 lv st h Q ↔ gm_W E d 11 45 lv (.int (1 : Int32) :: st) h Q := gw_pure m11 f11_44 rfl
theorem f11_45 : gm_ft 11 45 = some (.isub, 1) := by decide +kernel
theorem r11_45 {E : Nat → Value} {d : Nat} {st : List Value} {h : gm_H} {Q : gm_R → gm_H → Prop} {lv : List Value} {x y : Int32} : gm_W E d 11 45 lv (.int y :: .int x :: st) h Q ↔ gm_W E d 11 46 lv (.int (x - y) :: st) h Q := gw_pure m11 f11_45 rfl
theorem f11_46 : gm_ft 11 46 = some (.iaload, 1) := by decide +kernel
theorem r11_46 {E : Nat → Value} {d : Nat} {st : List Value} {h : gm_H} {Q : gm_R → gm_H → Prop} {lv : List Value} {a j : Nat} (hk : gm_kd h a % 100 = 0 ∧ 100 ≤ gm_kd h a ∧ gm_kd h a < 900) (hj : j < gm_ln h a) (hl : gm_ln h a < 2 ^ 31) : gm_W E d 11 46 lv (.int (nI j) :: .ref a :: st) h Q ↔ gm_W E d 11 47 lv (gm_fv h a j :: st) h Q := gw_rd m11 f11_46 rfl rfl rfl rfl (gs_ld (P := fun t => t == 0) hk.2 (by have := hk.1; simp [this] <;> omega) hj hl)
theorem f11_47 : gm_ft 11 47 = some (.ireturn, 1) := by decide +kernel
theorem r11_47 {E : Nat → Value} {d : Nat} {h : gm_H} {Q : gm_R → gm_H → Prop} {lv : List Value} {x : Int32} : gm_W E d 11 47 lv [.int x] h Q ↔ Q (.inl (some (.int x))) h := gw_ret m11 f11_47 rfl rfl rfl rfl rfl rfl rfl rfl (by unfold gm_rt; dsimp only; rw [if_pos ⟨rfl, rfl⟩])
/-! GraphReaderModel.number(I)J -/
theorem m12 : gm_mt[12]? = some (⟨"GraphReaderModel", "number", "(I)J"⟩, prog_7_method_11_code, 5, (some .long), [], 5, 2) := rfl
theorem f12_0 : gm_ft 12 0 = some (.lconst 0, 1) := by decide +kernel
theorem r12_0 {E : Nat → Value} {d : Nat} {st : List Value} {h : gm_H} {Q : gm_R → gm_H → Prop} {lv : List Value} : gm_W E d 12 0 lv st h Q ↔ gm_W E d 12 1 lv (.long 0 :: st) h Q := gw_pure m12 f12_0 rfl
theorem f12_1 : gm_ft 12 1 = some (.lstore_n 2, 1) := by decide +kernel
theorem r12_1 {E : Nat → Value} {d : Nat} {st : List Value} {h : gm_H} {Q : gm_R → gm_H → Prop} {a0 a1 a2 a3 a4 : Value} {x : Int64} : gm_W E d 12 1 [a0, a1, a2, a3, a4] (.long x :: st) h Q ↔ gm_W E d 12 2 [a0, gm_k a1, .long x, gm_u, a4] st h Q := gw_loc m12 f12_1 rfl rfl
theorem f12_2 : gm_ft 12 2 = some (.iconst 0, 1) := by decide +kernel
theorem r12_2 {E : Nat → Value} {d : Nat} {st : List Value} {h : gm_H} {Q : gm_R → gm_H → Prop} {lv : List Value} : gm_W E d 12 2 lv st h Q ↔ gm_W E d 12 3 lv (.int (0 : Int32) :: st) h Q := gw_pure m12 f12_2 rfl
theorem f12_3 : gm_ft 12 3 = some (.istore 4, 2) := by decide +kernel
theorem r12_3 {E : Nat → Value} {d : Nat} {st : List Value} {h : gm_H} {Q : gm_R → gm_H → Prop} {a0 a1 a2 a3 a4 : Value} {x : Int32} : gm_W E d 12 3 [a0, a1, a2, a3, a4] (.int x :: st) h Q ↔ gm_W E d 12 5 [a0, a1, a2, gm_k a3, .int x] st h Q := gw_loc m12 f12_3 rfl rfl
theorem f12_5 : gm_ft 12 5 = some (.iload 4, 2) := by decide +kernel
theorem r12_5 {E : Nat → Value} {d : Nat} {st : List Value} {h : gm_H} {Q : gm_R → gm_H → Prop} {a0 a1 a2 a3 : Value} {x : Int32} : gm_W E d 12 5 [a0, a1, a2, a3, .int x] st h Q ↔ gm_W E d 12 7 [a0, a1, a2, a3, .int x] (.int x :: st) h Q := gw_loc m12 f12_5 rfl rfl
theorem f12_7 : gm_ft 12 7 = some (.iload_n 1, 1) := by decide +kernel
theorem r12_7 {E : Nat → Value} {d : Nat} {st : List Value} {h : gm_H} {Q : gm_R → gm_H → Prop} {a0 a2 a3 a4 : Value} {x : Int32} : gm_W E d 12 7 [a0, .int x, a2, a3, a4] st h Q ↔ gm_W E d 12 8 [a0, .int x, a2, a3, a4] (.int x :: st) h Q := gw_loc m12 f12_7 rfl rfl
theorem f12_8 : gm_ft 12 8 = some (.if_icmp .ge 20, 3) := by decide +kernel
theorem r12_8 {E : Nat → Value} {d : Nat} {st : List Value} {h : gm_H} {Q : gm_R → gm_H → Prop} {lv : List Value} {x y : Int32} : gm_W E d 12 8 lv (.int y :: .int x :: st) h Q ↔ (if y ≤ x then gm_W E d 12 28 lv st h Q else gm_W E d 12 11 lv st h Q) := (gw_br m12 f12_8 rfl rfl rfl rfl).trans gw_if
theorem f12_11 : gm_ft 12 11 = some (.lload_n 2, 1) := by decide +kernel
theorem r12_11 {E : Nat → Value} {d : Nat} {st : List Value} {h : gm_H} {Q : gm_R → gm_H → Prop} {a0 a1 a3 a4 : Value} {x : Int64} : gm_W E d 12 11 [a0, a1, .long x, a3, a4] st h Q ↔ gm_W E d 12 12 [a0, a1, .long x, a3, a4] (.long x :: st) h Q := gw_loc m12 f12_11 rfl rfl
theorem f12_12 : gm_ft 12 12 = some (.bipush 8, 2) := by decide +kernel
theorem r12_12 {E : Nat → Value} {d : Nat} {st : List Value} {h : gm_H} {Q : gm_R → gm_H → Prop} {lv : List Value} : gm_W E d 12 12 lv st h Q ↔ gm_W E d 12 14 lv (.int (8 : Int32) :: st) h Q := gw_pure m12 f12_12 rfl
theorem f12_14 : gm_ft 12 14 = some (.lshl, 1) := by decide +kernel
theorem r12_14 {E : Nat → Value} {d : Nat} {st : List Value} {h : gm_H} {Q : gm_R → gm_H → Prop} {lv : List Value} {x : Int64} {y : Int32} : gm_W E d 12 14 lv (.int y :: .long x :: st) h Q ↔ gm_W E d 12 15 lv (.long (x <<< (y.toInt64 &&& 63)) :: st) h Q := gw_pure m12 f12_14 rfl
theorem f12_15 : gm_ft 12 15 = some (.aload_n 0, 1) := by decide +kernel
theorem r12_15 {E : Nat → Value} {d : Nat} {st : List Value} {h : gm_H} {Q : gm_R → gm_H → Prop} {a1 a2 a3 a4 : Value} {x : Nat} : gm_W E d 12 15 [.ref x, a1, a2, a3, a4] st h Q ↔ gm_W E d 12 16 [.ref x, a1, a2, a3, a4] (.ref x :: st) h Q := gw_loc m12 f12_15 rfl rfl
theorem r12_15n {E : Nat → Value} {d : Nat} {st : List Value} {h : gm_H} {Q : gm_R → gm_H → Prop} {a1 a2 a3 a4 : Value}  : gm_W E d 12 15 [.null, a1, a2, a3, a4] st h Q ↔ gm_W E d 12 16 [.null, a1, a2, a3, a4] (.null :: st) h Q := gw_loc m12 f12_15 rfl rfl
theorem f12_16 : gm_ft 12 16 = some (.invokevirtual 155, 3) := by decide +kernel
theorem c12_16 {E : Nat → Value} {d : Nat} {st : List Value} {h : gm_H} {Q : gm_R → gm_H → Prop} {lv : List Value} {a : Nat} {Qc : gm_R → gm_H → Prop} (hs : (st.map fun v => v.category).sum ≤ 8) (hr : gm_kd h a = 5) (hd : 1 ≤ d) (hc : gm_Ca E (d - 1) 11 [.ref a] h Qc) (kn : ∀ (v9 : Option Value) (h9 : gm_H), Qc (.inl v9) h9 → gm_W E d 12 19 lv (v9.toList ++ st) h9 Q) (kx : ∀ (x9 : Nat) (h9 : gm_H), Qc (.inr x9) h9 → Q (.inr x9) h9) : gm_W E d 12 16 lv (.ref a :: st) h Q := gw_call (gn_call m12 f12_16 rfl rfl rfl rfl rfl rfl rfl (gs_virt (bs := []) (w := 848) (L := 1) rfl rfl rfl rfl hs (by simp [gm_en1]) hr (by decide)) (by decide)) m12 rfl rfl hd hc kn kx
theorem f12_19 : gm_ft 12 19 = some (.i2l, 1) := by decide +kernel
theorem r12_19 {E : Nat → Value} {d : Nat} {st : List Value} {h : gm_H} {Q : gm_R → gm_H → Prop} {lv : List Value} {x : Int32} : gm_W E d 12 19 lv (.int x :: st) h Q ↔ gm_W E d 12 20 lv (.long (x.toInt64) :: st) h Q := gw_pure m12 f12_19 rfl
theorem f12_20 : gm_ft 12 20 = some (.lor, 1) := by decide +kernel
theorem r12_20 {E : Nat → Value} {d : Nat} {st : List Value} {h : gm_H} {Q : gm_R → gm_H → Prop} {lv : List Value} {x y : Int64} : gm_W E d 12 20 lv (.long y :: .long x :: st) h Q ↔ gm_W E d 12 21 lv (.long (x ||| y) :: st) h Q := gw_pure m12 f12_20 rfl
theorem f12_21 : gm_ft 12 21 = some (.lstore_n 2, 1) := by decide +kernel
theorem r12_21 {E : Nat → Value} {d : Nat} {st : List Value} {h : gm_H} {Q : gm_R → gm_H → Prop} {a0 a1 a2 a3 a4 : Value} {x : Int64} : gm_W E d 12 21 [a0, a1, a2, a3, a4] (.long x :: st) h Q ↔ gm_W E d 12 22 [a0, gm_k a1, .long x, gm_u, a4] st h Q := gw_loc m12 f12_21 rfl rfl
theorem f12_22 : gm_ft 12 22 = some (.iinc 4 1, 3) := by decide +kernel
theorem r12_22 {E : Nat → Value} {d : Nat} {st : List Value} {h : gm_H} {Q : gm_R → gm_H → Prop} {a0 a1 a2 a3 : Value} {x : Int32} : gm_W E d 12 22 [a0, a1, a2, a3, .int x] st h Q ↔ gm_W E d 12 25 [a0, a1, a2, gm_k a3, .int (x + (1 : Int32))] st h Q := gw_loc m12 f12_22 rfl rfl
theorem f12_25 : gm_ft 12 25 = some (.goto (-20), 3) := by decide +kernel
theorem r12_25 {E : Nat → Value} {d : Nat} {st : List Value} {h : gm_H} {Q : gm_R → gm_H → Prop} {lv : List Value} : gm_W E d 12 25 lv st h Q ↔ gm_W E d 12 5 lv st h Q := gw_brT m12 f12_25 rfl rfl rfl rfl
theorem f12_28 : gm_ft 12 28 = some (.lload_n 2, 1) := by decide +kernel
theorem r12_28 {E : Nat → Value} {d : Nat} {st : List Value} {h : gm_H} {Q : gm_R → gm_H → Prop} {a0 a1 a3 a4 : Value} {x : Int64} : gm_W E d 12 28 [a0, a1, .long x, a3, a4] st h Q ↔ gm_W E d 12 29 [a0, a1, .long x, a3, a4] (.long x :: st) h Q := gw_loc m12 f12_28 rfl rfl
theorem f12_29 : gm_ft 12 29 = some (.lreturn, 1) := by decide +kernel
theorem r12_29 {E : Nat → Value} {d : Nat} {h : gm_H} {Q : gm_R → gm_H → Prop} {lv : List Value} {x : Int64} : gm_W E d 12 29 lv [.long x] h Q ↔ Q (.inl (some (.long x))) h := gw_ret m12 f12_29 rfl rfl rfl rfl rfl rfl rfl rfl rfl
/-! GraphReaderModel.utf()I -/
theorem m13 : gm_mt[13]? = some (⟨"GraphReaderModel", "utf", "()I"⟩, prog_7_method_12_code, 4, (some .int), [], 5, 2) := rfl
theorem f13_0 : gm_ft 13 0 = some (.aload_n 0, 1) := by decide +kernel
theorem r13_0 {E : Nat → Value} {d : Nat} {st : List Value} {h : gm_H} {Q : gm_R → gm_H → Prop} {a1 a2 a3 : Value} {x : Nat} : gm_W E d 13 0 [.ref x, a1, a2, a3] st h Q ↔ gm_W E d 13 1 [.ref x, a1, a2, a3] (.ref x :: st) h Q := gw_loc m13 f13_0 rfl rfl
theorem r13_0n {E : Nat → Value} {d : Nat} {st : List Value} {h : gm_H} {Q : gm_R → gm_H → Prop} {a1 a2 a3 : Value}  : gm_W E d 13 0 [.null, a1, a2, a3] st h Q ↔ gm_W E d 13 1 [.null, a1, a2, a3] (.null :: st) h Q := gw_loc m13 f13_0 rfl rfl
theorem f13_1 : gm_ft 13 1 = some (.iconst 2, 1) := by decide +kernel
theorem r13_1 {E : Nat → Value} {d : Nat} {st : List Value} {h : gm_H} {Q : gm_R → gm_H → Prop} {lv : List Value} : gm_W E d 13 1 lv st h Q ↔ gm_W E d 13 2 lv (.int (2 : Int32) :: st) h Q := gw_pure m13 f13_1 rfl
theorem f13_2 : gm_ft 13 2 = some (.invokevirtual 159, 3) := by decide +kernel
theorem c13_2 {E : Nat → Value} {d : Nat} {st : List Value} {h : gm_H} {Q : gm_R → gm_H → Prop} {lv : List Value} {b0 : Int32} {a : Nat} {Qc : gm_R → gm_H → Prop} (hs : (st.map fun v => v.category).sum ≤ 8) (hr : gm_kd h a = 5) (hd : 1 ≤ d) (hc : gm_Ca E (d - 1) 12 [.ref a, .int b0] h Qc) (kn : ∀ (v9 : Option Value) (h9 : gm_H), Qc (.inl v9) h9 → gm_W E d 13 5 lv (v9.toList ++ st) h9 Q) (kx : ∀ (x9 : Nat) (h9 : gm_H), Qc (.inr x9) h9 → Q (.inr x9) h9) : gm_W E d 13 2 lv (.int b0 :: .ref a :: st) h Q := gw_call (gn_call m13 f13_2 rfl rfl rfl rfl rfl rfl rfl (gs_virt (bs := [.int b0]) (w := 880) (L := 5) rfl rfl rfl rfl hs (by simp [gm_en1]) hr (by decide)) (by decide)) m13 rfl rfl hd hc kn kx
theorem f13_5 : gm_ft 13 5 = some (.l2i, 1) := by decide +kernel
theorem r13_5 {E : Nat → Value} {d : Nat} {st : List Value} {h : gm_H} {Q : gm_R → gm_H → Prop} {lv : List Value} {x : Int64} : gm_W E d 13 5 lv (.long x :: st) h Q ↔ gm_W E d 13 6 lv (.int (x.toInt32) :: st) h Q := gw_pure m13 f13_5 rfl
theorem f13_6 : gm_ft 13 6 = some (.istore_n 1, 1) := by decide +kernel
theorem r13_6 {E : Nat → Value} {d : Nat} {st : List Value} {h : gm_H} {Q : gm_R → gm_H → Prop} {a0 a1 a2 a3 : Value} {x : Int32} : gm_W E d 13 6 [a0, a1, a2, a3] (.int x :: st) h Q ↔ gm_W E d 13 7 [gm_k a0, .int x, a2, a3] st h Q := gw_loc m13 f13_6 rfl rfl
theorem f13_7 : gm_ft 13 7 = some (.iconst 0, 1) := by decide +kernel
theorem r13_7 {E : Nat → Value} {d : Nat} {st : List Value} {h : gm_H} {Q : gm_R → gm_H → Prop} {lv : List Value} : gm_W E d 13 7 lv st h Q ↔ gm_W E d 13 8 lv (.int (0 : Int32) :: st) h Q := gw_pure m13 f13_7 rfl
theorem f13_8 : gm_ft 13 8 = some (.istore_n 2, 1) := by decide +kernel
theorem r13_8 {E : Nat → Value} {d : Nat} {st : List Value} {h : gm_H} {Q : gm_R → gm_H → Prop} {a0 a1 a2 a3 : Value} {x : Int32} : gm_W E d 13 8 [a0, a1, a2, a3] (.int x :: st) h Q ↔ gm_W E d 13 9 [a0, gm_k a1, .int x, a3] st h Q := gw_loc m13 f13_8 rfl rfl
theorem f13_9 : gm_ft 13 9 = some (.iload_n 2, 1) := by decide +kernel
theorem r13_9 {E : Nat → Value} {d : Nat} {st : List Value} {h : gm_H} {Q : gm_R → gm_H → Prop} {a0 a1 a3 : Value} {x : Int32} : gm_W E d 13 9 [a0, a1, .int x, a3] st h Q ↔ gm_W E d 13 10 [a0, a1, .int x, a3] (.int x :: st) h Q := gw_loc m13 f13_9 rfl rfl
theorem f13_10 : gm_ft 13 10 = some (.iload_n 1, 1) := by decide +kernel
theorem r13_10 {E : Nat → Value} {d : Nat} {st : List Value} {h : gm_H} {Q : gm_R → gm_H → Prop} {a0 a2 a3 : Value} {x : Int32} : gm_W E d 13 10 [a0, .int x, a2, a3] st h Q ↔ gm_W E d 13 11 [a0, .int x, a2, a3] (.int x :: st) h Q := gw_loc m13 f13_10 rfl rfl
theorem f13_11 : gm_ft 13 11 = some (.if_icmp .ge 44, 3) := by decide +kernel
theorem r13_11 {E : Nat → Value} {d : Nat} {st : List Value} {h : gm_H} {Q : gm_R → gm_H → Prop} {lv : List Value} {x y : Int32} : gm_W E d 13 11 lv (.int y :: .int x :: st) h Q ↔ (if y ≤ x then gm_W E d 13 55 lv st h Q else gm_W E d 13 14 lv st h Q) := (gw_br m13 f13_11 rfl rfl rfl rfl).trans gw_if
theorem f13_14 : gm_ft 13 14 = some (.aload_n 0, 1) := by decide +kernel
theorem r13_14 {E : Nat → Value} {d : Nat} {st : List Value} {h : gm_H} {Q : gm_R → gm_H → Prop} {a1 a2 a3 : Value} {x : Nat} : gm_W E d 13 14 [.ref x, a1, a2, a3] st h Q ↔ gm_W E d 13 15 [.ref x, a1, a2, a3] (.ref x :: st) h Q := gw_loc m13 f13_14 rfl rfl
theorem r13_14n {E : Nat → Value} {d : Nat} {st : List Value} {h : gm_H} {Q : gm_R → gm_H → Prop} {a1 a2 a3 : Value}  : gm_W E d 13 14 [.null, a1, a2, a3] st h Q ↔ gm_W E d 13 15 [.null, a1, a2, a3] (.null :: st) h Q := gw_loc m13 f13_14 rfl rfl
theorem f13_15 : gm_ft 13 15 = some (.getfield 145, 3) := by decide +kernel
theorem r13_15 {E : Nat → Value} {d : Nat} {st : List Value} {h : gm_H} {Q : gm_R → gm_H → Prop} {lv : List Value} {a : Nat} (hk : gm_kd h a = 5) : gm_W E d 13 15 lv (.ref a :: st) h Q ↔ gm_W E d 13 18 lv (gm_fv h a 8 :: st) h Q := gw_rd m13 f13_15 rfl rfl rfl rfl (gs_get k5_145 hk (by decide))
theorem f13_18 : gm_ft 13 18 = some (.ifCond .ne 37, 3) := by decide +kernel
theorem r13_18 {E : Nat → Value} {d : Nat} {st : List Value} {h : gm_H} {Q : gm_R → gm_H → Prop} {lv : List Value} {x : Int32} : gm_W E d 13 18 lv (.int x :: st) h Q ↔ (if x = 0 then gm_W E d 13 21 lv st h Q else gm_W E d 13 55 lv st h Q) := (gw_br m13 f13_18 rfl rfl rfl rfl).trans gw_ifn
theorem f13_21 : gm_ft 13 21 = some (.aload_n 0, 1) := by decide +kernel
theorem r13_21 {E : Nat → Value} {d : Nat} {st : List Value} {h : gm_H} {Q : gm_R → gm_H → Prop} {a1 a2 a3 : Value} {x : Nat} : gm_W E d 13 21 [.ref x, a1, a2, a3] st h Q ↔ gm_W E d 13 22 [.ref x, a1, a2, a3] (.ref x :: st) h Q := gw_loc m13 f13_21 rfl rfl
theorem r13_21n {E : Nat → Value} {d : Nat} {st : List Value} {h : gm_H} {Q : gm_R → gm_H → Prop} {a1 a2 a3 : Value}  : gm_W E d 13 21 [.null, a1, a2, a3] st h Q ↔ gm_W E d 13 22 [.null, a1, a2, a3] (.null :: st) h Q := gw_loc m13 f13_21 rfl rfl
theorem f13_22 : gm_ft 13 22 = some (.invokevirtual 155, 3) := by decide +kernel
theorem c13_22 {E : Nat → Value} {d : Nat} {st : List Value} {h : gm_H} {Q : gm_R → gm_H → Prop} {lv : List Value} {a : Nat} {Qc : gm_R → gm_H → Prop} (hs : (st.map fun v => v.category).sum ≤ 8) (hr : gm_kd h a = 5) (hd : 1 ≤ d) (hc : gm_Ca E (d - 1) 11 [.ref a] h Qc) (kn : ∀ (v9 : Option Value) (h9 : gm_H), Qc (.inl v9) h9 → gm_W E d 13 25 lv (v9.toList ++ st) h9 Q) (kx : ∀ (x9 : Nat) (h9 : gm_H), Qc (.inr x9) h9 → Q (.inr x9) h9) : gm_W E d 13 22 lv (.ref a :: st) h Q := gw_call (gn_call m13 f13_22 rfl rfl rfl rfl rfl rfl rfl (gs_virt (bs := []) (w := 848) (L := 1) rfl rfl rfl rfl hs (by simp [gm_en1]) hr (by decide)) (by decide)) m13 rfl rfl hd hc kn kx
theorem f13_25 : gm_ft 13 25 = some (.istore_n 3, 1) := by decide +kernel
theorem r13_25 {E : Nat → Value} {d : Nat} {st : List Value} {h : gm_H} {Q : gm_R → gm_H → Prop} {a0 a1 a2 a3 : Value} {x : Int32} : gm_W E d 13 25 [a0, a1, a2, a3] (.int x :: st) h Q ↔ gm_W E d 13 26 [a0, a1, gm_k a2, .int x] st h Q := gw_loc m13 f13_25 rfl rfl
theorem f13_26 : gm_ft 13 26 = some (.aload_n 0, 1) := by decide +kernel
theorem r13_26 {E : Nat → Value} {d : Nat} {st : List Value} {h : gm_H} {Q : gm_R → gm_H → Prop} {a1 a2 a3 : Value} {x : Nat} : gm_W E d 13 26 [.ref x, a1, a2, a3] st h Q ↔ gm_W E d 13 27 [.ref x, a1, a2, a3] (.ref x :: st) h Q := gw_loc m13 f13_26 rfl rfl
theorem r13_26n {E : Nat → Value} {d : Nat} {st : List Value} {h : gm_H} {Q : gm_R → gm_H → Prop} {a1 a2 a3 : Value}  : gm_W E d 13 26 [.null, a1, a2, a3] st h Q ↔ gm_W E d 13 27 [.null, a1, a2, a3] (.null :: st) h Q := gw_loc m13 f13_26 rfl rfl
theorem f13_27 : gm_ft 13 27 = some (.getfield 145, 3) := by decide +kernel
theorem r13_27 {E : Nat → Value} {d : Nat} {st : List Value} {h : gm_H} {Q : gm_R → gm_H → Prop} {lv : List Value} {a : Nat} (hk : gm_kd h a = 5) : gm_W E d 13 27 lv (.ref a :: st) h Q ↔ gm_W E d 13 30 lv (gm_fv h a 8 :: st) h Q := gw_rd m13 f13_27 rfl rfl rfl rfl (gs_get k5_145 hk (by decide))
theorem f13_30 : gm_ft 13 30 = some (.ifCond .ne 19, 3) := by decide +kernel
theorem r13_30 {E : Nat → Value} {d : Nat} {st : List Value} {h : gm_H} {Q : gm_R → gm_H → Prop} {lv : List Value} {x : Int32} : gm_W E d 13 30 lv (.int x :: st) h Q ↔ (if x = 0 then gm_W E d 13 33 lv st h Q else gm_W E d 13 49 lv st h Q) := (gw_br m13 f13_30 rfl rfl rfl rfl).trans gw_ifn
theorem f13_33 : gm_ft 13 33 = some (.iload_n 3, 1) := by decide +kernel
theorem r13_33 {E : Nat → Value} {d : Nat} {st : List Value} {h : gm_H} {Q : gm_R → gm_H → Prop} {a0 a1 a2 : Value} {x : Int32} : gm_W E d 13 33 [a0, a1, a2, .int x] st h Q ↔ gm_W E d 13 34 [a0, a1, a2, .int x] (.int x :: st) h Q := gw_loc m13 f13_33 rfl rfl
theorem f13_34 : gm_ft 13 34 = some (.ifCond .eq 9, 3) := by decide +kernel
theorem r13_34 {E : Nat → Value} {d : Nat} {st : List Value} {h : gm_H} {Q : gm_R → gm_H → Prop} {lv : List Value} {x : Int32} : gm_W E d 13 34 lv (.int x :: st) h Q ↔ (if x = 0 then gm_W E d 13 43 lv st h Q else gm_W E d 13 37 lv st h Q) := (gw_br m13 f13_34 rfl rfl rfl rfl).trans gw_if
theorem f13_37 : gm_ft 13 37 = some (.iload_n 3, 1) := by decide +kernel
theorem r13_37 {E : Nat → Value} {d : Nat} {st : List Value} {h : gm_H} {Q : gm_R → gm_H → Prop} {a0 a1 a2 : Value} {x : Int32} : gm_W E d 13 37 [a0, a1, a2, .int x] st h Q ↔ gm_W E d 13 38 [a0, a1, a2, .int x] (.int x :: st) h Q := gw_loc m13 f13_37 rfl rfl
theorem f13_38 : gm_ft 13 38 = some (.bipush 127, 2) := by decide +kernel
theorem r13_38 {E : Nat → Value} {d : Nat} {st : List Value} {h : gm_H} {Q : gm_R → gm_H → Prop} {lv : List Value} : gm_W E d 13 38 lv st h Q ↔ gm_W E d 13 40 lv (.int (127 : Int32) :: st) h Q := gw_pure m13 f13_38 rfl
theorem f13_40 : gm_ft 13 40 = some (.if_icmp .le 9, 3) := by decide +kernel
theorem r13_40 {E : Nat → Value} {d : Nat} {st : List Value} {h : gm_H} {Q : gm_R → gm_H → Prop} {lv : List Value} {x y : Int32} : gm_W E d 13 40 lv (.int y :: .int x :: st) h Q ↔ (if x ≤ y then gm_W E d 13 49 lv st h Q else gm_W E d 13 43 lv st h Q) := (gw_br m13 f13_40 rfl rfl rfl rfl).trans gw_if
theorem f13_43 : gm_ft 13 43 = some (.aload_n 0, 1) := by decide +kernel
theorem r13_43 {E : Nat → Value} {d : Nat} {st : List Value} {h : gm_H} {Q : gm_R → gm_H → Prop} {a1 a2 a3 : Value} {x : Nat} : gm_W E d 13 43 [.ref x, a1, a2, a3] st h Q ↔ gm_W E d 13 44 [.ref x, a1, a2, a3] (.ref x :: st) h Q := gw_loc m13 f13_43 rfl rfl
theorem r13_43n {E : Nat → Value} {d : Nat} {st : List Value} {h : gm_H} {Q : gm_R → gm_H → Prop} {a1 a2 a3 : Value}  : gm_W E d 13 43 [.null, a1, a2, a3] st h Q ↔ gm_W E d 13 44 [.null, a1, a2, a3] (.null :: st) h Q := gw_loc m13 f13_43 rfl rfl
theorem f13_44 : gm_ft 13 44 = some (.bipush (-4), 2) := by decide +kernel
theorem r13_44 {E : Nat → Value} {d : Nat} {st : List Value} {h : gm_H} {Q : gm_R → gm_H → Prop} {lv : List Value} : gm_W E d 13 44 lv st h Q ↔ gm_W E d 13 46 lv (.int (-4 : Int32) :: st) h Q := gw_pure m13 f13_44 rfl
theorem f13_46 : gm_ft 13 46 = some (.invokevirtual 151, 3) := by decide +kernel
theorem c13_46 {E : Nat → Value} {d : Nat} {st : List Value} {h : gm_H} {Q : gm_R → gm_H → Prop} {lv : List Value} {b0 : Int32} {a : Nat} {Qc : gm_R → gm_H → Prop} (hs : (st.map fun v => v.category).sum ≤ 8) (hr : gm_kd h a = 5) (hd : 1 ≤ d) (hc : gm_Ca E (d - 1) 10 [.ref a, .int b0] h Qc) (kn : ∀ (v9 : Option Value) (h9 : gm_H), Qc (.inl v9) h9 → gm_W E d 13 49 lv (v9.toList ++ st) h9 Q) (kx : ∀ (x9 : Nat) (h9 : gm_H), Qc (.inr x9) h9 → Q (.inr x9) h9) : gm_W E d 13 46 lv (.int b0 :: .ref a :: st) h Q := gw_call (gn_call m13 f13_46 rfl rfl rfl rfl rfl rfl rfl (gs_virt (bs := [.int b0]) (w := 844) (L := 2) rfl rfl rfl rfl hs (by simp [gm_en1]) hr (by decide)) (by decide)) m13 rfl rfl hd hc kn kx
theorem f13_49 : gm_ft 13 49 = some (.iinc 2 1, 3) := by decide +kernel
theorem r13_49 {E : Nat → Value} {d : Nat} {st : List Value} {h : gm_H} {Q : gm_R → gm_H → Prop} {a0 a1 a3 : Value} {x : Int32} : gm_W E d 13 49 [a0, a1, .int x, a3] st h Q ↔ gm_W E d 13 52 [a0, gm_k a1, .int (x + (1 : Int32)), a3] st h Q := gw_loc m13 f13_49 rfl rfl
theorem f13_52 : gm_ft 13 52 = some (.goto (-43), 3) := by decide +kernel
theorem r13_52 {E : Nat → Value} {d : Nat} {st : List Value} {h : gm_H} {Q : gm_R → gm_H → Prop} {lv : List Value} : gm_W E d 13 52 lv st h Q ↔ gm_W E d 13 9 lv st h Q := gw_brT m13 f13_52 rfl rfl rfl rfl
theorem f13_55 : gm_ft 13 55 = some (.iload_n 1, 1) := by decide +kernel
theorem r13_55 {E : Nat → Value} {d : Nat} {st : List Value} {h : gm_H} {Q : gm_R → gm_H → Prop} {a0 a2 a3 : Value} {x : Int32} : gm_W E d 13 55 [a0, .int x, a2, a3] st h Q ↔ gm_W E d 13 56 [a0, .int x, a2, a3] (.int x :: st) h Q := gw_loc m13 f13_55 rfl rfl
theorem f13_56 : gm_ft 13 56 = some (.ireturn, 1) := by decide +kernel
theorem r13_56 {E : Nat → Value} {d : Nat} {h : gm_H} {Q : gm_R → gm_H → Prop} {lv : List Value} {x : Int32} : gm_W E d 13 56 lv [.int x] h Q ↔ Q (.inl (some (.int x))) h := gw_ret m13 f13_56 rfl rfl rfl rfl rfl rfl rfl rfl (by unfold gm_rt; dsimp only; rw [if_pos ⟨rfl, rfl⟩])
/-! GraphReaderModel.begin()I -/
theorem m14 : gm_mt[14]? = some (⟨"GraphReaderModel", "begin", "()I"⟩, prog_7_method_13_code, 3, (some .int), [], 5, 2) := rfl
theorem f14_0 : gm_ft 14 0 = some (.aload_n 0, 1) := by decide +kernel
theorem r14_0 {E : Nat → Value} {d : Nat} {st : List Value} {h : gm_H} {Q : gm_R → gm_H → Prop} {a1 a2 : Value} {x : Nat} : gm_W E d 14 0 [.ref x, a1, a2] st h Q ↔ gm_W E d 14 1 [.ref x, a1, a2] (.ref x :: st) h Q := gw_loc m14 f14_0 rfl rfl
theorem r14_0n {E : Nat → Value} {d : Nat} {st : List Value} {h : gm_H} {Q : gm_R → gm_H → Prop} {a1 a2 : Value}  : gm_W E d 14 0 [.null, a1, a2] st h Q ↔ gm_W E d 14 1 [.null, a1, a2] (.null :: st) h Q := gw_loc m14 f14_0 rfl rfl
theorem f14_1 : gm_ft 14 1 = some (.iconst 0, 1) := by decide +kernel
theorem r14_1 {E : Nat → Value} {d : Nat} {st : List Value} {h : gm_H} {Q : gm_R → gm_H → Prop} {lv : List Value} : gm_W E d 14 1 lv st h Q ↔ gm_W E d 14 2 lv (.int (0 : Int32) :: st) h Q := gw_pure m14 f14_1 rfl
theorem f14_2 : gm_ft 14 2 = some (.putfield 148, 3) := by decide +kernel
theorem r14_2 {E : Nat → Value} {d : Nat} {st : List Value} {h : gm_H} {Q : gm_R → gm_H → Prop} {lv : List Value} {a : Nat} {x : Int32} (hk : gm_kd h a = 5) : gm_W E d 14 2 lv (.int x :: .ref a :: st) h Q ↔ gm_W E d 14 5 lv st (gm_sf h a 6 (.int x)) Q := gw_wr m14 f14_2 rfl rfl rfl rfl rfl (gs_put k5_148 hk (by decide) (by decide) ⟨rfl, rfl⟩ (by decide))
theorem f14_5 : gm_ft 14 5 = some (.aload_n 0, 1) := by decide +kernel
theorem r14_5 {E : Nat → Value} {d : Nat} {st : List Value} {h : gm_H} {Q : gm_R → gm_H → Prop} {a1 a2 : Value} {x : Nat} : gm_W E d 14 5 [.ref x, a1, a2] st h Q ↔ gm_W E d 14 6 [.ref x, a1, a2] (.ref x :: st) h Q := gw_loc m14 f14_5 rfl rfl
theorem r14_5n {E : Nat → Value} {d : Nat} {st : List Value} {h : gm_H} {Q : gm_R → gm_H → Prop} {a1 a2 : Value}  : gm_W E d 14 5 [.null, a1, a2] st h Q ↔ gm_W E d 14 6 [.null, a1, a2] (.null :: st) h Q := gw_loc m14 f14_5 rfl rfl
theorem f14_6 : gm_ft 14 6 = some (.iconst 0, 1) := by decide +kernel
theorem r14_6 {E : Nat → Value} {d : Nat} {st : List Value} {h : gm_H} {Q : gm_R → gm_H → Prop} {lv : List Value} : gm_W E d 14 6 lv st h Q ↔ gm_W E d 14 7 lv (.int (0 : Int32) :: st) h Q := gw_pure m14 f14_6 rfl
theorem f14_7 : gm_ft 14 7 = some (.putfield 139, 3) := by decide +kernel
theorem r14_7 {E : Nat → Value} {d : Nat} {st : List Value} {h : gm_H} {Q : gm_R → gm_H → Prop} {lv : List Value} {a : Nat} {x : Int32} (hk : gm_kd h a = 5) : gm_W E d 14 7 lv (.int x :: .ref a :: st) h Q ↔ gm_W E d 14 10 lv st (gm_sf h a 23 (.int x)) Q := gw_wr m14 f14_7 rfl rfl rfl rfl rfl (gs_put k5_139 hk (by decide) (by decide) ⟨rfl, rfl⟩ (by decide))
theorem f14_10 : gm_ft 14 10 = some (.aload_n 0, 1) := by decide +kernel
theorem r14_10 {E : Nat → Value} {d : Nat} {st : List Value} {h : gm_H} {Q : gm_R → gm_H → Prop} {a1 a2 : Value} {x : Nat} : gm_W E d 14 10 [.ref x, a1, a2] st h Q ↔ gm_W E d 14 11 [.ref x, a1, a2] (.ref x :: st) h Q := gw_loc m14 f14_10 rfl rfl
theorem r14_10n {E : Nat → Value} {d : Nat} {st : List Value} {h : gm_H} {Q : gm_R → gm_H → Prop} {a1 a2 : Value}  : gm_W E d 14 10 [.null, a1, a2] st h Q ↔ gm_W E d 14 11 [.null, a1, a2] (.null :: st) h Q := gw_loc m14 f14_10 rfl rfl
theorem f14_11 : gm_ft 14 11 = some (.iconst 0, 1) := by decide +kernel
theorem r14_11 {E : Nat → Value} {d : Nat} {st : List Value} {h : gm_H} {Q : gm_R → gm_H → Prop} {lv : List Value} : gm_W E d 14 11 lv st h Q ↔ gm_W E d 14 12 lv (.int (0 : Int32) :: st) h Q := gw_pure m14 f14_11 rfl
theorem f14_12 : gm_ft 14 12 = some (.putfield 163, 3) := by decide +kernel
theorem r14_12 {E : Nat → Value} {d : Nat} {st : List Value} {h : gm_H} {Q : gm_R → gm_H → Prop} {lv : List Value} {a : Nat} {x : Int32} (hk : gm_kd h a = 5) : gm_W E d 14 12 lv (.int x :: .ref a :: st) h Q ↔ gm_W E d 14 15 lv st (gm_sf h a 25 (.int x)) Q := gw_wr m14 f14_12 rfl rfl rfl rfl rfl (gs_put k5_163 hk (by decide) (by decide) ⟨rfl, rfl⟩ (by decide))
theorem f14_15 : gm_ft 14 15 = some (.aload_n 0, 1) := by decide +kernel
theorem r14_15 {E : Nat → Value} {d : Nat} {st : List Value} {h : gm_H} {Q : gm_R → gm_H → Prop} {a1 a2 : Value} {x : Nat} : gm_W E d 14 15 [.ref x, a1, a2] st h Q ↔ gm_W E d 14 16 [.ref x, a1, a2] (.ref x :: st) h Q := gw_loc m14 f14_15 rfl rfl
theorem r14_15n {E : Nat → Value} {d : Nat} {st : List Value} {h : gm_H} {Q : gm_R → gm_H → Prop} {a1 a2 : Value}  : gm_W E d 14 15 [.null, a1, a2] st h Q ↔ gm_W E d 14 16 [.null, a1, a2] (.null :: st) h Q := gw_loc m14 f14_15 rfl rfl
theorem f14_16 : gm_ft 14 16 = some (.iconst 0, 1) := by decide +kernel
theorem r14_16 {E : Nat → Value} {d : Nat} {st : List Value} {h : gm_H} {Q : gm_R → gm_H → Prop} {lv : List Value} : gm_W E d 14 16 lv st h Q ↔ gm_W E d 14 17 lv (.int (0 : Int32) :: st) h Q := gw_pure m14 f14_16 rfl
theorem f14_17 : gm_ft 14 17 = some (.putfield 166, 3) := by decide +kernel
theorem r14_17 {E : Nat → Value} {d : Nat} {st : List Value} {h : gm_H} {Q : gm_R → gm_H → Prop} {lv : List Value} {a : Nat} {x : Int32} (hk : gm_kd h a = 5) : gm_W E d 14 17 lv (.int x :: .ref a :: st) h Q ↔ gm_W E d 14 20 lv st (gm_sf h a 28 (.int x)) Q := gw_wr m14 f14_17 rfl rfl rfl rfl rfl (gs_put k5_166 hk (by decide) (by decide) ⟨rfl, rfl⟩ (by decide))
theorem f14_20 : gm_ft 14 20 = some (.aload_n 0, 1) := by decide +kernel
theorem r14_20 {E : Nat → Value} {d : Nat} {st : List Value} {h : gm_H} {Q : gm_R → gm_H → Prop} {a1 a2 : Value} {x : Nat} : gm_W E d 14 20 [.ref x, a1, a2] st h Q ↔ gm_W E d 14 21 [.ref x, a1, a2] (.ref x :: st) h Q := gw_loc m14 f14_20 rfl rfl
theorem r14_20n {E : Nat → Value} {d : Nat} {st : List Value} {h : gm_H} {Q : gm_R → gm_H → Prop} {a1 a2 : Value}  : gm_W E d 14 20 [.null, a1, a2] st h Q ↔ gm_W E d 14 21 [.null, a1, a2] (.null :: st) h Q := gw_loc m14 f14_20 rfl rfl
theorem f14_21 : gm_ft 14 21 = some (.iconst 0, 1) := by decide +kernel
theorem r14_21 {E : Nat → Value} {d : Nat} {st : List Value} {h : gm_H} {Q : gm_R → gm_H → Prop} {lv : List Value} : gm_W E d 14 21 lv st h Q ↔ gm_W E d 14 22 lv (.int (0 : Int32) :: st) h Q := gw_pure m14 f14_21 rfl
theorem f14_22 : gm_ft 14 22 = some (.putfield 169, 3) := by decide +kernel
theorem r14_22 {E : Nat → Value} {d : Nat} {st : List Value} {h : gm_H} {Q : gm_R → gm_H → Prop} {lv : List Value} {a : Nat} {x : Int32} (hk : gm_kd h a = 5) : gm_W E d 14 22 lv (.int x :: .ref a :: st) h Q ↔ gm_W E d 14 25 lv st (gm_sf h a 39 (.int x)) Q := gw_wr m14 f14_22 rfl rfl rfl rfl rfl (gs_put k5_169 hk (by decide) (by decide) ⟨rfl, rfl⟩ (by decide))
theorem f14_25 : gm_ft 14 25 = some (.aload_n 0, 1) := by decide +kernel
theorem r14_25 {E : Nat → Value} {d : Nat} {st : List Value} {h : gm_H} {Q : gm_R → gm_H → Prop} {a1 a2 : Value} {x : Nat} : gm_W E d 14 25 [.ref x, a1, a2] st h Q ↔ gm_W E d 14 26 [.ref x, a1, a2] (.ref x :: st) h Q := gw_loc m14 f14_25 rfl rfl
theorem r14_25n {E : Nat → Value} {d : Nat} {st : List Value} {h : gm_H} {Q : gm_R → gm_H → Prop} {a1 a2 : Value}  : gm_W E d 14 25 [.null, a1, a2] st h Q ↔ gm_W E d 14 26 [.null, a1, a2] (.null :: st) h Q := gw_loc m14 f14_25 rfl rfl
theorem f14_26 : gm_ft 14 26 = some (.iconst 0, 1) := by decide +kernel
theorem r14_26 {E : Nat → Value} {d : Nat} {st : List Value} {h : gm_H} {Q : gm_R → gm_H → Prop} {lv : List Value} : gm_W E d 14 26 lv st h Q ↔ gm_W E d 14 27 lv (.int (0 : Int32) :: st) h Q := gw_pure m14 f14_26 rfl
theorem f14_27 : gm_ft 14 27 = some (.putfield 145, 3) := by decide +kernel
theorem r14_27 {E : Nat → Value} {d : Nat} {st : List Value} {h : gm_H} {Q : gm_R → gm_H → Prop} {lv : List Value} {a : Nat} {x : Int32} (hk : gm_kd h a = 5) : gm_W E d 14 27 lv (.int x :: .ref a :: st) h Q ↔ gm_W E d 14 30 lv st (gm_sf h a 8 (.int x)) Q := gw_wr m14 f14_27 rfl rfl rfl rfl rfl (gs_put k5_145 hk (by decide) (by decide) ⟨rfl, rfl⟩ (by decide))
theorem f14_30 : gm_ft 14 30 = some (.aload_n 0, 1) := by decide +kernel
theorem r14_30 {E : Nat → Value} {d : Nat} {st : List Value} {h : gm_H} {Q : gm_R → gm_H → Prop} {a1 a2 : Value} {x : Nat} : gm_W E d 14 30 [.ref x, a1, a2] st h Q ↔ gm_W E d 14 31 [.ref x, a1, a2] (.ref x :: st) h Q := gw_loc m14 f14_30 rfl rfl
theorem r14_30n {E : Nat → Value} {d : Nat} {st : List Value} {h : gm_H} {Q : gm_R → gm_H → Prop} {a1 a2 : Value}  : gm_W E d 14 30 [.null, a1, a2] st h Q ↔ gm_W E d 14 31 [.null, a1, a2] (.null :: st) h Q := gw_loc m14 f14_30 rfl rfl
theorem f14_31 : gm_ft 14 31 = some (.getfield 142, 3) := by decide +kernel
theorem r14_31 {E : Nat → Value} {d : Nat} {st : List Value} {h : gm_H} {Q : gm_R → gm_H → Prop} {lv : List Value} {a : Nat} (hk : gm_kd h a = 5) : gm_W E d 14 31 lv (.ref a :: st) h Q ↔ gm_W E d 14 34 lv (gm_fv h a 5 :: st) h Q := gw_rd m14 f14_31 rfl rfl rfl rfl (gs_get k5_142 hk (by decide))
theorem f14_34 : gm_ft 14 34 = some (.iconst 4, 1) := by decide +kernel
theorem r14_34 {E : Nat → Value} {d : Nat} {st : List Value} {h : gm_H} {Q : gm_R → gm_H → Prop} {lv : List Value} : gm_W E d 14 34 lv st h Q ↔ gm_W E d 14 35 lv (.int (4 : Int32) :: st) h Q := gw_pure m14 f14_34 rfl
theorem f14_35 : gm_ft 14 35 = some (.if_icmp .ge 9, 3) := by decide +kernel
theorem r14_35 {E : Nat → Value} {d : Nat} {st : List Value} {h : gm_H} {Q : gm_R → gm_H → Prop} {lv : List Value} {x y : Int32} : gm_W E d 14 35 lv (.int y :: .int x :: st) h Q ↔ (if y ≤ x then gm_W E d 14 44 lv st h Q else gm_W E d 14 38 lv st h Q) := (gw_br m14 f14_35 rfl rfl rfl rfl).trans gw_if
theorem f14_38 : gm_ft 14 38 = some (.aload_n 0, 1) := by decide +kernel
theorem r14_38 {E : Nat → Value} {d : Nat} {st : List Value} {h : gm_H} {Q : gm_R → gm_H → Prop} {a1 a2 : Value} {x : Nat} : gm_W E d 14 38 [.ref x, a1, a2] st h Q ↔ gm_W E d 14 39 [.ref x, a1, a2] (.ref x :: st) h Q := gw_loc m14 f14_38 rfl rfl
theorem r14_38n {E : Nat → Value} {d : Nat} {st : List Value} {h : gm_H} {Q : gm_R → gm_H → Prop} {a1 a2 : Value}  : gm_W E d 14 38 [.null, a1, a2] st h Q ↔ gm_W E d 14 39 [.null, a1, a2] (.null :: st) h Q := gw_loc m14 f14_38 rfl rfl
theorem f14_39 : gm_ft 14 39 = some (.bipush (-3), 2) := by decide +kernel
theorem r14_39 {E : Nat → Value} {d : Nat} {st : List Value} {h : gm_H} {Q : gm_R → gm_H → Prop} {lv : List Value} : gm_W E d 14 39 lv st h Q ↔ gm_W E d 14 41 lv (.int (-3 : Int32) :: st) h Q := gw_pure m14 f14_39 rfl
theorem f14_41 : gm_ft 14 41 = some (.invokevirtual 151, 3) := by decide +kernel
theorem c14_41 {E : Nat → Value} {d : Nat} {st : List Value} {h : gm_H} {Q : gm_R → gm_H → Prop} {lv : List Value} {b0 : Int32} {a : Nat} {Qc : gm_R → gm_H → Prop} (hs : (st.map fun v => v.category).sum ≤ 8) (hr : gm_kd h a = 5) (hd : 1 ≤ d) (hc : gm_Ca E (d - 1) 10 [.ref a, .int b0] h Qc) (kn : ∀ (v9 : Option Value) (h9 : gm_H), Qc (.inl v9) h9 → gm_W E d 14 44 lv (v9.toList ++ st) h9 Q) (kx : ∀ (x9 : Nat) (h9 : gm_H), Qc (.inr x9) h9 → Q (.inr x9) h9) : gm_W E d 14 41 lv (.int b0 :: .ref a :: st) h Q := gw_call (gn_call m14 f14_41 rfl rfl rfl rfl rfl rfl rfl (gs_virt (bs := [.int b0]) (w := 844) (L := 2) rfl rfl rfl rfl hs (by simp [gm_en1]) hr (by decide)) (by decide)) m14 rfl rfl hd hc kn kx
theorem f14_44 : gm_ft 14 44 = some (.iconst 0, 1) := by decide +kernel
theorem r14_44 {E : Nat → Value} {d : Nat} {st : List Value} {h : gm_H} {Q : gm_R → gm_H → Prop} {lv : List Value} : gm_W E d 14 44 lv st h Q ↔ gm_W E d 14 45 lv (.int (0 : Int32) :: st) h Q := gw_pure m14 f14_44 rfl
theorem f14_45 : gm_ft 14 45 = some (.istore_n 1, 1) := by decide +kernel
theorem r14_45 {E : Nat → Value} {d : Nat} {st : List Value} {h : gm_H} {Q : gm_R → gm_H → Prop} {a0 a1 a2 : Value} {x : Int32} : gm_W E d 14 45 [a0, a1, a2] (.int x :: st) h Q ↔ gm_W E d 14 46 [gm_k a0, .int x, a2] st h Q := gw_loc m14 f14_45 rfl rfl
theorem f14_46 : gm_ft 14 46 = some (.iload_n 1, 1) := by decide +kernel
theorem r14_46 {E : Nat → Value} {d : Nat} {st : List Value} {h : gm_H} {Q : gm_R → gm_H → Prop} {a0 a2 : Value} {x : Int32} : gm_W E d 14 46 [a0, .int x, a2] st h Q ↔ gm_W E d 14 47 [a0, .int x, a2] (.int x :: st) h Q := gw_loc m14 f14_46 rfl rfl
theorem f14_47 : gm_ft 14 47 = some (.iconst 4, 1) := by decide +kernel
theorem r14_47 {E : Nat → Value} {d : Nat} {st : List Value} {h : gm_H} {Q : gm_R → gm_H → Prop} {lv : List Value} : gm_W E d 14 47 lv st h Q ↔ gm_W E d 14 48 lv (.int (4 : Int32) :: st) h Q := gw_pure m14 f14_47 rfl
theorem f14_48 : gm_ft 14 48 = some (.if_icmp .ge 55, 3) := by decide +kernel
theorem r14_48 {E : Nat → Value} {d : Nat} {st : List Value} {h : gm_H} {Q : gm_R → gm_H → Prop} {lv : List Value} {x y : Int32} : gm_W E d 14 48 lv (.int y :: .int x :: st) h Q ↔ (if y ≤ x then gm_W E d 14 103 lv st h Q else gm_W E d 14 51 lv st h Q) := (gw_br m14 f14_48 rfl rfl rfl rfl).trans gw_if
theorem f14_51 : gm_ft 14 51 = some (.iload_n 1, 1) := by decide +kernel
theorem r14_51 {E : Nat → Value} {d : Nat} {st : List Value} {h : gm_H} {Q : gm_R → gm_H → Prop} {a0 a2 : Value} {x : Int32} : gm_W E d 14 51 [a0, .int x, a2] st h Q ↔ gm_W E d 14 52 [a0, .int x, a2] (.int x :: st) h Q := gw_loc m14 f14_51 rfl rfl
theorem f14_52 : gm_ft 14 52 = some (.ifCond .ne 9, 3) := by decide +kernel
theorem r14_52 {E : Nat → Value} {d : Nat} {st : List Value} {h : gm_H} {Q : gm_R → gm_H → Prop} {lv : List Value} {x : Int32} : gm_W E d 14 52 lv (.int x :: st) h Q ↔ (if x = 0 then gm_W E d 14 55 lv st h Q else gm_W E d 14 61 lv st h Q) := (gw_br m14 f14_52 rfl rfl rfl rfl).trans gw_ifn
theorem f14_55 : gm_ft 14 55 = some (.sipush 172, 3) := by decide +kernel
theorem r14_55 {E : Nat → Value} {d : Nat} {st : List Value} {h : gm_H} {Q : gm_R → gm_H → Prop} {lv : List Value} : gm_W E d 14 55 lv st h Q ↔ gm_W E d 14 58 lv (.int (172 : Int32) :: st) h Q := gw_pure m14 f14_55 rfl
theorem f14_58 : gm_ft 14 58 = some (.goto 24, 3) := by decide +kernel
theorem r14_58 {E : Nat → Value} {d : Nat} {st : List Value} {h : gm_H} {Q : gm_R → gm_H → Prop} {lv : List Value} : gm_W E d 14 58 lv st h Q ↔ gm_W E d 14 82 lv st h Q := gw_brT m14 f14_58 rfl rfl rfl rfl
theorem f14_61 : gm_ft 14 61 = some (.iload_n 1, 1) := by decide +kernel
theorem r14_61 {E : Nat → Value} {d : Nat} {st : List Value} {h : gm_H} {Q : gm_R → gm_H → Prop} {a0 a2 : Value} {x : Int32} : gm_W E d 14 61 [a0, .int x, a2] st h Q ↔ gm_W E d 14 62 [a0, .int x, a2] (.int x :: st) h Q := gw_loc m14 f14_61 rfl rfl
theorem f14_62 : gm_ft 14 62 = some (.iconst 1, 1) := by decide +kernel
theorem r14_62 {E : Nat → Value} {d : Nat} {st : List Value} {h : gm_H} {Q : gm_R → gm_H → Prop} {lv : List Value} : gm_W E d 14 62 lv st h Q ↔ gm_W E d 14 63 lv (.int (1 : Int32) :: st) h Q := gw_pure m14 f14_62 rfl
theorem f14_63 : gm_ft 14 63 = some (.if_icmp .ne 9, 3) := by decide +kernel
theorem r14_63 {E : Nat → Value} {d : Nat} {st : List Value} {h : gm_H} {Q : gm_R → gm_H → Prop} {lv : List Value} {x y : Int32} : gm_W E d 14 63 lv (.int y :: .int x :: st) h Q ↔ (if x = y then gm_W E d 14 66 lv st h Q else gm_W E d 14 72 lv st h Q) := (gw_br m14 f14_63 rfl rfl rfl rfl).trans gw_ifn
theorem f14_66 : gm_ft 14 66 = some (.sipush 237, 3) := by decide +kernel
theorem r14_66 {E : Nat → Value} {d : Nat} {st : List Value} {h : gm_H} {Q : gm_R → gm_H → Prop} {lv : List Value} : gm_W E d 14 66 lv st h Q ↔ gm_W E d 14 69 lv (.int (237 : Int32) :: st) h Q := gw_pure m14 f14_66 rfl
theorem f14_69 : gm_ft 14 69 = some (.goto 13, 3) := by decide +kernel
theorem r14_69 {E : Nat → Value} {d : Nat} {st : List Value} {h : gm_H} {Q : gm_R → gm_H → Prop} {lv : List Value} : gm_W E d 14 69 lv st h Q ↔ gm_W E d 14 82 lv st h Q := gw_brT m14 f14_69 rfl rfl rfl rfl
theorem f14_72 : gm_ft 14 72 = some (.iload_n 1, 1) := by decide +kernel
theorem r14_72 {E : Nat → Value} {d : Nat} {st : List Value} {h : gm_H} {Q : gm_R → gm_H → Prop} {a0 a2 : Value} {x : Int32} : gm_W E d 14 72 [a0, .int x, a2] st h Q ↔ gm_W E d 14 73 [a0, .int x, a2] (.int x :: st) h Q := gw_loc m14 f14_72 rfl rfl
theorem f14_73 : gm_ft 14 73 = some (.iconst 2, 1) := by decide +kernel
theorem r14_73 {E : Nat → Value} {d : Nat} {st : List Value} {h : gm_H} {Q : gm_R → gm_H → Prop} {lv : List Value} : gm_W E d 14 73 lv st h Q ↔ gm_W E d 14 74 lv (.int (2 : Int32) :: st) h Q := gw_pure m14 f14_73 rfl
theorem f14_74 : gm_ft 14 74 = some (.if_icmp .ne 7, 3) := by decide +kernel
theorem r14_74 {E : Nat → Value} {d : Nat} {st : List Value} {h : gm_H} {Q : gm_R → gm_H → Prop} {lv : List Value} {x y : Int32} : gm_W E d 14 74 lv (.int y :: .int x :: st) h Q ↔ (if x = y then gm_W E d 14 77 lv st h Q else gm_W E d 14 81 lv st h Q) := (gw_br m14 f14_74 rfl rfl rfl rfl).trans gw_ifn
theorem f14_77 : gm_ft 14 77 = some (.iconst 0, 1) := by decide +kernel
theorem r14_77 {E : Nat → Value} {d : Nat} {st : List Value} {h : gm_H} {Q : gm_R → gm_H → Prop} {lv : List Value} : gm_W E d 14 77 lv st h Q ↔ gm_W E d 14 78 lv (.int (0 : Int32) :: st) h Q := gw_pure m14 f14_77 rfl
theorem f14_78 : gm_ft 14 78 = some (.goto 4, 3) := by decide +kernel
theorem r14_78 {E : Nat → Value} {d : Nat} {st : List Value} {h : gm_H} {Q : gm_R → gm_H → Prop} {lv : List Value} : gm_W E d 14 78 lv st h Q ↔ gm_W E d 14 82 lv st h Q := gw_brT m14 f14_78 rfl rfl rfl rfl
theorem f14_81 : gm_ft 14 81 = some (.iconst 5, 1) := by decide +kernel
theorem r14_81 {E : Nat → Value} {d : Nat} {st : List Value} {h : gm_H} {Q : gm_R → gm_H → Prop} {lv : List Value} : gm_W E d 14 81 lv st h Q ↔ gm_W E d 14 82 lv (.int (5 : Int32) :: st) h Q := gw_pure m14 f14_81 rfl
theorem f14_82 : gm_ft 14 82 = some (.istore_n 2, 1) := by decide +kernel
theorem r14_82 {E : Nat → Value} {d : Nat} {st : List Value} {h : gm_H} {Q : gm_R → gm_H → Prop} {a0 a1 a2 : Value} {x : Int32} : gm_W E d 14 82 [a0, a1, a2] (.int x :: st) h Q ↔ gm_W E d 14 83 [a0, gm_k a1, .int x] st h Q := gw_loc m14 f14_82 rfl rfl
theorem f14_83 : gm_ft 14 83 = some (.aload_n 0, 1) := by decide +kernel
theorem r14_83 {E : Nat → Value} {d : Nat} {st : List Value} {h : gm_H} {Q : gm_R → gm_H → Prop} {a1 a2 : Value} {x : Nat} : gm_W E d 14 83 [.ref x, a1, a2] st h Q ↔ gm_W E d 14 84 [.ref x, a1, a2] (.ref x :: st) h Q := gw_loc m14 f14_83 rfl rfl
theorem r14_83n {E : Nat → Value} {d : Nat} {st : List Value} {h : gm_H} {Q : gm_R → gm_H → Prop} {a1 a2 : Value}  : gm_W E d 14 83 [.null, a1, a2] st h Q ↔ gm_W E d 14 84 [.null, a1, a2] (.null :: st) h Q := gw_loc m14 f14_83 rfl rfl
theorem f14_84 : gm_ft 14 84 = some (.invokevirtual 155, 3) := by decide +kernel
theorem c14_84 {E : Nat → Value} {d : Nat} {st : List Value} {h : gm_H} {Q : gm_R → gm_H → Prop} {lv : List Value} {a : Nat} {Qc : gm_R → gm_H → Prop} (hs : (st.map fun v => v.category).sum ≤ 8) (hr : gm_kd h a = 5) (hd : 1 ≤ d) (hc : gm_Ca E (d - 1) 11 [.ref a] h Qc) (kn : ∀ (v9 : Option Value) (h9 : gm_H), Qc (.inl v9) h9 → gm_W E d 14 87 lv (v9.toList ++ st) h9 Q) (kx : ∀ (x9 : Nat) (h9 : gm_H), Qc (.inr x9) h9 → Q (.inr x9) h9) : gm_W E d 14 84 lv (.ref a :: st) h Q := gw_call (gn_call m14 f14_84 rfl rfl rfl rfl rfl rfl rfl (gs_virt (bs := []) (w := 848) (L := 1) rfl rfl rfl rfl hs (by simp [gm_en1]) hr (by decide)) (by decide)) m14 rfl rfl hd hc kn kx
theorem f14_87 : gm_ft 14 87 = some (.iload_n 2, 1) := by decide +kernel
theorem r14_87 {E : Nat → Value} {d : Nat} {st : List Value} {h : gm_H} {Q : gm_R → gm_H → Prop} {a0 a1 : Value} {x : Int32} : gm_W E d 14 87 [a0, a1, .int x] st h Q ↔ gm_W E d 14 88 [a0, a1, .int x] (.int x :: st) h Q := gw_loc m14 f14_87 rfl rfl
theorem f14_88 : gm_ft 14 88 = some (.if_icmp .eq 9, 3) := by decide +kernel
theorem r14_88 {E : Nat → Value} {d : Nat} {st : List Value} {h : gm_H} {Q : gm_R → gm_H → Prop} {lv : List Value} {x y : Int32} : gm_W E d 14 88 lv (.int y :: .int x :: st) h Q ↔ (if x = y then gm_W E d 14 97 lv st h Q else gm_W E d 14 91 lv st h Q) := (gw_br m14 f14_88 rfl rfl rfl rfl).trans gw_if
theorem f14_91 : gm_ft 14 91 = some (.aload_n 0, 1) := by decide +kernel
theorem r14_91 {E : Nat → Value} {d : Nat} {st : List Value} {h : gm_H} {Q : gm_R → gm_H → Prop} {a1 a2 : Value} {x : Nat} : gm_W E d 14 91 [.ref x, a1, a2] st h Q ↔ gm_W E d 14 92 [.ref x, a1, a2] (.ref x :: st) h Q := gw_loc m14 f14_91 rfl rfl
theorem r14_91n {E : Nat → Value} {d : Nat} {st : List Value} {h : gm_H} {Q : gm_R → gm_H → Prop} {a1 a2 : Value}  : gm_W E d 14 91 [.null, a1, a2] st h Q ↔ gm_W E d 14 92 [.null, a1, a2] (.null :: st) h Q := gw_loc m14 f14_91 rfl rfl
theorem f14_92 : gm_ft 14 92 = some (.bipush (-4), 2) := by decide +kernel
theorem r14_92 {E : Nat → Value} {d : Nat} {st : List Value} {h : gm_H} {Q : gm_R → gm_H → Prop} {lv : List Value} : gm_W E d 14 92 lv st h Q ↔ gm_W E d 14 94 lv (.int (-4 : Int32) :: st) h Q := gw_pure m14 f14_92 rfl
theorem f14_94 : gm_ft 14 94 = some (.invokevirtual 151, 3) := by decide +kernel
theorem c14_94 {E : Nat → Value} {d : Nat} {st : List Value} {h : gm_H} {Q : gm_R → gm_H → Prop} {lv : List Value} {b0 : Int32} {a : Nat} {Qc : gm_R → gm_H → Prop} (hs : (st.map fun v => v.category).sum ≤ 8) (hr : gm_kd h a = 5) (hd : 1 ≤ d) (hc : gm_Ca E (d - 1) 10 [.ref a, .int b0] h Qc) (kn : ∀ (v9 : Option Value) (h9 : gm_H), Qc (.inl v9) h9 → gm_W E d 14 97 lv (v9.toList ++ st) h9 Q) (kx : ∀ (x9 : Nat) (h9 : gm_H), Qc (.inr x9) h9 → Q (.inr x9) h9) : gm_W E d 14 94 lv (.int b0 :: .ref a :: st) h Q := gw_call (gn_call m14 f14_94 rfl rfl rfl rfl rfl rfl rfl (gs_virt (bs := [.int b0]) (w := 844) (L := 2) rfl rfl rfl rfl hs (by simp [gm_en1]) hr (by decide)) (by decide)) m14 rfl rfl hd hc kn kx
theorem f14_97 : gm_ft 14 97 = some (.iinc 1 1, 3) := by decide +kernel
theorem r14_97 {E : Nat → Value} {d : Nat} {st : List Value} {h : gm_H} {Q : gm_R → gm_H → Prop} {a0 a2 : Value} {x : Int32} : gm_W E d 14 97 [a0, .int x, a2] st h Q ↔ gm_W E d 14 100 [gm_k a0, .int (x + (1 : Int32)), a2] st h Q := gw_loc m14 f14_97 rfl rfl
theorem f14_100 : gm_ft 14 100 = some (.goto (-54), 3) := by decide +kernel
theorem r14_100 {E : Nat → Value} {d : Nat} {st : List Value} {h : gm_H} {Q : gm_R → gm_H → Prop} {lv : List Value} : gm_W E d 14 100 lv st h Q ↔ gm_W E d 14 46 lv st h Q := gw_brT m14 f14_100 rfl rfl rfl rfl
theorem f14_103 : gm_ft 14 103 = some (.aload_n 0, 1) := by decide +kernel
theorem r14_103 {E : Nat → Value} {d : Nat} {st : List Value} {h : gm_H} {Q : gm_R → gm_H → Prop} {a1 a2 : Value} {x : Nat} : gm_W E d 14 103 [.ref x, a1, a2] st h Q ↔ gm_W E d 14 104 [.ref x, a1, a2] (.ref x :: st) h Q := gw_loc m14 f14_103 rfl rfl
theorem r14_103n {E : Nat → Value} {d : Nat} {st : List Value} {h : gm_H} {Q : gm_R → gm_H → Prop} {a1 a2 : Value}  : gm_W E d 14 103 [.null, a1, a2] st h Q ↔ gm_W E d 14 104 [.null, a1, a2] (.null :: st) h Q := gw_loc m14 f14_103 rfl rfl
theorem f14_104 : gm_ft 14 104 = some (.aload_n 0, 1) := by decide +kernel
theorem r14_104 {E : Nat → Value} {d : Nat} {st : List Value} {h : gm_H} {Q : gm_R → gm_H → Prop} {a1 a2 : Value} {x : Nat} : gm_W E d 14 104 [.ref x, a1, a2] st h Q ↔ gm_W E d 14 105 [.ref x, a1, a2] (.ref x :: st) h Q := gw_loc m14 f14_104 rfl rfl
theorem r14_104n {E : Nat → Value} {d : Nat} {st : List Value} {h : gm_H} {Q : gm_R → gm_H → Prop} {a1 a2 : Value}  : gm_W E d 14 104 [.null, a1, a2] st h Q ↔ gm_W E d 14 105 [.null, a1, a2] (.null :: st) h Q := gw_loc m14 f14_104 rfl rfl
theorem f14_105 : gm_ft 14 105 = some (.getfield 145, 3) := by decide +kernel
theorem r14_105 {E : Nat → Value} {d : Nat} {st : List Value} {h : gm_H} {Q : gm_R → gm_H → Prop} {lv : List Value} {a : Nat} (hk : gm_kd h a = 5) : gm_W E d 14 105 lv (.ref a :: st) h Q ↔ gm_W E d 14 108 lv (gm_fv h a 8 :: st) h Q := gw_rd m14 f14_105 rfl rfl rfl rfl (gs_get k5_145 hk (by decide))
theorem f14_108 : gm_ft 14 108 = some (.putfield 172, 3) := by decide +kernel
theorem r14_108 {E : Nat → Value} {d : Nat} {st : List Value} {h : gm_H} {Q : gm_R → gm_H → Prop} {lv : List Value} {a : Nat} {x : Int32} (hk : gm_kd h a = 5) : gm_W E d 14 108 lv (.int x :: .ref a :: st) h Q ↔ gm_W E d 14 111 lv st (gm_sf h a 7 (.int x)) Q := gw_wr m14 f14_108 rfl rfl rfl rfl rfl (gs_put k5_172 hk (by decide) (by decide) ⟨rfl, rfl⟩ (by decide))
theorem f14_111 : gm_ft 14 111 = some (.aload_n 0, 1) := by decide +kernel
theorem r14_111 {E : Nat → Value} {d : Nat} {st : List Value} {h : gm_H} {Q : gm_R → gm_H → Prop} {a1 a2 : Value} {x : Nat} : gm_W E d 14 111 [.ref x, a1, a2] st h Q ↔ gm_W E d 14 112 [.ref x, a1, a2] (.ref x :: st) h Q := gw_loc m14 f14_111 rfl rfl
theorem r14_111n {E : Nat → Value} {d : Nat} {st : List Value} {h : gm_H} {Q : gm_R → gm_H → Prop} {a1 a2 : Value}  : gm_W E d 14 111 [.null, a1, a2] st h Q ↔ gm_W E d 14 112 [.null, a1, a2] (.null :: st) h Q := gw_loc m14 f14_111 rfl rfl
theorem f14_112 : gm_ft 14 112 = some (.getfield 145, 3) := by decide +kernel
theorem r14_112 {E : Nat → Value} {d : Nat} {st : List Value} {h : gm_H} {Q : gm_R → gm_H → Prop} {lv : List Value} {a : Nat} (hk : gm_kd h a = 5) : gm_W E d 14 112 lv (.ref a :: st) h Q ↔ gm_W E d 14 115 lv (gm_fv h a 8 :: st) h Q := gw_rd m14 f14_112 rfl rfl rfl rfl (gs_get k5_145 hk (by decide))
theorem f14_115 : gm_ft 14 115 = some (.ifCond .eq 8, 3) := by decide +kernel
theorem r14_115 {E : Nat → Value} {d : Nat} {st : List Value} {h : gm_H} {Q : gm_R → gm_H → Prop} {lv : List Value} {x : Int32} : gm_W E d 14 115 lv (.int x :: st) h Q ↔ (if x = 0 then gm_W E d 14 123 lv st h Q else gm_W E d 14 118 lv st h Q) := (gw_br m14 f14_115 rfl rfl rfl rfl).trans gw_if
theorem f14_118 : gm_ft 14 118 = some (.aload_n 0, 1) := by decide +kernel
theorem r14_118 {E : Nat → Value} {d : Nat} {st : List Value} {h : gm_H} {Q : gm_R → gm_H → Prop} {a1 a2 : Value} {x : Nat} : gm_W E d 14 118 [.ref x, a1, a2] st h Q ↔ gm_W E d 14 119 [.ref x, a1, a2] (.ref x :: st) h Q := gw_loc m14 f14_118 rfl rfl
theorem r14_118n {E : Nat → Value} {d : Nat} {st : List Value} {h : gm_H} {Q : gm_R → gm_H → Prop} {a1 a2 : Value}  : gm_W E d 14 118 [.null, a1, a2] st h Q ↔ gm_W E d 14 119 [.null, a1, a2] (.null :: st) h Q := gw_loc m14 f14_118 rfl rfl
theorem f14_119 : gm_ft 14 119 = some (.iconst 0, 1) := by decide +kernel
theorem r14_119 {E : Nat → Value} {d : Nat} {st : List Value} {h : gm_H} {Q : gm_R → gm_H → Prop} {lv : List Value} : gm_W E d 14 119 lv st h Q ↔ gm_W E d 14 120 lv (.int (0 : Int32) :: st) h Q := gw_pure m14 f14_119 rfl
theorem f14_120 : gm_ft 14 120 = some (.putfield 148, 3) := by decide +kernel
theorem r14_120 {E : Nat → Value} {d : Nat} {st : List Value} {h : gm_H} {Q : gm_R → gm_H → Prop} {lv : List Value} {a : Nat} {x : Int32} (hk : gm_kd h a = 5) : gm_W E d 14 120 lv (.int x :: .ref a :: st) h Q ↔ gm_W E d 14 123 lv st (gm_sf h a 6 (.int x)) Q := gw_wr m14 f14_120 rfl rfl rfl rfl rfl (gs_put k5_148 hk (by decide) (by decide) ⟨rfl, rfl⟩ (by decide))
theorem f14_123 : gm_ft 14 123 = some (.aload_n 0, 1) := by decide +kernel
theorem r14_123 {E : Nat → Value} {d : Nat} {st : List Value} {h : gm_H} {Q : gm_R → gm_H → Prop} {a1 a2 : Value} {x : Nat} : gm_W E d 14 123 [.ref x, a1, a2] st h Q ↔ gm_W E d 14 124 [.ref x, a1, a2] (.ref x :: st) h Q := gw_loc m14 f14_123 rfl rfl
theorem r14_123n {E : Nat → Value} {d : Nat} {st : List Value} {h : gm_H} {Q : gm_R → gm_H → Prop} {a1 a2 : Value}  : gm_W E d 14 123 [.null, a1, a2] st h Q ↔ gm_W E d 14 124 [.null, a1, a2] (.null :: st) h Q := gw_loc m14 f14_123 rfl rfl
theorem f14_124 : gm_ft 14 124 = some (.getfield 145, 3) := by decide +kernel
theorem r14_124 {E : Nat → Value} {d : Nat} {st : List Value} {h : gm_H} {Q : gm_R → gm_H → Prop} {lv : List Value} {a : Nat} (hk : gm_kd h a = 5) : gm_W E d 14 124 lv (.ref a :: st) h Q ↔ gm_W E d 14 127 lv (gm_fv h a 8 :: st) h Q := gw_rd m14 f14_124 rfl rfl rfl rfl (gs_get k5_145 hk (by decide))
theorem f14_127 : gm_ft 14 127 = some (.ifCond .eq 10, 3) := by decide +kernel
theorem r14_127 {E : Nat → Value} {d : Nat} {st : List Value} {h : gm_H} {Q : gm_R → gm_H → Prop} {lv : List Value} {x : Int32} : gm_W E d 14 127 lv (.int x :: st) h Q ↔ (if x = 0 then gm_W E d 14 137 lv st h Q else gm_W E d 14 130 lv st h Q) := (gw_br m14 f14_127 rfl rfl rfl rfl).trans gw_if
theorem f14_130 : gm_ft 14 130 = some (.aload_n 0, 1) := by decide +kernel
theorem r14_130 {E : Nat → Value} {d : Nat} {st : List Value} {h : gm_H} {Q : gm_R → gm_H → Prop} {a1 a2 : Value} {x : Nat} : gm_W E d 14 130 [.ref x, a1, a2] st h Q ↔ gm_W E d 14 131 [.ref x, a1, a2] (.ref x :: st) h Q := gw_loc m14 f14_130 rfl rfl
theorem r14_130n {E : Nat → Value} {d : Nat} {st : List Value} {h : gm_H} {Q : gm_R → gm_H → Prop} {a1 a2 : Value}  : gm_W E d 14 130 [.null, a1, a2] st h Q ↔ gm_W E d 14 131 [.null, a1, a2] (.null :: st) h Q := gw_loc m14 f14_130 rfl rfl
theorem f14_131 : gm_ft 14 131 = some (.getfield 145, 3) := by decide +kernel
theorem r14_131 {E : Nat → Value} {d : Nat} {st : List Value} {h : gm_H} {Q : gm_R → gm_H → Prop} {lv : List Value} {a : Nat} (hk : gm_kd h a = 5) : gm_W E d 14 131 lv (.ref a :: st) h Q ↔ gm_W E d 14 134 lv (gm_fv h a 8 :: st) h Q := gw_rd m14 f14_131 rfl rfl rfl rfl (gs_get k5_145 hk (by decide))
theorem f14_134 : gm_ft 14 134 = some (.goto 4, 3) := by decide +kernel
theorem r14_134 {E : Nat → Value} {d : Nat} {st : List Value} {h : gm_H} {Q : gm_R → gm_H → Prop} {lv : List Value} : gm_W E d 14 134 lv st h Q ↔ gm_W E d 14 138 lv st h Q := gw_brT m14 f14_134 rfl rfl rfl rfl
theorem f14_137 : gm_ft 14 137 = some (.iconst 4, 1) := by decide +kernel
theorem r14_137 {E : Nat → Value} {d : Nat} {st : List Value} {h : gm_H} {Q : gm_R → gm_H → Prop} {lv : List Value} : gm_W E d 14 137 lv st h Q ↔ gm_W E d 14 138 lv (.int (4 : Int32) :: st) h Q := gw_pure m14 f14_137 rfl
theorem f14_138 : gm_ft 14 138 = some (.ireturn, 1) := by decide +kernel
theorem r14_138 {E : Nat → Value} {d : Nat} {h : gm_H} {Q : gm_R → gm_H → Prop} {lv : List Value} {x : Int32} : gm_W E d 14 138 lv [.int x] h Q ↔ Q (.inl (some (.int x))) h := gw_ret m14 f14_138 rfl rfl rfl rfl rfl rfl rfl rfl (by unfold gm_rt; dsimp only; rw [if_pos ⟨rfl, rfl⟩])
