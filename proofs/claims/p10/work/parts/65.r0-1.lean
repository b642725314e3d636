/-! GraphReaderLaw.law([I)Z -/
theorem m0 : gm_mt[0]? = some (⟨"GraphReaderLaw", "law", "([I)Z"⟩, code, 4, (some .boolean), [], 7, 3) := rfl
theorem f0_0 : gm_ft 0 0 = some (.new 7, 3) := by decide +kernel
theorem r0_0 {E : Nat → Value} {d : Nat} {st : List Value} {h : gm_H} {Q : gm_R → gm_H → Prop} {lv : List Value} : gm_W E d 0 0 lv st h Q ↔ gm_W E d 0 3 lv (.ref h.1 :: st) (gm_nw h (0, [.int 0, .int 0, .int 0, .int 0, .null, .null, .int 0, .int 0, .null, .int 0, .null, .int 0, .int 0]) 13) Q := gw_nw m0 f0_0 rfl rfl rfl rfl rfl rfl rfl
theorem f0_3 : gm_ft 0 3 = some (.dup, 1) := by decide +kernel
theorem r0_3 {E : Nat → Value} {d : Nat} {st : List Value} {h : gm_H} {Q : gm_R → gm_H → Prop} {lv : List Value} {a : Nat} : gm_W E d 0 3 lv (.ref a :: st) h Q ↔ gm_W E d 0 4 lv (.ref a :: .ref a :: st) h Q := gw_pure m0 f0_3 rfl
theorem r0_3i {E : Nat → Value} {d : Nat} {st : List Value} {h : gm_H} {Q : gm_R → gm_H → Prop} {lv : List Value} {x : Int32} : gm_W E d 0 3 lv (.int x :: st) h Q ↔ gm_W E d 0 4 lv (.int x :: .int x :: st) h Q := gw_pure m0 f0_3 rfl
theorem f0_4 : gm_ft 0 4 = some (.aload_n 0, 1) := by decide +kernel
theorem r0_4 {E : Nat → Value} {d : Nat} {st : List Value} {h : gm_H} {Q : gm_R → gm_H → Prop} {a1 a2 a3 : Value} {x : Nat} : gm_W E d 0 4 [.ref x, a1, a2, a3] st h Q ↔ gm_W E d 0 5 [.ref x, a1, a2, a3] (.ref x :: st) h Q := gw_loc m0 f0_4 rfl rfl
theorem r0_4n {E : Nat → Value} {d : Nat} {st : List Value} {h : gm_H} {Q : gm_R → gm_H → Prop} {a1 a2 a3 : Value}  : gm_W E d 0 4 [.null, a1, a2, a3] st h Q ↔ gm_W E d 0 5 [.null, a1, a2, a3] (.null :: st) h Q := gw_loc m0 f0_4 rfl rfl
theorem f0_5 : gm_ft 0 5 = some (.iconst 0, 1) := by decide +kernel
theorem r0_5 {E : Nat → Value} {d : Nat} {st : List Value} {h : gm_H} {Q : gm_R → gm_H → Prop} {lv : List Value} : gm_W E d 0 5 lv st h Q ↔ gm_W E d 0 6 lv (.int (0 : Int32) :: st) h Q := gw_pure m0 f0_5 rfl
theorem f0_6 : gm_ft 0 6 = some (.invokestatic 9, 3) := by decide +kernel
theorem c0_6 {E : Nat → Value} {d : Nat} {st : List Value} {h : gm_H} {Q : gm_R → gm_H → Prop} {lv : List Value} {b0 : Value} {b1 : Int32} {Qc : gm_R → gm_H → Prop} (hs : (st.map fun v => v.category).sum ≤ 8) (he : (gm_en1 [b0, .int b1]).length ≤ 2) (hd : 1 ≤ d) (hc : gm_Ca E (d - 1) 1 [b0, .int b1] h Qc) (kn : ∀ (v9 : Option Value) (h9 : gm_H), Qc (.inl v9) h9 → gm_W E d 0 9 lv (v9.toList ++ st) h9 Q) (kx : ∀ (x9 : Nat) (h9 : gm_H), Qc (.inr x9) h9 → Q (.inr x9) h9) : gm_W E d 0 6 lv (.int b1 :: b0 :: st) h Q := gw_call (gn_call m0 f0_6 rfl rfl rfl rfl rfl rfl rfl (gc_stat (bs := [.int b1, b0]) (w := 657) (L := 2) rfl rfl rfl hs he) (by decide)) m0 rfl rfl hd hc kn kx
theorem f0_9 : gm_ft 0 9 = some (.aload_n 0, 1) := by decide +kernel
theorem r0_9 {E : Nat → Value} {d : Nat} {st : List Value} {h : gm_H} {Q : gm_R → gm_H → Prop} {a1 a2 a3 : Value} {x : Nat} : gm_W E d 0 9 [.ref x, a1, a2, a3] st h Q ↔ gm_W E d 0 10 [.ref x, a1, a2, a3] (.ref x :: st) h Q := gw_loc m0 f0_9 rfl rfl
theorem r0_9n {E : Nat → Value} {d : Nat} {st : List Value} {h : gm_H} {Q : gm_R → gm_H → Prop} {a1 a2 a3 : Value}  : gm_W E d 0 9 [.null, a1, a2, a3] st h Q ↔ gm_W E d 0 10 [.null, a1, a2, a3] (.null :: st) h Q := gw_loc m0 f0_9 rfl rfl
theorem f0_10 : gm_ft 0 10 = some (.iconst 1, 1) := by decide +kernel
theorem r0_10 {E : Nat → Value} {d : Nat} {st : List Value} {h : gm_H} {Q : gm_R → gm_H → Prop} {lv : List Value} : gm_W E d 0 10 lv st h Q ↔ gm_W E d 0 11 lv (.int (1 : Int32) :: st) h Q := gw_pure m0 f0_10 rfl
theorem f0_11 : gm_ft 0 11 = some (.invokestatic 9, 3) := by decide +kernel
theorem c0_11 {E : Nat → Value} {d : Nat} {st : List Value} {h : gm_H} {Q : gm_R → gm_H → Prop} {lv : List Value} {b0 : Value} {b1 : Int32} {Qc : gm_R → gm_H → Prop} (hs : (st.map fun v => v.category).sum ≤ 8) (he : (gm_en1 [b0, .int b1]).length ≤ 2) (hd : 1 ≤ d) (hc : gm_Ca E (d - 1) 1 [b0, .int b1] h Qc) (kn : ∀ (v9 : Option Value) (h9 : gm_H), Qc (.inl v9) h9 → gm_W E d 0 14 lv (v9.toList ++ st) h9 Q) (kx : ∀ (x9 : Nat) (h9 : gm_H), Qc (.inr x9) h9 → Q (.inr x9) h9) : gm_W E d 0 11 lv (.int b1 :: b0 :: st) h Q := gw_call (gn_call m0 f0_11 rfl rfl rfl rfl rfl rfl rfl (gc_stat (bs := [.int b1, b0]) (w := 657) (L := 2) rfl rfl rfl hs he) (by decide)) m0 rfl rfl hd hc kn kx
theorem f0_14 : gm_ft 0 14 = some (.aload_n 0, 1) := by decide +kernel
theorem r0_14 {E : Nat → Value} {d : Nat} {st : List Value} {h : gm_H} {Q : gm_R → gm_H → Prop} {a1 a2 a3 : Value} {x : Nat} : gm_W E d 0 14 [.ref x, a1, a2, a3] st h Q ↔ gm_W E d 0 15 [.ref x, a1, a2, a3] (.ref x :: st) h Q := gw_loc m0 f0_14 rfl rfl
theorem r0_14n {E : Nat → Value} {d : Nat} {st : List Value} {h : gm_H} {Q : gm_R → gm_H → Prop} {a1 a2 a3 : Value}  : gm_W E d 0 14 [.null, a1, a2, a3] st h Q ↔ gm_W E d 0 15 [.null, a1, a2, a3] (.null :: st) h Q := gw_loc m0 f0_14 rfl rfl
theorem f0_15 : gm_ft 0 15 = some (.iconst 2, 1) := by decide +kernel
theorem r0_15 {E : Nat → Value} {d : Nat} {st : List Value} {h : gm_H} {Q : gm_R → gm_H → Prop} {lv : List Value} : gm_W E d 0 15 lv st h Q ↔ gm_W E d 0 16 lv (.int (2 : Int32) :: st) h Q := gw_pure m0 f0_15 rfl
theorem f0_16 : gm_ft 0 16 = some (.invokestatic 9, 3) := by decide +kernel
theorem c0_16 {E : Nat → Value} {d : Nat} {st : List Value} {h : gm_H} {Q : gm_R → gm_H → Prop} {lv : List Value} {b0 : Value} {b1 : Int32} {Qc : gm_R → gm_H → Prop} (hs : (st.map fun v => v.category).sum ≤ 8) (he : (gm_en1 [b0, .int b1]).length ≤ 2) (hd : 1 ≤ d) (hc : gm_Ca E (d - 1) 1 [b0, .int b1] h Qc) (kn : ∀ (v9 : Option Value) (h9 : gm_H), Qc (.inl v9) h9 → gm_W E d 0 19 lv (v9.toList ++ st) h9 Q) (kx : ∀ (x9 : Nat) (h9 : gm_H), Qc (.inr x9) h9 → Q (.inr x9) h9) : gm_W E d 0 16 lv (.int b1 :: b0 :: st) h Q := gw_call (gn_call m0 f0_16 rfl rfl rfl rfl rfl rfl rfl (gc_stat (bs := [.int b1, b0]) (w := 657) (L := 2) rfl rfl rfl hs he) (by decide)) m0 rfl rfl hd hc kn kx
theorem f0_19 : gm_ft 0 19 = some (.aload_n 0, 1) := by decide +kernel
theorem r0_19 {E : Nat → Value} {d : Nat} {st : List Value} {h : gm_H} {Q : gm_R → gm_H → Prop} {a1 a2 a3 : Value} {x : Nat} : gm_W E d 0 19 [.ref x, a1, a2, a3] st h Q ↔ gm_W E d 0 20 [.ref x, a1, a2, a3] (.ref x :: st) h Q := gw_loc m0 f0_19 rfl rfl
theorem r0_19n {E : Nat → Value} {d : Nat} {st : List Value} {h : gm_H} {Q : gm_R → gm_H → Prop} {a1 a2 a3 : Value}  : gm_W E d 0 19 [.null, a1, a2, a3] st h Q ↔ gm_W E d 0 20 [.null, a1, a2, a3] (.null :: st) h Q := gw_loc m0 f0_19 rfl rfl
theorem f0_20 : gm_ft 0 20 = some (.iconst 3, 1) := by decide +kernel
theorem r0_20 {E : Nat → Value} {d : Nat} {st : List Value} {h : gm_H} {Q : gm_R → gm_H → Prop} {lv : List Value} : gm_W E d 0 20 lv st h Q ↔ gm_W E d 0 21 lv (.int (3 : Int32) :: st) h Q := gw_pure m0 f0_20 rfl
theorem f0_21 : gm_ft 0 21 = some (.invokestatic 9, 3) := by decide +kernel
theorem c0_21 {E : Nat → Value} {d : Nat} {st : List Value} {h : gm_H} {Q : gm_R → gm_H → Prop} {lv : List Value} {b0 : Value} {b1 : Int32} {Qc : gm_R → gm_H → Prop} (hs : (st.map fun v => v.category).sum ≤ 8) (he : (gm_en1 [b0, .int b1]).length ≤ 2) (hd : 1 ≤ d) (hc : gm_Ca E (d - 1) 1 [b0, .int b1] h Qc) (kn : ∀ (v9 : Option Value) (h9 : gm_H), Qc (.inl v9) h9 → gm_W E d 0 24 lv (v9.toList ++ st) h9 Q) (kx : ∀ (x9 : Nat) (h9 : gm_H), Qc (.inr x9) h9 → Q (.inr x9) h9) : gm_W E d 0 21 lv (.int b1 :: b0 :: st) h Q := gw_call (gn_call m0 f0_21 rfl rfl rfl rfl rfl rfl rfl (gc_stat (bs := [.int b1, b0]) (w := 657) (L := 2) rfl rfl rfl hs he) (by decide)) m0 rfl rfl hd hc kn kx
theorem f0_24 : gm_ft 0 24 = some (.invokespecial 15, 3) := by decide +kernel
theorem c0_24 {E : Nat → Value} {d : Nat} {st : List Value} {h : gm_H} {Q : gm_R → gm_H → Prop} {lv : List Value} {b0 : Int32} {b1 : Int32} {b2 : Int32} {b3 : Int32} {a : Nat} {Qc : gm_R → gm_H → Prop} (hs : (st.map fun v => v.category).sum ≤ 8) (hd : 1 ≤ d) (hc : gm_Ca E (d - 1) 51 [.ref a, .int b0, .int b1, .int b2, .int b3] h Qc) (kn : ∀ (v9 : Option Value) (h9 : gm_H), Qc (.inl v9) h9 → gm_W E d 0 27 lv (v9.toList ++ st) h9 Q) (kx : ∀ (x9 : Nat) (h9 : gm_H), Qc (.inr x9) h9 → Q (.inr x9) h9) : gm_W E d 0 24 lv (.int b3 :: .int b2 :: .int b1 :: .int b0 :: .ref a :: st) h Q := gw_call (gn_call m0 f0_24 rfl rfl rfl rfl rfl rfl rfl (gc_init (bs := [.int b3, .int b2, .int b1, .int b0]) (w := 19) (L := 5) rfl rfl rfl hs (by simp [gm_en1]) (by decide)) (by decide)) m0 rfl rfl hd hc kn kx
theorem f0_27 : gm_ft 0 27 = some (.astore_n 1, 1) := by decide +kernel
theorem r0_27 {E : Nat → Value} {d : Nat} {st : List Value} {h : gm_H} {Q : gm_R → gm_H → Prop} {a0 a1 a2 a3 : Value} {x : Nat} : gm_W E d 0 27 [a0, a1, a2, a3] (.ref x :: st) h Q ↔ gm_W E d 0 28 [gm_k a0, .ref x, a2, a3] st h Q := gw_loc m0 f0_27 rfl rfl
theorem r0_27n {E : Nat → Value} {d : Nat} {st : List Value} {h : gm_H} {Q : gm_R → gm_H → Prop} {a0 a1 a2 a3 : Value}  : gm_W E d 0 27 [a0, a1, a2, a3] (.null :: st) h Q ↔ gm_W E d 0 28 [gm_k a0, .null, a2, a3] st h Q := gw_loc m0 f0_27 rfl rfl
theorem f0_28 : gm_ft 0 28 = some (.new 18, 3) := by decide +kernel
theorem r0_28 {E : Nat → Value} {d : Nat} {st : List Value} {h : gm_H} {Q : gm_R → gm_H → Prop} {lv : List Value} : gm_W E d 0 28 lv st h Q ↔ gm_W E d 0 31 lv (.ref h.1 :: st) (gm_nw h (5, [.int 0, .int 0, .int 0, .int 0, .null, .int 0, .int 0, .int 0, .int 0, .int 0, .null, .null, .null, .null, .null, .null, .null, .null, .null, .null, .null, .null, .null, .int 0, .null, .int 0, .null, .null, .int 0, .null, .null, .null, .null, .null, .null, .null, .null, .null, .null, .int 0, .null, .null, .null, .null, .null, .null, .null, .int 0]) 48) Q := gw_nw m0 f0_28 rfl rfl rfl rfl rfl rfl rfl
theorem f0_31 : gm_ft 0 31 = some (.dup, 1) := by decide +kernel
theorem r0_31 {E : Nat → Value} {d : Nat} {st : List Value} {h : gm_H} {Q : gm_R → gm_H → Prop} {lv : List Value} {a : Nat} : gm_W E d 0 31 lv (.ref a :: st) h Q ↔ gm_W E d 0 32 lv (.ref a :: .ref a :: st) h Q := gw_pure m0 f0_31 rfl
theorem r0_31i {E : Nat → Value} {d : Nat} {st : List Value} {h : gm_H} {Q : gm_R → gm_H → Prop} {lv : List Value} {x : Int32} : gm_W E d 0 31 lv (.int x :: st) h Q ↔ gm_W E d 0 32 lv (.int x :: .int x :: st) h Q := gw_pure m0 f0_31 rfl
theorem f0_32 : gm_ft 0 32 = some (.aload_n 0, 1) := by decide +kernel
theorem r0_32 {E : Nat → Value} {d : Nat} {st : List Value} {h : gm_H} {Q : gm_R → gm_H → Prop} {a1 a2 a3 : Value} {x : Nat} : gm_W E d 0 32 [.ref x, a1, a2, a3] st h Q ↔ gm_W E d 0 33 [.ref x, a1, a2, a3] (.ref x :: st) h Q := gw_loc m0 f0_32 rfl rfl
theorem r0_32n {E : Nat → Value} {d : Nat} {st : List Value} {h : gm_H} {Q : gm_R → gm_H → Prop} {a1 a2 a3 : Value}  : gm_W E d 0 32 [.null, a1, a2, a3] st h Q ↔ gm_W E d 0 33 [.null, a1, a2, a3] (.null :: st) h Q := gw_loc m0 f0_32 rfl rfl
theorem f0_33 : gm_ft 0 33 = some (.iconst 0, 1) := by decide +kernel
theorem r0_33 {E : Nat → Value} {d : Nat} {st : List Value} {h : gm_H} {Q : gm_R → gm_H → Prop} {lv : List Value} : gm_W E d 0 33 lv st h Q ↔ gm_W E d 0 34 lv (.int (0 : Int32) :: st) h Q := gw_pure m0 f0_33 rfl
theorem f0_34 : gm_ft 0 34 = some (.invokestatic 9, 3) := by decide +kernel
theorem c0_34 {E : Nat → Value} {d : Nat} {st : List Value} {h : gm_H} {Q : gm_R → gm_H → Prop} {lv : List Value} {b0 : Value} {b1 : Int32} {Qc : gm_R → gm_H → Prop} (hs : (st.map fun v => v.category).sum ≤ 8) (he : (gm_en1 [b0, .int b1]).length ≤ 2) (hd : 1 ≤ d) (hc : gm_Ca E (d - 1) 1 [b0, .int b1] h Qc) (kn : ∀ (v9 : Option Value) (h9 : gm_H), Qc (.inl v9) h9 → gm_W E d 0 37 lv (v9.toList ++ st) h9 Q) (kx : ∀ (x9 : Nat) (h9 : gm_H), Qc (.inr x9) h9 → Q (.inr x9) h9) : gm_W E d 0 34 lv (.int b1 :: b0 :: st) h Q := gw_call (gn_call m0 f0_34 rfl rfl rfl rfl rfl rfl rfl (gc_stat (bs := [.int b1, b0]) (w := 657) (L := 2) rfl rfl rfl hs he) (by decide)) m0 rfl rfl hd hc kn kx
theorem f0_37 : gm_ft 0 37 = some (.aload_n 0, 1) := by decide +kernel
theorem r0_37 {E : Nat → Value} {d : Nat} {st : List Value} {h : gm_H} {Q : gm_R → gm_H → Prop} {a1 a2 a3 : Value} {x : Nat} : gm_W E d 0 37 [.ref x, a1, a2, a3] st h Q ↔ gm_W E d 0 38 [.ref x, a1, a2, a3] (.ref x :: st) h Q := gw_loc m0 f0_37 rfl rfl
theorem r0_37n {E : Nat → Value} {d : Nat} {st : List Value} {h : gm_H} {Q : gm_R → gm_H → Prop} {a1 a2 a3 : Value}  : gm_W E d 0 37 [.null, a1, a2, a3] st h Q ↔ gm_W E d 0 38 [.null, a1, a2, a3] (.null :: st) h Q := gw_loc m0 f0_37 rfl rfl
theorem f0_38 : gm_ft 0 38 = some (.iconst 1, 1) := by decide +kernel
theorem r0_38 {E : Nat → Value} {d : Nat} {st : List Value} {h : gm_H} {Q : gm_R → gm_H → Prop} {lv : List Value} : gm_W E d 0 38 lv st h Q ↔ gm_W E d 0 39 lv (.int (1 : Int32) :: st) h Q := gw_pure m0 f0_38 rfl
theorem f0_39 : gm_ft 0 39 = some (.invokestatic 9, 3) := by decide +kernel
theorem c0_39 {E : Nat → Value} {d : Nat} {st : List Value} {h : gm_H} {Q : gm_R → gm_H → Prop} {lv : List Value} {b0 : Value} {b1 : Int32} {Qc : gm_R → gm_H → Prop} (hs : (st.map fun v => v.category).sum ≤ 8) (he : (gm_en1 [b0, .int b1]).length ≤ 2) (hd : 1 ≤ d) (hc : gm_Ca E (d - 1) 1 [b0, .int b1] h Qc) (kn : ∀ (v9 : Option Value) (h9 : gm_H), Qc (.inl v9) h9 → gm_W E d 0 42 lv (v9.toList ++ st) h9 Q) (kx : ∀ (x9 : Nat) (h9 : gm_H), Qc (.inr x9) h9 → Q (.inr x9) h9) : gm_W E d 0 39 lv (.int b1 :: b0 :: st) h Q := gw_call (gn_call m0 f0_39 rfl rfl rfl rfl rfl rfl rfl (gc_stat (bs := [.int b1, b0]) (w := 657) (L := 2) rfl rfl rfl hs he) (by decide)) m0 rfl rfl hd hc kn kx
theorem f0_42 : gm_ft 0 42 = some (.aload_n 0, 1) := by decide +kernel
theorem r0_42 {E : Nat → Value} {d : Nat} {st : List Value} {h : gm_H} {Q : gm_R → gm_H → Prop} {a1 a2 a3 : Value} {x : Nat} : gm_W E d 0 42 [.ref x, a1, a2, a3] st h Q ↔ gm_W E d 0 43 [.ref x, a1, a2, a3] (.ref x :: st) h Q := gw_loc m0 f0_42 rfl rfl
theorem r0_42n {E : Nat → Value} {d : Nat} {st : List Value} {h : gm_H} {Q : gm_R → gm_H → Prop} {a1 a2 a3 : Value}  : gm_W E d 0 42 [.null, a1, a2, a3] st h Q ↔ gm_W E d 0 43 [.null, a1, a2, a3] (.null :: st) h Q := gw_loc m0 f0_42 rfl rfl
theorem f0_43 : gm_ft 0 43 = some (.iconst 2, 1) := by decide +kernel
theorem r0_43 {E : Nat → Value} {d : Nat} {st : List Value} {h : gm_H} {Q : gm_R → gm_H → Prop} {lv : List Value} : gm_W E d 0 43 lv st h Q ↔ gm_W E d 0 44 lv (.int (2 : Int32) :: st) h Q := gw_pure m0 f0_43 rfl
theorem f0_44 : gm_ft 0 44 = some (.invokestatic 9, 3) := by decide +kernel
theorem c0_44 {E : Nat → Value} {d : Nat} {st : List Value} {h : gm_H} {Q : gm_R → gm_H → Prop} {lv : List Value} {b0 : Value} {b1 : Int32} {Qc : gm_R → gm_H → Prop} (hs : (st.map fun v => v.category).sum ≤ 8) (he : (gm_en1 [b0, .int b1]).length ≤ 2) (hd : 1 ≤ d) (hc : gm_Ca E (d - 1) 1 [b0, .int b1] h Qc) (kn : ∀ (v9 : Option Value) (h9 : gm_H), Qc (.inl v9) h9 → gm_W E d 0 47 lv (v9.toList ++ st) h9 Q) (kx : ∀ (x9 : Nat) (h9 : gm_H), Qc (.inr x9) h9 → Q (.inr x9) h9) : gm_W E d 0 44 lv (.int b1 :: b0 :: st) h Q := gw_call (gn_call m0 f0_44 rfl rfl rfl rfl rfl rfl rfl (gc_stat (bs := [.int b1, b0]) (w := 657) (L := 2) rfl rfl rfl hs he) (by decide)) m0 rfl rfl hd hc kn kx
theorem f0_47 : gm_ft 0 47 = some (.aload_n 0, 1) := by decide +kernel
theorem r0_47 {E : Nat → Value} {d : Nat} {st : List Value} {h : gm_H} {Q : gm_R → gm_H → Prop} {a1 a2 a3 : Value} {x : Nat} : gm_W E d 0 47 [.ref x, a1, a2, a3] st h Q ↔ gm_W E d 0 48 [.ref x, a1, a2, a3] (.ref x :: st) h Q := gw_loc m0 f0_47 rfl rfl
theorem r0_47n {E : Nat → Value} {d : Nat} {st : List Value} {h : gm_H} {Q : gm_R → gm_H → Prop} {a1 a2 a3 : Value}  : gm_W E d 0 47 [.null, a1, a2, a3] st h Q ↔ gm_W E d 0 48 [.null, a1, a2, a3] (.null :: st) h Q := gw_loc m0 f0_47 rfl rfl
theorem f0_48 : gm_ft 0 48 = some (.iconst 3, 1) := by decide +kernel
theorem r0_48 {E : Nat → Value} {d : Nat} {st : List Value} {h : gm_H} {Q : gm_R → gm_H → Prop} {lv : List Value} : gm_W E d 0 48 lv st h Q ↔ gm_W E d 0 49 lv (.int (3 : Int32) :: st) h Q := gw_pure m0 f0_48 rfl
theorem f0_49 : gm_ft 0 49 = some (.invokestatic 9, 3) := by decide +kernel
theorem c0_49 {E : Nat → Value} {d : Nat} {st : List Value} {h : gm_H} {Q : gm_R → gm_H → Prop} {lv : List Value} {b0 : Value} {b1 : Int32} {Qc : gm_R → gm_H → Prop} (hs : (st.map fun v => v.category).sum ≤ 8) (he : (gm_en1 [b0, .int b1]).length ≤ 2) (hd : 1 ≤ d) (hc : gm_Ca E (d - 1) 1 [b0, .int b1] h Qc) (kn : ∀ (v9 : Option Value) (h9 : gm_H), Qc (.inl v9) h9 → gm_W E d 0 52 lv (v9.toList ++ st) h9 Q) (kx : ∀ (x9 : Nat) (h9 : gm_H), Qc (.inr x9) h9 → Q (.inr x9) h9) : gm_W E d 0 49 lv (.int b1 :: b0 :: st) h Q := gw_call (gn_call m0 f0_49 rfl rfl rfl rfl rfl rfl rfl (gc_stat (bs := [.int b1, b0]) (w := 657) (L := 2) rfl rfl rfl hs he) (by decide)) m0 rfl rfl hd hc kn kx
theorem f0_52 : gm_ft 0 52 = some (.invokespecial 20, 3) := by decide +kernel
theorem c0_52 {E : Nat → Value} {d : Nat} {st : List Value} {h : gm_H} {Q : gm_R → gm_H → Prop} {lv : List Value} {b0 : Int32} {b1 : Int32} {b2 : Int32} {b3 : Int32} {a : Nat} {Qc : gm_R → gm_H → Prop} (hs : (st.map fun v => v.category).sum ≤ 8) (hd : 1 ≤ d) (hc : gm_Ca E (d - 1) 2 [.ref a, .int b0, .int b1, .int b2, .int b3] h Qc) (kn : ∀ (v9 : Option Value) (h9 : gm_H), Qc (.inl v9) h9 → gm_W E d 0 55 lv (v9.toList ++ st) h9 Q) (kx : ∀ (x9 : Nat) (h9 : gm_H), Qc (.inr x9) h9 → Q (.inr x9) h9) : gm_W E d 0 52 lv (.int b3 :: .int b2 :: .int b1 :: .int b0 :: .ref a :: st) h Q := gw_call (gn_call m0 f0_52 rfl rfl rfl rfl rfl rfl rfl (gc_init (bs := [.int b3, .int b2, .int b1, .int b0]) (w := 662) (L := 6) rfl rfl rfl hs (by simp [gm_en1]) (by decide)) (by decide)) m0 rfl rfl hd hc kn kx
theorem f0_55 : gm_ft 0 55 = some (.astore_n 2, 1) := by decide +kernel
theorem r0_55 {E : Nat → Value} {d : Nat} {st : List Value} {h : gm_H} {Q : gm_R → gm_H → Prop} {a0 a1 a2 a3 : Value} {x : Nat} : gm_W E d 0 55 [a0, a1, a2, a3] (.ref x :: st) h Q ↔ gm_W E d 0 56 [a0, gm_k a1, .ref x, a3] st h Q := gw_loc m0 f0_55 rfl rfl
theorem r0_55n {E : Nat → Value} {d : Nat} {st : List Value} {h : gm_H} {Q : gm_R → gm_H → Prop} {a0 a1 a2 a3 : Value}  : gm_W E d 0 55 [a0, a1, a2, a3] (.null :: st) h Q ↔ gm_W E d 0 56 [a0, gm_k a1, .null, a3] st h Q := gw_loc m0 f0_55 rfl rfl
theorem f0_56 : gm_ft 0 56 = some (.iconst 4, 1) := by decide +kernel
theorem r0_56 {E : Nat → Value} {d : Nat} {st : List Value} {h : gm_H} {Q : gm_R → gm_H → Prop} {lv : List Value} : gm_W E d 0 56 lv st h Q ↔ gm_W E d 0 57 lv (.int (4 : Int32) :: st) h Q := gw_pure m0 f0_56 rfl
theorem f0_57 : gm_ft 0 57 = some (.istore_n 3, 1) := by decide +kernel
theorem r0_57 {E : Nat → Value} {d : Nat} {st : List Value} {h : gm_H} {Q : gm_R → gm_H → Prop} {a0 a1 a2 a3 : Value} {x : Int32} : gm_W E d 0 57 [a0, a1, a2, a3] (.int x :: st) h Q ↔ gm_W E d 0 58 [a0, a1, gm_k a2, .int x] st h Q := gw_loc m0 f0_57 rfl rfl
theorem f0_58 : gm_ft 0 58 = some (.iload_n 3, 1) := by decide +kernel
theorem r0_58 {E : Nat → Value} {d : Nat} {st : List Value} {h : gm_H} {Q : gm_R → gm_H → Prop} {a0 a1 a2 : Value} {x : Int32} : gm_W E d 0 58 [a0, a1, a2, .int x] st h Q ↔ gm_W E d 0 59 [a0, a1, a2, .int x] (.int x :: st) h Q := gw_loc m0 f0_58 rfl rfl
theorem f0_59 : gm_ft 0 59 = some (.aload_n 0, 1) := by decide +kernel
theorem r0_59 {E : Nat → Value} {d : Nat} {st : List Value} {h : gm_H} {Q : gm_R → gm_H → Prop} {a1 a2 a3 : Value} {x : Nat} : gm_W E d 0 59 [.ref x, a1, a2, a3] st h Q ↔ gm_W E d 0 60 [.ref x, a1, a2, a3] (.ref x :: st) h Q := gw_loc m0 f0_59 rfl rfl
theorem r0_59n {E : Nat → Value} {d : Nat} {st : List Value} {h : gm_H} {Q : gm_R → gm_H → Prop} {a1 a2 a3 : Value}  : gm_W E d 0 59 [.null, a1, a2, a3] st h Q ↔ gm_W E d 0 60 [.null, a1, a2, a3] (.null :: st) h Q := gw_loc m0 f0_59 rfl rfl
theorem f0_60 : gm_ft 0 60 = some (.arraylength, 1) := by decide +kernel
theorem r0_60 {E : Nat → Value} {d : Nat} {st : List Value} {h : gm_H} {Q : gm_R → gm_H → Prop} {lv : List Value} {a : Nat} (hk : 100 ≤ gm_kd h a ∧ gm_kd h a < 900) : gm_W E d 0 60 lv (.ref a :: st) h Q ↔ gm_W E d 0 61 lv (.int (nI (gm_ln h a)) :: st) h Q := gw_rd m0 f0_60 rfl rfl rfl rfl (gs_len hk)
theorem f0_61 : gm_ft 0 61 = some (.bipush 6, 2) := by decide +kernel
theorem r0_61 {E : Nat → Value} {d : Nat} {st : List Value} {h : gm_H} {Q : gm_R → gm_H → Prop} {lv : List Value} : gm_W E d 0 61 lv st h Q ↔ gm_W E d 0 63 lv (.int (6 : Int32) :: st) h Q := gw_pure m0 f0_61 rfl
theorem f0_63 : gm_ft 0 63 = some (.isub, 1) := by decide +kernel
theorem r0_63 {E : Nat → Value} {d : Nat} {st : List Value} {h : gm_H} {Q : gm_R → gm_H → Prop} {lv : List Value} {x y : Int32} : gm_W E d 0 63 lv (.int y :: .int x :: st) h Q ↔ gm_W E d 0 64 lv (.int (x - y) :: st) h Q := gw_pure m0 f0_63 rfl
theorem f0_64 : gm_ft 0 64 = some (.if_icmp .gt 447, 3) := by decide +kernel
theorem r0_64 {E : Nat → Value} {d : Nat} {st : List Value} {h : gm_H} {Q : gm_R → gm_H → Prop} {lv : List Value} {x y : Int32} : gm_W E d 0 64 lv (.int y :: .int x :: st) h Q ↔ (if y < x then gm_W E d 0 511 lv st h Q else gm_W E d 0 67 lv st h Q) := (gw_br m0 f0_64 rfl rfl rfl rfl).trans gw_if
theorem f0_67 : gm_ft 0 67 = some (.aload_n 0, 1) := by decide +kernel
theorem r0_67 {E : Nat → Value} {d : Nat} {st : List Value} {h : gm_H} {Q : gm_R → gm_H → Prop} {a1 a2 a3 : Value} {x : Nat} : gm_W E d 0 67 [.ref x, a1, a2, a3] st h Q ↔ gm_W E d 0 68 [.ref x, a1, a2, a3] (.ref x :: st) h Q := gw_loc m0 f0_67 rfl rfl
theorem r0_67n {E : Nat → Value} {d : Nat} {st : List Value} {h : gm_H} {Q : gm_R → gm_H → Prop} {a1 a2 a3 : Value}  : gm_W E d 0 67 [.null, a1, a2, a3] st h Q ↔ gm_W E d 0 68 [.null, a1, a2, a3] (.null :: st) h Q := gw_loc m0 f0_67 rfl rfl
theorem f0_68 : gm_ft 0 68 = some (.iload_n 3, 1) := by decide +kernel
theorem r0_68 {E : Nat → Value} {d : Nat} {st : List Value} {h : gm_H} {Q : gm_R → gm_H → Prop} {a0 a1 a2 : Value} {x : Int32} : gm_W E d 0 68 [a0, a1, a2, .int x] st h Q ↔ gm_W E d 0 69 [a0, a1, a2, .int x] (.int x :: st) h Q := gw_loc m0 f0_68 rfl rfl
theorem f0_69 : gm_ft 0 69 = some (.iaload, 1) := by decide +kernel
theorem r0_69 {E : Nat → Value} {d : Nat} {st : List Value} {h : gm_H} {Q : gm_R → gm_H → Prop} {lv : List Value} {a j : Nat} (hk : gm_kd h a % 100 = 0 ∧ 100 ≤ gm_kd h a ∧ gm_kd h a < 900) (hj : j < gm_ln h a) (hl : gm_ln h a < 2 ^ 31) : gm_W E d 0 69 lv (.int (nI j) :: .ref a :: st) h Q ↔ gm_W E d 0 70 lv (gm_fv h a j :: st) h Q := gw_rd m0 f0_69 rfl rfl rfl rfl (gs_ld (P := fun t => t == 0) hk.2 (by have := hk.1; simp [this] <;> omega) hj hl)
theorem f0_70 : gm_ft 0 70 = some (.bipush 15, 2) := by decide +kernel
theorem r0_70 {E : Nat → Value} {d : Nat} {st : List Value} {h : gm_H} {Q : gm_R → gm_H → Prop} {lv : List Value} : gm_W E d 0 70 lv st h Q ↔ gm_W E d 0 72 lv (.int (15 : Int32) :: st) h Q := gw_pure m0 f0_70 rfl
theorem f0_72 : gm_ft 0 72 = some (.iand, 1) := by decide +kernel
theorem r0_72 {E : Nat → Value} {d : Nat} {st : List Value} {h : gm_H} {Q : gm_R → gm_H → Prop} {lv : List Value} {x y : Int32} : gm_W E d 0 72 lv (.int y :: .int x :: st) h Q ↔ gm_W E d 0 73 lv (.int (x &&& y) :: st) h Q := gw_pure m0 f0_72 rfl
theorem f0_73 : gm_ft 0 73 = some (.tableswitch 432 0 9 #[55, 138, 181, 240, 303, 316, 329, 342, 375, 409], 55) := by decide +kernel
theorem e0_73d {E : Nat → Value} {d : Nat} {st : List Value} {h : gm_H} {Q : gm_R → gm_H → Prop} {lv : List Value} {x : Int32} (hx : x.toInt < 0 ∨ 9 < x.toInt) : gm_W E d 0 73 lv (.int x :: st) h Q ↔ gm_W E d 0 505 lv st h Q := gw_sw m0 f0_73 rfl rfl rfl (by unfold gm_sw; dsimp only; rw [if_pos hx]) rfl
theorem r0_73 {E : Nat → Value} {d : Nat} {st : List Value} {h : gm_H} {Q : gm_R → gm_H → Prop} {lv : List Value} {x : Int32} : gm_W E d 0 73 lv (.int x :: st) h Q ↔ (if x = (0 : Int32) then gm_W E d 0 128 lv st h Q else (if x = (1 : Int32) then gm_W E d 0 211 lv st h Q else (if x = (2 : Int32) then gm_W E d 0 254 lv st h Q else (if x = (3 : Int32) then gm_W E d 0 313 lv st h Q else (if x = (4 : Int32) then gm_W E d 0 376 lv st h Q else (if x = (5 : Int32) then gm_W E d 0 389 lv st h Q else (if x = (6 : Int32) then gm_W E d 0 402 lv st h Q else (if x = (7 : Int32) then gm_W E d 0 415 lv st h Q else (if x = (8 : Int32) then gm_W E d 0 448 lv st h Q else (if x = (9 : Int32) then gm_W E d 0 482 lv st h Q else gm_W E d 0 505 lv st h Q)))))))))) := by
  by_cases z0 : x = (0 : Int32)
  · subst z0; rw [gw_sw m0 f0_73 rfl rfl rfl rfl rfl]; simp
  rw [if_neg z0]
  by_cases z1 : x = (1 : Int32)
  · subst z1; rw [gw_sw m0 f0_73 rfl rfl rfl rfl rfl]; simp
  rw [if_neg z1]
  by_cases z2 : x = (2 : Int32)
  · subst z2; rw [gw_sw m0 f0_73 rfl rfl rfl rfl rfl]; simp
  rw [if_neg z2]
  by_cases z3 : x = (3 : Int32)
  · subst z3; rw [gw_sw m0 f0_73 rfl rfl rfl rfl rfl]; simp
  rw [if_neg z3]
  by_cases z4 : x = (4 : Int32)
  · subst z4; rw [gw_sw m0 f0_73 rfl rfl rfl rfl rfl]; simp
  rw [if_neg z4]
  by_cases z5 : x = (5 : Int32)
  · subst z5; rw [gw_sw m0 f0_73 rfl rfl rfl rfl rfl]; simp
  rw [if_neg z5]
  by_cases z6 : x = (6 : Int32)
  · subst z6; rw [gw_sw m0 f0_73 rfl rfl rfl rfl rfl]; simp
  rw [if_neg z6]
  by_cases z7 : x = (7 : Int32)
  · subst z7; rw [gw_sw m0 f0_73 rfl rfl rfl rfl rfl]; simp
  rw [if_neg z7]
  by_cases z8 : x = (8 : Int32)
  · subst z8; rw [gw_sw m0 f0_73 rfl rfl rfl rfl rfl]; simp
  rw [if_neg z8]
  by_cases z9 : x = (9 : Int32)
  · subst z9; rw [gw_sw m0 f0_73 rfl rfl rfl rfl rfl]; simp
  rw [if_neg z9]
  exact e0_73d (gm_tsw (n := 10) (by decide) (by decide) (fun k hk => by
    have hk : k < 10 := hk
    match k, hk with
    | 0, _ => exact z0
    | 1, _ => exact z1
    | 2, _ => exact z2
    | 3, _ => exact z3
    | 4, _ => exact z4
    | 5, _ => exact z5
    | 6, _ => exact z6
    | 7, _ => exact z7
    | 8, _ => exact z8
    | 9, _ => exact z9
    | k + 10, hk => omega))
theorem f0_128 : gm_ft 0 128 = some (.aload_n 1, 1) := by decide +kernel
theorem r0_128 {E : Nat → Value} {d : Nat} {st : List Value} {h : gm_H} {Q : gm_R → gm_H → Prop} {a0 a2 a3 : Value} {x : Nat} : gm_W E d 0 128 [a0, .ref x, a2, a3] st h Q ↔ gm_W E d 0 129 [a0, .ref x, a2, a3] (.ref x :: st) h Q := gw_loc m0 f0_128 rfl rfl
theorem r0_128n {E : Nat → Value} {d : Nat} {st : List Value} {h : gm_H} {Q : gm_R → gm_H → Prop} {a0 a2 a3 : Value}  : gm_W E d 0 128 [a0, .null, a2, a3] st h Q ↔ gm_W E d 0 129 [a0, .null, a2, a3] (.null :: st) h Q := gw_loc m0 f0_128 rfl rfl
theorem f0_129 : gm_ft 0 129 = some (.aload_n 0, 1) := by decide +kernel
theorem r0_129 {E : Nat → Value} {d : Nat} {st : List Value} {h : gm_H} {Q : gm_R → gm_H → Prop} {a1 a2 a3 : Value} {x : Nat} : gm_W E d 0 129 [.ref x, a1, a2, a3] st h Q ↔ gm_W E d 0 130 [.ref x, a1, a2, a3] (.ref x :: st) h Q := gw_loc m0 f0_129 rfl rfl
theorem r0_129n {E : Nat → Value} {d : Nat} {st : List Value} {h : gm_H} {Q : gm_R → gm_H → Prop} {a1 a2 a3 : Value}  : gm_W E d 0 129 [.null, a1, a2, a3] st h Q ↔ gm_W E d 0 130 [.null, a1, a2, a3] (.null :: st) h Q := gw_loc m0 f0_129 rfl rfl
theorem f0_130 : gm_ft 0 130 = some (.iload_n 3, 1) := by decide +kernel
theorem r0_130 {E : Nat → Value} {d : Nat} {st : List Value} {h : gm_H} {Q : gm_R → gm_H → Prop} {a0 a1 a2 : Value} {x : Int32} : gm_W E d 0 130 [a0, a1, a2, .int x] st h Q ↔ gm_W E d 0 131 [a0, a1, a2, .int x] (.int x :: st) h Q := gw_loc m0 f0_130 rfl rfl
theorem f0_131 : gm_ft 0 131 = some (.iconst 1, 1) := by decide +kernel
theorem r0_131 {E : Nat → Value} {d : Nat} {st : List Value} {h : gm_H} {Q : gm_R → gm_H → Prop} {lv : List Value} : gm_W E d 0 131 lv st h Q ↔ gm_W E d 0 132 lv (.int (1 : Int32) :: st) h Q := gw_pure m0 f0_131 rfl
theorem f0_132 : gm_ft 0 132 = some (.iadd, 1) := by decide +kernel
theorem r0_132 {E : Nat → Value} {d : Nat} {st : List Value} {h : gm_H} {Q : gm_R → gm_H → Prop} {lv : List Value} {x y : Int32} : gm_W E d 0 132 lv (.int y :: .int x :: st) h Q ↔ gm_W E d 0 133 lv (.int (x + y) :: st) h Q := gw_pure m0 f0_132 rfl
theorem f0_133 : gm_ft 0 133 = some (.iaload, 1) := by decide +kernel
theorem r0_133 {E : Nat → Value} {d : Nat} {st : List Value} {h : gm_H} {Q : gm_R → gm_H → Prop} {lv : List Value} {a j : Nat} (hk : gm_kd h a % 100 = 0 ∧ 100 ≤ gm_kd h a ∧ gm_kd h a < 900) (hj : j < gm_ln h a) (hl : gm_ln h a < 2 ^ 31) : gm_W E d 0 133 lv (.int (nI j) :: .ref a :: st) h Q ↔ gm_W E d 0 134 lv (gm_fv h a j :: st) h Q := gw_rd m0 f0_133 rfl rfl rfl rfl (gs_ld (P := fun t => t == 0) hk.2 (by have := hk.1; simp [this] <;> omega) hj hl)
theorem f0_134 : gm_ft 0 134 = some (.aload_n 0, 1) := by decide +kernel
theorem r0_134 {E : Nat → Value} {d : Nat} {st : List Value} {h : gm_H} {Q : gm_R → gm_H → Prop} {a1 a2 a3 : Value} {x : Nat} : gm_W E d 0 134 [.ref x, a1, a2, a3] st h Q ↔ gm_W E d 0 135 [.ref x, a1, a2, a3] (.ref x :: st) h Q := gw_loc m0 f0_134 rfl rfl
theorem r0_134n {E : Nat → Value} {d : Nat} {st : List Value} {h : gm_H} {Q : gm_R → gm_H → Prop} {a1 a2 a3 : Value}  : gm_W E d 0 134 [.null, a1, a2, a3] st h Q ↔ gm_W E d 0 135 [.null, a1, a2, a3] (.null :: st) h Q := gw_loc m0 f0_134 rfl rfl
theorem f0_135 : gm_ft 0 135 = some (.iload_n 3, 1) := by decide +kernel
theorem r0_135 {E : Nat → Value} {d : Nat} {st : List Value} {h : gm_H} {Q : gm_R → gm_H → Prop} {a0 a1 a2 : Value} {x : Int32} : gm_W E d 0 135 [a0, a1, a2, .int x] st h Q ↔ gm_W E d 0 136 [a0, a1, a2, .int x] (.int x :: st) h Q := gw_loc m0 f0_135 rfl rfl
theorem f0_136 : gm_ft 0 136 = some (.iconst 2, 1) := by decide +kernel
theorem r0_136 {E : Nat → Value} {d : Nat} {st : List Value} {h : gm_H} {Q : gm_R → gm_H → Prop} {lv : List Value} : gm_W E d 0 136 lv st h Q ↔ gm_W E d 0 137 lv (.int (2 : Int32) :: st) h Q := gw_pure m0 f0_136 rfl
theorem f0_137 : gm_ft 0 137 = some (.iadd, 1) := by decide +kernel
theorem r0_137 {E : Nat → Value} {d : Nat} {st : List Value} {h : gm_H} {Q : gm_R → gm_H → Prop} {lv : List Value} {x y : Int32} : gm_W E d 0 137 lv (.int y :: .int x :: st) h Q ↔ gm_W E d 0 138 lv (.int (x + y) :: st) h Q := gw_pure m0 f0_137 rfl
theorem f0_138 : gm_ft 0 138 = some (.iaload, 1) := by decide +kernel
theorem r0_138 {E : Nat → Value} {d : Nat} {st : List Value} {h : gm_H} {Q : gm_R → gm_H → Prop} {lv : List Value} {a j : Nat} (hk : gm_kd h a % 100 = 0 ∧ 100 ≤ gm_kd h a ∧ gm_kd h a < 900) (hj : j < gm_ln h a) (hl : gm_ln h a < 2 ^ 31) : gm_W E d 0 138 lv (.int (nI j) :: .ref a :: st) h Q ↔ gm_W E d 0 139 lv (gm_fv h a j :: st) h Q := gw_rd m0 f0_138 rfl rfl rfl rfl (gs_ld (P := fun t => t == 0) hk.2 (by have := hk.1; simp [this] <;> omega) hj hl)
theorem f0_139 : gm_ft 0 139 = some (.aload_n 0, 1) := by decide +kernel
theorem r0_139 {E : Nat → Value} {d : Nat} {st : List Value} {h : gm_H} {Q : gm_R → gm_H → Prop} {a1 a2 a3 : Value} {x : Nat} : gm_W E d 0 139 [.ref x, a1, a2, a3] st h Q ↔ gm_W E d 0 140 [.ref x, a1, a2, a3] (.ref x :: st) h Q := gw_loc m0 f0_139 rfl rfl
theorem r0_139n {E : Nat → Value} {d : Nat} {st : List Value} {h : gm_H} {Q : gm_R → gm_H → Prop} {a1 a2 a3 : Value}  : gm_W E d 0 139 [.null, a1, a2, a3] st h Q ↔ gm_W E d 0 140 [.null, a1, a2, a3] (.null :: st) h Q := gw_loc m0 f0_139 rfl rfl
theorem f0_140 : gm_ft 0 140 = some (.iload_n 3, 1) := by decide +kernel
theorem r0_140 {E : Nat → Value} {d : Nat} {st : List Value} {h : gm_H} {Q : gm_R → gm_H → Prop} {a0 a1 a2 : Value} {x : Int32} : gm_W E d 0 140 [a0, a1, a2, .int x] st h Q ↔ gm_W E d 0 141 [a0, a1, a2, .int x] (.int x :: st) h Q := gw_loc m0 f0_140 rfl rfl
theorem f0_141 : gm_ft 0 141 = some (.iconst 3, 1) := by decide +kernel
theorem r0_141 {E : Nat → Value} {d : Nat} {st : List Value} {h : gm_H} {Q : gm_R → gm_H → Prop} {lv : List Value} : gm_W E d 0 141 lv st h Q ↔ gm_W E d 0 142 lv (.int (3 : Int32) :: st) h Q := gw_pure m0 f0_141 rfl
theorem f0_142 : gm_ft 0 142 = some (.iadd, 1) := by decide +kernel
theorem r0_142 {E : Nat → Value} {d : Nat} {st : List Value} {h : gm_H} {Q : gm_R → gm_H → Prop} {lv : List Value} {x y : Int32} : gm_W E d 0 142 lv (.int y :: .int x :: st) h Q ↔ gm_W E d 0 143 lv (.int (x + y) :: st) h Q := gw_pure m0 f0_142 rfl
theorem f0_143 : gm_ft 0 143 = some (.iaload, 1) := by decide +kernel
theorem r0_143 {E : Nat → Value} {d : Nat} {st : List Value} {h : gm_H} {Q : gm_R → gm_H → Prop} {lv : List Value} {a j : Nat} (hk : gm_kd h a % 100 = 0 ∧ 100 ≤ gm_kd h a ∧ gm_kd h a < 900) (hj : j < gm_ln h a) (hl : gm_ln h a < 2 ^ 31) : gm_W E d 0 143 lv (.int (nI j) :: .ref a :: st) h Q ↔ gm_W E d 0 144 lv (gm_fv h a j :: st) h Q := gw_rd m0 f0_143 rfl rfl rfl rfl (gs_ld (P := fun t => t == 0) hk.2 (by have := hk.1; simp [this] <;> omega) hj hl)
theorem f0_144 : gm_ft 0 144 = some (.aload_n 0, 1) := by decide +kernel
theorem r0_144 {E : Nat → Value} {d : Nat} {st : List Value} {h : gm_H} {Q : gm_R → gm_H → Prop} {a1 a2 a3 : Value} {x : Nat} : gm_W E d 0 144 [.ref x, a1, a2, a3] st h Q ↔ gm_W E d 0 145 [.ref x, a1, a2, a3] (.ref x :: st) h Q := gw_loc m0 f0_144 rfl rfl
theorem r0_144n {E : Nat → Value} {d : Nat} {st : List Value} {h : gm_H} {Q : gm_R → gm_H → Prop} {a1 a2 a3 : Value}  : gm_W E d 0 144 [.null, a1, a2, a3] st h Q ↔ gm_W E d 0 145 [.null, a1, a2, a3] (.null :: st) h Q := gw_loc m0 f0_144 rfl rfl
theorem f0_145 : gm_ft 0 145 = some (.iload_n 3, 1) := by decide +kernel
theorem r0_145 {E : Nat → Value} {d : Nat} {st : List Value} {h : gm_H} {Q : gm_R → gm_H → Prop} {a0 a1 a2 : Value} {x : Int32} : gm_W E d 0 145 [a0, a1, a2, .int x] st h Q ↔ gm_W E d 0 146 [a0, a1, a2, .int x] (.int x :: st) h Q := gw_loc m0 f0_145 rfl rfl
theorem f0_146 : gm_ft 0 146 = some (.iconst 4, 1) := by decide +kernel
theorem r0_146 {E : Nat → Value} {d : Nat} {st : List Value} {h : gm_H} {Q : gm_R → gm_H → Prop} {lv : List Value} : gm_W E d 0 146 lv st h Q ↔ gm_W E d 0 147 lv (.int (4 : Int32) :: st) h Q := gw_pure m0 f0_146 rfl
theorem f0_147 : gm_ft 0 147 = some (.iadd, 1) := by decide +kernel
theorem r0_147 {E : Nat → Value} {d : Nat} {st : List Value} {h : gm_H} {Q : gm_R → gm_H → Prop} {lv : List Value} {x y : Int32} : gm_W E d 0 147 lv (.int y :: .int x :: st) h Q ↔ gm_W E d 0 148 lv (.int (x + y) :: st) h Q := gw_pure m0 f0_147 rfl
theorem f0_148 : gm_ft 0 148 = some (.iaload, 1) := by decide +kernel
theorem r0_148 {E : Nat → Value} {d : Nat} {st : List Value} {h : gm_H} {Q : gm_R → gm_H → Prop} {lv : List Value} {a j : Nat} (hk : gm_kd h a % 100 = 0 ∧ 100 ≤ gm_kd h a ∧ gm_kd h a < 900) (hj : j < gm_ln h a) (hl : gm_ln h a < 2 ^ 31) : gm_W E d 0 148 lv (.int (nI j) :: .ref a :: st) h Q ↔ gm_W E d 0 149 lv (gm_fv h a j :: st) h Q := gw_rd m0 f0_148 rfl rfl rfl rfl (gs_ld (P := fun t => t == 0) hk.2 (by have := hk.1; simp [this] <;> omega) hj hl)
theorem f0_149 : gm_ft 0 149 = some (.i2l, 1) := by decide +kernel
theorem r0_149 {E : Nat → Value} {d : Nat} {st : List Value} {h : gm_H} {Q : gm_R → gm_H → Prop} {lv : List Value} {x : Int32} : gm_W E d 0 149 lv (.int x :: st) h Q ↔ gm_W E d 0 150 lv (.long (x.toInt64) :: st) h Q := gw_pure m0 f0_149 rfl
theorem f0_150 : gm_ft 0 150 = some (.bipush 32, 2) := by decide +kernel
theorem r0_150 {E : Nat → Value} {d : Nat} {st : List Value} {h : gm_H} {Q : gm_R → gm_H → Prop} {lv : List Value} : gm_W E d 0 150 lv st h Q ↔ gm_W E d 0 152 lv (.int (32 : Int32) :: st) h Q := gw_pure m0 f0_150 rfl
theorem f0_152 : gm_ft 0 152 = some (.lshl, 1) := by decide +kernel
theorem r0_152 {E : Nat → Value} {d : Nat} {st : List Value} {h : gm_H} {Q : gm_R → gm_H → Prop} {lv : List Value} {x : Int64} {y : Int32} : gm_W E d 0 152 lv (.int y :: .long x :: st) h Q ↔ gm_W E d 0 153 lv (.long (x <<< (y.toInt64 &&& 63)) :: st) h Q := gw_pure m0 f0_152 rfl
theorem f0_153 : gm_ft 0 153 = some (.aload_n 0, 1) := by decide +kernel
theorem r0_153 {E : Nat → Value} {d : Nat} {st : List Value} {h : gm_H} {Q : gm_R → gm_H → Prop} {a1 a2 a3 : Value} {x : Nat} : gm_W E d 0 153 [.ref x, a1, a2, a3] st h Q ↔ gm_W E d 0 154 [.ref x, a1, a2, a3] (.ref x :: st) h Q := gw_loc m0 f0_153 rfl rfl
theorem r0_153n {E : Nat → Value} {d : Nat} {st : List Value} {h : gm_H} {Q : gm_R → gm_H → Prop} {a1 a2 a3 : Value}  : gm_W E d 0 153 [.null, a1, a2, a3] st h Q ↔ gm_W E d 0 154 [.null, a1, a2, a3] (.null :: st) h Q := gw_loc m0 f0_153 rfl rfl
theorem f0_154 : gm_ft 0 154 = some (.iload_n 3, 1) := by decide +kernel
theorem r0_154 {E : Nat → Value} {d : Nat} {st : List Value} {h : gm_H} {Q : gm_R → gm_H → Prop} {a0 a1 a2 : Value} {x : Int32} : gm_W E d 0 154 [a0, a1, a2, .int x] st h Q ↔ gm_W E d 0 155 [a0, a1, a2, .int x] (.int x :: st) h Q := gw_loc m0 f0_154 rfl rfl
theorem f0_155 : gm_ft 0 155 = some (.iconst 5, 1) := by decide +kernel
theorem r0_155 {E : Nat → Value} {d : Nat} {st : List Value} {h : gm_H} {Q : gm_R → gm_H → Prop} {lv : List Value} : gm_W E d 0 155 lv st h Q ↔ gm_W E d 0 156 lv (.int (5 : Int32) :: st) h Q := gw_pure m0 f0_155 rfl
theorem f0_156 : gm_ft 0 156 = some (.iadd, 1) := by decide +kernel
theorem r0_156 {E : Nat → Value} {d : Nat} {st : List Value} {h : gm_H} {Q : gm_R → gm_H → Prop} {lv : List Value} {x y : Int32} : gm_W E d 0 156 lv (.int y :: .int x :: st) h Q ↔ gm_W E d 0 157 lv (.int (x + y) :: st) h Q := gw_pure m0 f0_156 rfl
theorem f0_157 : gm_ft 0 157 = some (.iaload, 1) := by decide +kernel
theorem r0_157 {E : Nat → Value} {d : Nat} {st : List Value} {h : gm_H} {Q : gm_R → gm_H → Prop} {lv : List Value} {a j : Nat} (hk : gm_kd h a % 100 = 0 ∧ 100 ≤ gm_kd h a ∧ gm_kd h a < 900) (hj : j < gm_ln h a) (hl : gm_ln h a < 2 ^ 31) : gm_W E d 0 157 lv (.int (nI j) :: .ref a :: st) h Q ↔ gm_W E d 0 158 lv (gm_fv h a j :: st) h Q := gw_rd m0 f0_157 rfl rfl rfl rfl (gs_ld (P := fun t => t == 0) hk.2 (by have := hk.1; simp [this] <;> omega) hj hl)
theorem f0_158 : gm_ft 0 158 = some (.i2l, 1) := by decide +kernel
theorem r0_158 {E : Nat → Value} {d : Nat} {st : List Value} {h : gm_H} {Q : gm_R → gm_H → Prop} {lv : List Value} {x : Int32} : gm_W E d 0 158 lv (.int x :: st) h Q ↔ gm_W E d 0 159 lv (.long (x.toInt64) :: st) h Q := gw_pure m0 f0_158 rfl
theorem f0_159 : gm_ft 0 159 = some (.ldc2_w 21, 3) := by decide +kernel
theorem r0_159 {E : Nat → Value} {d : Nat} {st : List Value} {h : gm_H} {Q : gm_R → gm_H → Prop} {lv : List Value} : gm_W E d 0 159 lv st h Q ↔ gm_W E d 0 162 lv (.long (4294967295 : Int64) :: st) h Q := gw_rd m0 f0_159 rfl rfl rfl rfl rfl
theorem f0_162 : gm_ft 0 162 = some (.land, 1) := by decide +kernel
theorem r0_162 {E : Nat → Value} {d : Nat} {st : List Value} {h : gm_H} {Q : gm_R → gm_H → Prop} {lv : List Value} {x y : Int64} : gm_W E d 0 162 lv (.long y :: .long x :: st) h Q ↔ gm_W E d 0 163 lv (.long (x &&& y) :: st) h Q := gw_pure m0 f0_162 rfl
theorem f0_163 : gm_ft 0 163 = some (.lor, 1) := by decide +kernel
theorem r0_163 {E : Nat → Value} {d : Nat} {st : List Value} {h : gm_H} {Q : gm_R → gm_H → Prop} {lv : List Value} {x y : Int64} : gm_W E d 0 163 lv (.long y :: .long x :: st) h Q ↔ gm_W E d 0 164 lv (.long (x ||| y) :: st) h Q := gw_pure m0 f0_163 rfl
theorem f0_164 : gm_ft 0 164 = some (.invokevirtual 23, 3) := by decide +kernel
theorem c0_164 {E : Nat → Value} {d : Nat} {st : List Value} {h : gm_H} {Q : gm_R → gm_H → Prop} {lv : List Value} {b0 : Int32} {b1 : Int32} {b2 : Int32} {b3 : Int64} {a : Nat} {Qc : gm_R → gm_H → Prop} (hs : (st.map fun v => v.category).sum ≤ 8) (hr : gm_kd h a = 0) (hd : 1 ≤ d) (hc : gm_Ca E (d - 1) 52 [.ref a, .int b0, .int b1, .int b2, .long b3] h Qc) (kn : ∀ (v9 : Option Value) (h9 : gm_H), Qc (.inl v9) h9 → gm_W E d 0 167 lv (v9.toList ++ st) h9 Q) (kx : ∀ (x9 : Nat) (h9 : gm_H), Qc (.inr x9) h9 → Q (.inr x9) h9) : gm_W E d 0 164 lv (.long b3 :: .int b2 :: .int b1 :: .int b0 :: .ref a :: st) h Q := gw_call (gn_call m0 f0_164 rfl rfl rfl rfl rfl rfl rfl (gs_virt (bs := [.long b3, .int b2, .int b1, .int b0]) (w := 102) (L := 7) rfl rfl rfl rfl hs (by simp [gm_en1]) hr (by decide)) (by decide)) m0 rfl rfl hd hc kn kx
theorem f0_167 : gm_ft 0 167 = some (.pop, 1) := by decide +kernel
theorem r0_167 {E : Nat → Value} {d : Nat} {st : List Value} {h : gm_H} {Q : gm_R → gm_H → Prop} {lv : List Value} {x : Int32} : gm_W E d 0 167 lv (.int x :: st) h Q ↔ gm_W E d 0 168 lv st h Q := gw_pure m0 f0_167 rfl
theorem r0_167a {E : Nat → Value} {d : Nat} {st : List Value} {h : gm_H} {Q : gm_R → gm_H → Prop} {lv : List Value} {a : Nat} : gm_W E d 0 167 lv (.ref a :: st) h Q ↔ gm_W E d 0 168 lv st h Q := gw_pure m0 f0_167 rfl
theorem r0_167n {E : Nat → Value} {d : Nat} {st : List Value} {h : gm_H} {Q : gm_R → gm_H → Prop} {lv : List Value} : gm_W E d 0 167 lv (.null :: st) h Q ↔ gm_W E d 0 168 lv st h Q := gw_pure m0 f0_167 rfl
theorem f0_168 : gm_ft 0 168 = some (.aload_n 2, 1) := by decide +kernel
theorem r0_168 {E : Nat → Value} {d : Nat} {st : List Value} {h : gm_H} {Q : gm_R → gm_H → Prop} {a0 a1 a3 : Value} {x : Nat} : gm_W E d 0 168 [a0, a1, .ref x, a3] st h Q ↔ gm_W E d 0 169 [a0, a1, .ref x, a3] (.ref x :: st) h Q := gw_loc m0 f0_168 rfl rfl
theorem r0_168n {E : Nat → Value} {d : Nat} {st : List Value} {h : gm_H} {Q : gm_R → gm_H → Prop} {a0 a1 a3 : Value}  : gm_W E d 0 168 [a0, a1, .null, a3] st h Q ↔ gm_W E d 0 169 [a0, a1, .null, a3] (.null :: st) h Q := gw_loc m0 f0_168 rfl rfl
theorem f0_169 : gm_ft 0 169 = some (.aload_n 0, 1) := by decide +kernel
theorem r0_169 {E : Nat → Value} {d : Nat} {st : List Value} {h : gm_H} {Q : gm_R → gm_H → Prop} {a1 a2 a3 : Value} {x : Nat} : gm_W E d 0 169 [.ref x, a1, a2, a3] st h Q ↔ gm_W E d 0 170 [.ref x, a1, a2, a3] (.ref x :: st) h Q := gw_loc m0 f0_169 rfl rfl
theorem r0_169n {E : Nat → Value} {d : Nat} {st : List Value} {h : gm_H} {Q : gm_R → gm_H → Prop} {a1 a2 a3 : Value}  : gm_W E d 0 169 [.null, a1, a2, a3] st h Q ↔ gm_W E d 0 170 [.null, a1, a2, a3] (.null :: st) h Q := gw_loc m0 f0_169 rfl rfl
theorem f0_170 : gm_ft 0 170 = some (.iload_n 3, 1) := by decide +kernel
theorem r0_170 {E : Nat → Value} {d : Nat} {st : List Value} {h : gm_H} {Q : gm_R → gm_H → Prop} {a0 a1 a2 : Value} {x : Int32} : gm_W E d 0 170 [a0, a1, a2, .int x] st h Q ↔ gm_W E d 0 171 [a0, a1, a2, .int x] (.int x :: st) h Q := gw_loc m0 f0_170 rfl rfl
theorem f0_171 : gm_ft 0 171 = some (.iconst 1, 1) := by decide +kernel
theorem r0_171 {E : Nat → Value} {d : Nat} {st : List Value} {h : gm_H} {Q : gm_R → gm_H → Prop} {lv : List Value} : gm_W E d 0 171 lv st h Q ↔ gm_W E d 0 172 lv (.int (1 : Int32) :: st) h Q := gw_pure m0 f0_171 rfl
theorem f0_172 : gm_ft 0 172 = some (.iadd, 1) := by decide +kernel
theorem r0_172 {E : Nat → Value} {d : Nat} {st : List Value} {h : gm_H} {Q : gm_R → gm_H → Prop} {lv : List Value} {x y : Int32} : gm_W E d 0 172 lv (.int y :: .int x :: st) h Q ↔ gm_W E d 0 173 lv (.int (x + y) :: st) h Q := gw_pure m0 f0_172 rfl
theorem f0_173 : gm_ft 0 173 = some (.iaload, 1) := by decide +kernel
theorem r0_173 {E : Nat → Value} {d : Nat} {st : List Value} {h : gm_H} {Q : gm_R → gm_H → Prop} {lv : List Value} {a j : Nat} (hk : gm_kd h a % 100 = 0 ∧ 100 ≤ gm_kd h a ∧ gm_kd h a < 900) (hj : j < gm_ln h a) (hl : gm_ln h a < 2 ^ 31) : gm_W E d 0 173 lv (.int (nI j) :: .ref a :: st) h Q ↔ gm_W E d 0 174 lv (gm_fv h a j :: st) h Q := gw_rd m0 f0_173 rfl rfl rfl rfl (gs_ld (P := fun t => t == 0) hk.2 (by have := hk.1; simp [this] <;> omega) hj hl)
theorem f0_174 : gm_ft 0 174 = some (.aload_n 0, 1) := by decide +kernel
theorem r0_174 {E : Nat → Value} {d : Nat} {st : List Value} {h : gm_H} {Q : gm_R → gm_H → Prop} {a1 a2 a3 : Value} {x : Nat} : gm_W E d 0 174 [.ref x, a1, a2, a3] st h Q ↔ gm_W E d 0 175 [.ref x, a1, a2, a3] (.ref x :: st) h Q := gw_loc m0 f0_174 rfl rfl
theorem r0_174n {E : Nat → Value} {d : Nat} {st : List Value} {h : gm_H} {Q : gm_R → gm_H → Prop} {a1 a2 a3 : Value}  : gm_W E d 0 174 [.null, a1, a2, a3] st h Q ↔ gm_W E d 0 175 [.null, a1, a2, a3] (.null :: st) h Q := gw_loc m0 f0_174 rfl rfl
theorem f0_175 : gm_ft 0 175 = some (.iload_n 3, 1) := by decide +kernel
theorem r0_175 {E : Nat → Value} {d : Nat} {st : List Value} {h : gm_H} {Q : gm_R → gm_H → Prop} {a0 a1 a2 : Value} {x : Int32} : gm_W E d 0 175 [a0, a1, a2, .int x] st h Q ↔ gm_W E d 0 176 [a0, a1, a2, .int x] (.int x :: st) h Q := gw_loc m0 f0_175 rfl rfl
theorem f0_176 : gm_ft 0 176 = some (.iconst 2, 1) := by decide +kernel
theorem r0_176 {E : Nat → Value} {d : Nat} {st : List Value} {h : gm_H} {Q : gm_R → gm_H → Prop} {lv : List Value} : gm_W E d 0 176 lv st h Q ↔ gm_W E d 0 177 lv (.int (2 : Int32) :: st) h Q := gw_pure m0 f0_176 rfl
theorem f0_177 : gm_ft 0 177 = some (.iadd, 1) := by decide +kernel
theorem r0_177 {E : Nat → Value} {d : Nat} {st : List Value} {h : gm_H} {Q : gm_R → gm_H → Prop} {lv : List Value} {x y : Int32} : gm_W E d 0 177 lv (.int y :: .int x :: st) h Q ↔ gm_W E d 0 178 lv (.int (x + y) :: st) h Q := gw_pure m0 f0_177 rfl
theorem f0_178 : gm_ft 0 178 = some (.iaload, 1) := by decide +kernel
theorem r0_178 {E : Nat → Value} {d : Nat} {st : List Value} {h : gm_H} {Q : gm_R → gm_H → Prop} {lv : List Value} {a j : Nat} (hk : gm_kd h a % 100 = 0 ∧ 100 ≤ gm_kd h a ∧ gm_kd h a < 900) (hj : j < gm_ln h a) (hl : gm_ln h a < 2 ^ 31) : gm_W E d 0 178 lv (.int (nI j) :: .ref a :: st) h Q ↔ gm_W E d 0 179 lv (gm_fv h a j :: st) h Q := gw_rd m0 f0_178 rfl rfl rfl rfl (gs_ld (P := fun t => t == 0) hk.2 (by have := hk.1; simp [this] <;> omega) hj hl)
theorem f0_179 : gm_ft 0 179 = some (.aload_n 0, 1) := by decide +kernel
theorem r0_179 {E : Nat → Value} {d : Nat} {st : List Value} {h : gm_H} {Q : gm_R → gm_H → Prop} {a1 a2 a3 : Value} {x : Nat} : gm_W E d 0 179 [.ref x, a1, a2, a3] st h Q ↔ gm_W E d 0 180 [.ref x, a1, a2, a3] (.ref x :: st) h Q := gw_loc m0 f0_179 rfl rfl
theorem r0_179n {E : Nat → Value} {d : Nat} {st : List Value} {h : gm_H} {Q : gm_R → gm_H → Prop} {a1 a2 a3 : Value}  : gm_W E d 0 179 [.null, a1, a2, a3] st h Q ↔ gm_W E d 0 180 [.null, a1, a2, a3] (.null :: st) h Q := gw_loc m0 f0_179 rfl rfl
theorem f0_180 : gm_ft 0 180 = some (.iload_n 3, 1) := by decide +kernel
theorem r0_180 {E : Nat → Value} {d : Nat} {st : List Value} {h : gm_H} {Q : gm_R → gm_H → Prop} {a0 a1 a2 : Value} {x : Int32} : gm_W E d 0 180 [a0, a1, a2, .int x] st h Q ↔ gm_W E d 0 181 [a0, a1, a2, .int x] (.int x :: st) h Q := gw_loc m0 f0_180 rfl rfl
theorem f0_181 : gm_ft 0 181 = some (.iconst 3, 1) := by decide +kernel
theorem r0_181 {E : Nat → Value} {d : Nat} {st : List Value} {h : gm_H} {Q : gm_R → gm_H → Prop} {lv : List Value} : gm_W E d 0 181 lv st h Q ↔ gm_W E d 0 182 lv (.int (3 : Int32) :: st) h Q := gw_pure m0 f0_181 rfl
theorem f0_182 : gm_ft 0 182 = some (.iadd, 1) := by decide +kernel
theorem r0_182 {E : Nat → Value} {d : Nat} {st : List Value} {h : gm_H} {Q : gm_R → gm_H → Prop} {lv : List Value} {x y : Int32} : gm_W E d 0 182 lv (.int y :: .int x :: st) h Q ↔ gm_W E d 0 183 lv (.int (x + y) :: st) h Q := gw_pure m0 f0_182 rfl
theorem f0_183 : gm_ft 0 183 = some (.iaload, 1) := by decide +kernel
theorem r0_183 {E : Nat → Value} {d : Nat} {st : List Value} {h : gm_H} {Q : gm_R → gm_H → Prop} {lv : List Value} {a j : Nat} (hk : gm_kd h a % 100 = 0 ∧ 100 ≤ gm_kd h a ∧ gm_kd h a < 900) (hj : j < gm_ln h a) (hl : gm_ln h a < 2 ^ 31) : gm_W E d 0 183 lv (.int (nI j) :: .ref a :: st) h Q ↔ gm_W E d 0 184 lv (gm_fv h a j :: st) h Q := gw_rd m0 f0_183 rfl rfl rfl rfl (gs_ld (P := fun t => t == 0) hk.2 (by have := hk.1; simp [this] <;> omega) hj hl)
theorem f0_184 : gm_ft 0 184 = some (.aload_n 0, 1) := by decide +kernel
theorem r0_184 {E : Nat → Value} {d : Nat} {st : List Value} {h : gm_H} {Q : gm_R → gm_H → Prop} {a1 a2 a3 : Value} {x : Nat} : gm_W E d 0 184 [.ref x, a1, a2, a3] st h Q ↔ gm_W E d 0 185 [.ref x, a1, a2, a3] (.ref x :: st) h Q := gw_loc m0 f0_184 rfl rfl
theorem r0_184n {E : Nat → Value} {d : Nat} {st : List Value} {h : gm_H} {Q : gm_R → gm_H → Prop} {a1 a2 a3 : Value}  : gm_W E d 0 184 [.null, a1, a2, a3] st h Q ↔ gm_W E d 0 185 [.null, a1, a2, a3] (.null :: st) h Q := gw_loc m0 f0_184 rfl rfl
theorem f0_185 : gm_ft 0 185 = some (.iload_n 3, 1) := by decide +kernel
theorem r0_185 {E : Nat → Value} {d : Nat} {st : List Value} {h : gm_H} {Q : gm_R → gm_H → Prop} {a0 a1 a2 : Value} {x : Int32} : gm_W E d 0 185 [a0, a1, a2, .int x] st h Q ↔ gm_W E d 0 186 [a0, a1, a2, .int x] (.int x :: st) h Q := gw_loc m0 f0_185 rfl rfl
theorem f0_186 : gm_ft 0 186 = some (.iconst 4, 1) := by decide +kernel
theorem r0_186 {E : Nat → Value} {d : Nat} {st : List Value} {h : gm_H} {Q : gm_R → gm_H → Prop} {lv : List Value} : gm_W E d 0 186 lv st h Q ↔ gm_W E d 0 187 lv (.int (4 : Int32) :: st) h Q := gw_pure m0 f0_186 rfl
theorem f0_187 : gm_ft 0 187 = some (.iadd, 1) := by decide +kernel
theorem r0_187 {E : Nat → Value} {d : Nat} {st : List Value} {h : gm_H} {Q : gm_R → gm_H → Prop} {lv : List Value} {x y : Int32} : gm_W E d 0 187 lv (.int y :: .int x :: st) h Q ↔ gm_W E d 0 188 lv (.int (x + y) :: st) h Q := gw_pure m0 f0_187 rfl
theorem f0_188 : gm_ft 0 188 = some (.iaload, 1) := by decide +kernel
theorem r0_188 {E : Nat → Value} {d : Nat} {st : List Value} {h : gm_H} {Q : gm_R → gm_H → Prop} {lv : List Value} {a j : Nat} (hk : gm_kd h a % 100 = 0 ∧ 100 ≤ gm_kd h a ∧ gm_kd h a < 900) (hj : j < gm_ln h a) (hl : gm_ln h a < 2 ^ 31) : gm_W E d 0 188 lv (.int (nI j) :: .ref a :: st) h Q ↔ gm_W E d 0 189 lv (gm_fv h a j :: st) h Q := gw_rd m0 f0_188 rfl rfl rfl rfl (gs_ld (P := fun t => t == 0) hk.2 (by have := hk.1; simp [this] <;> omega) hj hl)
theorem f0_189 : gm_ft 0 189 = some (.i2l, 1) := by decide +kernel
theorem r0_189 {E : Nat → Value} {d : Nat} {st : List Value} {h : gm_H} {Q : gm_R → gm_H → Prop} {lv : List Value} {x : Int32} : gm_W E d 0 189 lv (.int x :: st) h Q ↔ gm_W E d 0 190 lv (.long (x.toInt64) :: st) h Q := gw_pure m0 f0_189 rfl
theorem f0_190 : gm_ft 0 190 = some (.bipush 32, 2) := by decide +kernel
theorem r0_190 {E : Nat → Value} {d : Nat} {st : List Value} {h : gm_H} {Q : gm_R → gm_H → Prop} {lv : List Value} : gm_W E d 0 190 lv st h Q ↔ gm_W E d 0 192 lv (.int (32 : Int32) :: st) h Q := gw_pure m0 f0_190 rfl
theorem f0_192 : gm_ft 0 192 = some (.lshl, 1) := by decide +kernel
theorem r0_192 {E : Nat → Value} {d : Nat} {st : List Value} {h : gm_H} {Q : gm_R → gm_H → Prop} {lv : List Value} {x : Int64} {y : Int32} : gm_W E d 0 192 lv (.int y :: .long x :: st) h Q ↔ gm_W E d 0 193 lv (.long (x <<< (y.toInt64 &&& 63)) :: st) h Q := gw_pure m0 f0_192 rfl
theorem f0_193 : gm_ft 0 193 = some (.aload_n 0, 1) := by decide +kernel
theorem r0_193 {E : Nat → Value} {d : Nat} {st : List Value} {h : gm_H} {Q : gm_R → gm_H → Prop} {a1 a2 a3 : Value} {x : Nat} : gm_W E d 0 193 [.ref x, a1, a2, a3] st h Q ↔ gm_W E d 0 194 [.ref x, a1, a2, a3] (.ref x :: st) h Q := gw_loc m0 f0_193 rfl rfl
theorem r0_193n {E : Nat → Value} {d : Nat} {st : List Value} {h : gm_H} {Q : gm_R → gm_H → Prop} {a1 a2 a3 : Value}  : gm_W E d 0 193 [.null, a1, a2, a3] st h Q ↔ gm_W E d 0 194 [.null, a1, a2, a3] (.null :: st) h Q := gw_loc m0 f0_193 rfl rfl
theorem f0_194 : gm_ft 0 194 = some (.iload_n 3, 1) := by decide +kernel
theorem r0_194 {E : Nat → Value} {d : Nat} {st : List Value} {h : gm_H} {Q : gm_R → gm_H → Prop} {a0 a1 a2 : Value} {x : Int32} : gm_W E d 0 194 [a0, a1, a2, .int x] st h Q ↔ gm_W E d 0 195 [a0, a1, a2, .int x] (.int x :: st) h Q := gw_loc m0 f0_194 rfl rfl
theorem f0_195 : gm_ft 0 195 = some (.iconst 5, 1) := by decide +kernel
theorem r0_195 {E : Nat → Value} {d : Nat} {st : List Value} {h : gm_H} {Q : gm_R → gm_H → Prop} {lv : List Value} : gm_W E d 0 195 lv st h Q ↔ gm_W E d 0 196 lv (.int (5 : Int32) :: st) h Q := gw_pure m0 f0_195 rfl
theorem f0_196 : gm_ft 0 196 = some (.iadd, 1) := by decide +kernel
theorem r0_196 {E : Nat → Value} {d : Nat} {st : List Value} {h : gm_H} {Q : gm_R → gm_H → Prop} {lv : List Value} {x y : Int32} : gm_W E d 0 196 lv (.int y :: .int x :: st) h Q ↔ gm_W E d 0 197 lv (.int (x + y) :: st) h Q := gw_pure m0 f0_196 rfl
theorem f0_197 : gm_ft 0 197 = some (.iaload, 1) := by decide +kernel
theorem r0_197 {E : Nat → Value} {d : Nat} {st : List Value} {h : gm_H} {Q : gm_R → gm_H → Prop} {lv : List Value} {a j : Nat} (hk : gm_kd h a % 100 = 0 ∧ 100 ≤ gm_kd h a ∧ gm_kd h a < 900) (hj : j < gm_ln h a) (hl : gm_ln h a < 2 ^ 31) : gm_W E d 0 197 lv (.int (nI j) :: .ref a :: st) h Q ↔ gm_W E d 0 198 lv (gm_fv h a j :: st) h Q := gw_rd m0 f0_197 rfl rfl rfl rfl (gs_ld (P := fun t => t == 0) hk.2 (by have := hk.1; simp [this] <;> omega) hj hl)
theorem f0_198 : gm_ft 0 198 = some (.i2l, 1) := by decide +kernel
theorem r0_198 {E : Nat → Value} {d : Nat} {st : List Value} {h : gm_H} {Q : gm_R → gm_H → Prop} {lv : List Value} {x : Int32} : gm_W E d 0 198 lv (.int x :: st) h Q ↔ gm_W E d 0 199 lv (.long (x.toInt64) :: st) h Q := gw_pure m0 f0_198 rfl
theorem f0_199 : gm_ft 0 199 = some (.ldc2_w 21, 3) := by decide +kernel
theorem r0_199 {E : Nat → Value} {d : Nat} {st : List Value} {h : gm_H} {Q : gm_R → gm_H → Prop} {lv : List Value} : gm_W E d 0 199 lv st h Q ↔ gm_W E d 0 202 lv (.long (4294967295 : Int64) :: st) h Q := gw_rd m0 f0_199 rfl rfl rfl rfl rfl
theorem f0_202 : gm_ft 0 202 = some (.land, 1) := by decide +kernel
theorem r0_202 {E : Nat → Value} {d : Nat} {st : List Value} {h : gm_H} {Q : gm_R → gm_H → Prop} {lv : List Value} {x y : Int64} : gm_W E d 0 202 lv (.long y :: .long x :: st) h Q ↔ gm_W E d 0 203 lv (.long (x &&& y) :: st) h Q := gw_pure m0 f0_202 rfl
theorem f0_203 : gm_ft 0 203 = some (.lor, 1) := by decide +kernel
theorem r0_203 {E : Nat → Value} {d : Nat} {st : List Value} {h : gm_H} {Q : gm_R → gm_H → Prop} {lv : List Value} {x y : Int64} : gm_W E d 0 203 lv (.long y :: .long x :: st) h Q ↔ gm_W E d 0 204 lv (.long (x ||| y) :: st) h Q := gw_pure m0 f0_203 rfl
theorem f0_204 : gm_ft 0 204 = some (.invokevirtual 27, 3) := by decide +kernel
theorem c0_204 {E : Nat → Value} {d : Nat} {st : List Value} {h : gm_H} {Q : gm_R → gm_H → Prop} {lv : List Value} {b0 : Int32} {b1 : Int32} {b2 : Int32} {b3 : Int64} {a : Nat} {Qc : gm_R → gm_H → Prop} (hs : (st.map fun v => v.category).sum ≤ 8) (hr : gm_kd h a = 5) (hd : 1 ≤ d) (hc : gm_Ca E (d - 1) 6 [.ref a, .int b0, .int b1, .int b2, .long b3] h Qc) (kn : ∀ (v9 : Option Value) (h9 : gm_H), Qc (.inl v9) h9 → gm_W E d 0 207 lv (v9.toList ++ st) h9 Q) (kx : ∀ (x9 : Nat) (h9 : gm_H), Qc (.inr x9) h9 → Q (.inr x9) h9) : gm_W E d 0 204 lv (.long b3 :: .int b2 :: .int b1 :: .int b0 :: .ref a :: st) h Q := gw_call (gn_call m0 f0_204 rfl rfl rfl rfl rfl rfl rfl (gs_virt (bs := [.long b3, .int b2, .int b1, .int b0]) (w := 816) (L := 6) rfl rfl rfl rfl hs (by simp [gm_en1]) hr (by decide)) (by decide)) m0 rfl rfl hd hc kn kx
theorem f0_207 : gm_ft 0 207 = some (.pop, 1) := by decide +kernel
theorem r0_207 {E : Nat → Value} {d : Nat} {st : List Value} {h : gm_H} {Q : gm_R → gm_H → Prop} {lv : List Value} {x : Int32} : gm_W E d 0 207 lv (.int x :: st) h Q ↔ gm_W E d 0 208 lv st h Q := gw_pure m0 f0_207 rfl
theorem r0_207a {E : Nat → Value} {d : Nat} {st : List Value} {h : gm_H} {Q : gm_R → gm_H → Prop} {lv : List Value} {a : Nat} : gm_W E d 0 207 lv (.ref a :: st) h Q ↔ gm_W E d 0 208 lv st h Q := gw_pure m0 f0_207 rfl
theorem r0_207n {E : Nat → Value} {d : Nat} {st : List Value} {h : gm_H} {Q : gm_R → gm_H → Prop} {lv : List Value} : gm_W E d 0 207 lv (.null :: st) h Q ↔ gm_W E d 0 208 lv st h Q := gw_pure m0 f0_207 rfl
theorem f0_208 : gm_ft 0 208 = some (.goto 297, 3) := by decide +kernel
theorem r0_208 {E : Nat → Value} {d : Nat} {st : List Value} {h : gm_H} {Q : gm_R → gm_H → Prop} {lv : List Value} : gm_W E d 0 208 lv st h Q ↔ gm_W E d 0 505 lv st h Q := gw_brT m0 f0_208 rfl rfl rfl rfl
theorem f0_211 : gm_ft 0 211 = some (.aload_n 1, 1) := by decide +kernel
theorem r0_211 {E : Nat → Value} {d : Nat} {st : List Value} {h : gm_H} {Q : gm_R → gm_H → Prop} {a0 a2 a3 : Value} {x : Nat} : gm_W E d 0 211 [a0, .ref x, a2, a3] st h Q ↔ gm_W E d 0 212 [a0, .ref x, a2, a3] (.ref x :: st) h Q := gw_loc m0 f0_211 rfl rfl
theorem r0_211n {E : Nat → Value} {d : Nat} {st : List Value} {h : gm_H} {Q : gm_R → gm_H → Prop} {a0 a2 a3 : Value}  : gm_W E d 0 211 [a0, .null, a2, a3] st h Q ↔ gm_W E d 0 212 [a0, .null, a2, a3] (.null :: st) h Q := gw_loc m0 f0_211 rfl rfl
theorem f0_212 : gm_ft 0 212 = some (.aload_n 0, 1) := by decide +kernel
theorem r0_212 {E : Nat → Value} {d : Nat} {st : List Value} {h : gm_H} {Q : gm_R → gm_H → Prop} {a1 a2 a3 : Value} {x : Nat} : gm_W E d 0 212 [.ref x, a1, a2, a3] st h Q ↔ gm_W E d 0 213 [.ref x, a1, a2, a3] (.ref x :: st) h Q := gw_loc m0 f0_212 rfl rfl
theorem r0_212n {E : Nat → Value} {d : Nat} {st : List Value} {h : gm_H} {Q : gm_R → gm_H → Prop} {a1 a2 a3 : Value}  : gm_W E d 0 212 [.null, a1, a2, a3] st h Q ↔ gm_W E d 0 213 [.null, a1, a2, a3] (.null :: st) h Q := gw_loc m0 f0_212 rfl rfl
theorem f0_213 : gm_ft 0 213 = some (.iload_n 3, 1) := by decide +kernel
theorem r0_213 {E : Nat → Value} {d : Nat} {st : List Value} {h : gm_H} {Q : gm_R → gm_H → Prop} {a0 a1 a2 : Value} {x : Int32} : gm_W E d 0 213 [a0, a1, a2, .int x] st h Q ↔ gm_W E d 0 214 [a0, a1, a2, .int x] (.int x :: st) h Q := gw_loc m0 f0_213 rfl rfl
theorem f0_214 : gm_ft 0 214 = some (.iconst 1, 1) := by decide +kernel
theorem r0_214 {E : Nat → Value} {d : Nat} {st : List Value} {h : gm_H} {Q : gm_R → gm_H → Prop} {lv : List Value} : gm_W E d 0 214 lv st h Q ↔ gm_W E d 0 215 lv (.int (1 : Int32) :: st) h Q := gw_pure m0 f0_214 rfl
theorem f0_215 : gm_ft 0 215 = some (.iadd, 1) := by decide +kernel
theorem r0_215 {E : Nat → Value} {d : Nat} {st : List Value} {h : gm_H} {Q : gm_R → gm_H → Prop} {lv : List Value} {x y : Int32} : gm_W E d 0 215 lv (.int y :: .int x :: st) h Q ↔ gm_W E d 0 216 lv (.int (x + y) :: st) h Q := gw_pure m0 f0_215 rfl
theorem f0_216 : gm_ft 0 216 = some (.iaload, 1) := by decide +kernel
theorem r0_216 {E : Nat → Value} {d : Nat} {st : List Value} {h : gm_H} {Q : gm_R → gm_H → Prop} {lv : List Value} {a j : Nat} (hk : gm_kd h a % 100 = 0 ∧ 100 ≤ gm_kd h a ∧ gm_kd h a < 900) (hj : j < gm_ln h a) (hl : gm_ln h a < 2 ^ 31) : gm_W E d 0 216 lv (.int (nI j) :: .ref a :: st) h Q ↔ gm_W E d 0 217 lv (gm_fv h a j :: st) h Q := gw_rd m0 f0_216 rfl rfl rfl rfl (gs_ld (P := fun t => t == 0) hk.2 (by have := hk.1; simp [this] <;> omega) hj hl)
theorem f0_217 : gm_ft 0 217 = some (.aload_n 0, 1) := by decide +kernel
theorem r0_217 {E : Nat → Value} {d : Nat} {st : List Value} {h : gm_H} {Q : gm_R → gm_H → Prop} {a1 a2 a3 : Value} {x : Nat} : gm_W E d 0 217 [.ref x, a1, a2, a3] st h Q ↔ gm_W E d 0 218 [.ref x, a1, a2, a3] (.ref x :: st) h Q := gw_loc m0 f0_217 rfl rfl
theorem r0_217n {E : Nat → Value} {d : Nat} {st : List Value} {h : gm_H} {Q : gm_R → gm_H → Prop} {a1 a2 a3 : Value}  : gm_W E d 0 217 [.null, a1, a2, a3] st h Q ↔ gm_W E d 0 218 [.null, a1, a2, a3] (.null :: st) h Q := gw_loc m0 f0_217 rfl rfl
theorem f0_218 : gm_ft 0 218 = some (.iload_n 3, 1) := by decide +kernel
theorem r0_218 {E : Nat → Value} {d : Nat} {st : List Value} {h : gm_H} {Q : gm_R → gm_H → Prop} {a0 a1 a2 : Value} {x : Int32} : gm_W E d 0 218 [a0, a1, a2, .int x] st h Q ↔ gm_W E d 0 219 [a0, a1, a2, .int x] (.int x :: st) h Q := gw_loc m0 f0_218 rfl rfl
theorem f0_219 : gm_ft 0 219 = some (.iconst 2, 1) := by decide +kernel
theorem r0_219 {E : Nat → Value} {d : Nat} {st : List Value} {h : gm_H} {Q : gm_R → gm_H → Prop} {lv : List Value} : gm_W E d 0 219 lv st h Q ↔ gm_W E d 0 220 lv (.int (2 : Int32) :: st) h Q := gw_pure m0 f0_219 rfl
theorem f0_220 : gm_ft 0 220 = some (.iadd, 1) := by decide +kernel
theorem r0_220 {E : Nat → Value} {d : Nat} {st : List Value} {h : gm_H} {Q : gm_R → gm_H → Prop} {lv : List Value} {x y : Int32} : gm_W E d 0 220 lv (.int y :: .int x :: st) h Q ↔ gm_W E d 0 221 lv (.int (x + y) :: st) h Q := gw_pure m0 f0_220 rfl
theorem f0_221 : gm_ft 0 221 = some (.iaload, 1) := by decide +kernel
theorem r0_221 {E : Nat → Value} {d : Nat} {st : List Value} {h : gm_H} {Q : gm_R → gm_H → Prop} {lv : List Value} {a j : Nat} (hk : gm_kd h a % 100 = 0 ∧ 100 ≤ gm_kd h a ∧ gm_kd h a < 900) (hj : j < gm_ln h a) (hl : gm_ln h a < 2 ^ 31) : gm_W E d 0 221 lv (.int (nI j) :: .ref a :: st) h Q ↔ gm_W E d 0 222 lv (gm_fv h a j :: st) h Q := gw_rd m0 f0_221 rfl rfl rfl rfl (gs_ld (P := fun t => t == 0) hk.2 (by have := hk.1; simp [this] <;> omega) hj hl)
theorem f0_222 : gm_ft 0 222 = some (.aload_n 0, 1) := by decide +kernel
theorem r0_222 {E : Nat → Value} {d : Nat} {st : List Value} {h : gm_H} {Q : gm_R → gm_H → Prop} {a1 a2 a3 : Value} {x : Nat} : gm_W E d 0 222 [.ref x, a1, a2, a3] st h Q ↔ gm_W E d 0 223 [.ref x, a1, a2, a3] (.ref x :: st) h Q := gw_loc m0 f0_222 rfl rfl
theorem r0_222n {E : Nat → Value} {d : Nat} {st : List Value} {h : gm_H} {Q : gm_R → gm_H → Prop} {a1 a2 a3 : Value}  : gm_W E d 0 222 [.null, a1, a2, a3] st h Q ↔ gm_W E d 0 223 [.null, a1, a2, a3] (.null :: st) h Q := gw_loc m0 f0_222 rfl rfl
theorem f0_223 : gm_ft 0 223 = some (.iload_n 3, 1) := by decide +kernel
theorem r0_223 {E : Nat → Value} {d : Nat} {st : List Value} {h : gm_H} {Q : gm_R → gm_H → Prop} {a0 a1 a2 : Value} {x : Int32} : gm_W E d 0 223 [a0, a1, a2, .int x] st h Q ↔ gm_W E d 0 224 [a0, a1, a2, .int x] (.int x :: st) h Q := gw_loc m0 f0_223 rfl rfl
theorem f0_224 : gm_ft 0 224 = some (.iconst 3, 1) := by decide +kernel
theorem r0_224 {E : Nat → Value} {d : Nat} {st : List Value} {h : gm_H} {Q : gm_R → gm_H → Prop} {lv : List Value} : gm_W E d 0 224 lv st h Q ↔ gm_W E d 0 225 lv (.int (3 : Int32) :: st) h Q := gw_pure m0 f0_224 rfl
theorem f0_225 : gm_ft 0 225 = some (.iadd, 1) := by decide +kernel
theorem r0_225 {E : Nat → Value} {d : Nat} {st : List Value} {h : gm_H} {Q : gm_R → gm_H → Prop} {lv : List Value} {x y : Int32} : gm_W E d 0 225 lv (.int y :: .int x :: st) h Q ↔ gm_W E d 0 226 lv (.int (x + y) :: st) h Q := gw_pure m0 f0_225 rfl
theorem f0_226 : gm_ft 0 226 = some (.iaload, 1) := by decide +kernel
theorem r0_226 {E : Nat → Value} {d : Nat} {st : List Value} {h : gm_H} {Q : gm_R → gm_H → Prop} {lv : List Value} {a j : Nat} (hk : gm_kd h a % 100 = 0 ∧ 100 ≤ gm_kd h a ∧ gm_kd h a < 900) (hj : j < gm_ln h a) (hl : gm_ln h a < 2 ^ 31) : gm_W E d 0 226 lv (.int (nI j) :: .ref a :: st) h Q ↔ gm_W E d 0 227 lv (gm_fv h a j :: st) h Q := gw_rd m0 f0_226 rfl rfl rfl rfl (gs_ld (P := fun t => t == 0) hk.2 (by have := hk.1; simp [this] <;> omega) hj hl)
theorem f0_227 : gm_ft 0 227 = some (.invokevirtual 28, 3) := by decide +kernel
theorem c0_227 {E : Nat → Value} {d : Nat} {st : List Value} {h : gm_H} {Q : gm_R → gm_H → Prop} {lv : List Value} {b0 : Int32} {b1 : Int32} {b2 : Int32} {a : Nat} {Qc : gm_R → gm_H → Prop} (hs : (st.map fun v => v.category).sum ≤ 8) (hr : gm_kd h a = 0) (hd : 1 ≤ d) (hc : gm_Ca E (d - 1) 53 [.ref a, .int b0, .int b1, .int b2] h Qc) (kn : ∀ (v9 : Option Value) (h9 : gm_H), Qc (.inl v9) h9 → gm_W E d 0 230 lv (v9.toList ++ st) h9 Q) (kx : ∀ (x9 : Nat) (h9 : gm_H), Qc (.inr x9) h9 → Q (.inr x9) h9) : gm_W E d 0 227 lv (.int b2 :: .int b1 :: .int b0 :: .ref a :: st) h Q := gw_call (gn_call m0 f0_227 rfl rfl rfl rfl rfl rfl rfl (gs_virt (bs := [.int b2, .int b1, .int b0]) (w := 149) (L := 5) rfl rfl rfl rfl hs (by simp [gm_en1]) hr (by decide)) (by decide)) m0 rfl rfl hd hc kn kx
theorem f0_230 : gm_ft 0 230 = some (.pop, 1) := by decide +kernel
theorem r0_230 {E : Nat → Value} {d : Nat} {st : List Value} {h : gm_H} {Q : gm_R → gm_H → Prop} {lv : List Value} {x : Int32} : gm_W E d 0 230 lv (.int x :: st) h Q ↔ gm_W E d 0 231 lv st h Q := gw_pure m0 f0_230 rfl
theorem r0_230a {E : Nat → Value} {d : Nat} {st : List Value} {h : gm_H} {Q : gm_R → gm_H → Prop} {lv : List Value} {a : Nat} : gm_W E d 0 230 lv (.ref a :: st) h Q ↔ gm_W E d 0 231 lv st h Q := gw_pure m0 f0_230 rfl
theorem r0_230n {E : Nat → Value} {d : Nat} {st : List Value} {h : gm_H} {Q : gm_R → gm_H → Prop} {lv : List Value} : gm_W E d 0 230 lv (.null :: st) h Q ↔ gm_W E d 0 231 lv st h Q := gw_pure m0 f0_230 rfl
theorem f0_231 : gm_ft 0 231 = some (.aload_n 2, 1) := by decide +kernel
theorem r0_231 {E : Nat → Value} {d : Nat} {st : List Value} {h : gm_H} {Q : gm_R → gm_H → Prop} {a0 a1 a3 : Value} {x : Nat} : gm_W E d 0 231 [a0, a1, .ref x, a3] st h Q ↔ gm_W E d 0 232 [a0, a1, .ref x, a3] (.ref x :: st) h Q := gw_loc m0 f0_231 rfl rfl
theorem r0_231n {E : Nat → Value} {d : Nat} {st : List Value} {h : gm_H} {Q : gm_R → gm_H → Prop} {a0 a1 a3 : Value}  : gm_W E d 0 231 [a0, a1, .null, a3] st h Q ↔ gm_W E d 0 232 [a0, a1, .null, a3] (.null :: st) h Q := gw_loc m0 f0_231 rfl rfl
theorem f0_232 : gm_ft 0 232 = some (.aload_n 0, 1) := by decide +kernel
theorem r0_232 {E : Nat → Value} {d : Nat} {st : List Value} {h : gm_H} {Q : gm_R → gm_H → Prop} {a1 a2 a3 : Value} {x : Nat} : gm_W E d 0 232 [.ref x, a1, a2, a3] st h Q ↔ gm_W E d 0 233 [.ref x, a1, a2, a3] (.ref x :: st) h Q := gw_loc m0 f0_232 rfl rfl
theorem r0_232n {E : Nat → Value} {d : Nat} {st : List Value} {h : gm_H} {Q : gm_R → gm_H → Prop} {a1 a2 a3 : Value}  : gm_W E d 0 232 [.null, a1, a2, a3] st h Q ↔ gm_W E d 0 233 [.null, a1, a2, a3] (.null :: st) h Q := gw_loc m0 f0_232 rfl rfl
theorem f0_233 : gm_ft 0 233 = some (.iload_n 3, 1) := by decide +kernel
theorem r0_233 {E : Nat → Value} {d : Nat} {st : List Value} {h : gm_H} {Q : gm_R → gm_H → Prop} {a0 a1 a2 : Value} {x : Int32} : gm_W E d 0 233 [a0, a1, a2, .int x] st h Q ↔ gm_W E d 0 234 [a0, a1, a2, .int x] (.int x :: st) h Q := gw_loc m0 f0_233 rfl rfl
theorem f0_234 : gm_ft 0 234 = some (.iconst 1, 1) := by decide +kernel
theorem r0_234 {E : Nat → Value} {d : Nat} {st : List Value} {h : gm_H} {Q : gm_R → gm_H → Prop} {lv : List Value} : gm_W E d 0 234 lv st h Q ↔ gm_W E d 0 235 lv (.int (1 : Int32) :: st) h Q := gw_pure m0 f0_234 rfl
theorem f0_235 : gm_ft 0 235 = some (.iadd, 1) := by decide +kernel
theorem r0_235 {E : Nat → Value} {d : Nat} {st : List Value} {h : gm_H} {Q : gm_R → gm_H → Prop} {lv : List Value} {x y : Int32} : gm_W E d 0 235 lv (.int y :: .int x :: st) h Q ↔ gm_W E d 0 236 lv (.int (x + y) :: st) h Q := gw_pure m0 f0_235 rfl
theorem f0_236 : gm_ft 0 236 = some (.iaload, 1) := by decide +kernel
theorem r0_236 {E : Nat → Value} {d : Nat} {st : List Value} {h : gm_H} {Q : gm_R → gm_H → Prop} {lv : List Value} {a j : Nat} (hk : gm_kd h a % 100 = 0 ∧ 100 ≤ gm_kd h a ∧ gm_kd h a < 900) (hj : j < gm_ln h a) (hl : gm_ln h a < 2 ^ 31) : gm_W E d 0 236 lv (.int (nI j) :: .ref a :: st) h Q ↔ gm_W E d 0 237 lv (gm_fv h a j :: st) h Q := gw_rd m0 f0_236 rfl rfl rfl rfl (gs_ld (P := fun t => t == 0) hk.2 (by have := hk.1; simp [this] <;> omega) hj hl)
theorem f0_237 : gm_ft 0 237 = some (.aload_n 0, 1) := by decide +kernel
theorem r0_237 {E : Nat → Value} {d : Nat} {st : List Value} {h : gm_H} {Q : gm_R → gm_H → Prop} {a1 a2 a3 : Value} {x : Nat} : gm_W E d 0 237 [.ref x, a1, a2, a3] st h Q ↔ gm_W E d 0 238 [.ref x, a1, a2, a3] (.ref x :: st) h Q := gw_loc m0 f0_237 rfl rfl
theorem r0_237n {E : Nat → Value} {d : Nat} {st : List Value} {h : gm_H} {Q : gm_R → gm_H → Prop} {a1 a2 a3 : Value}  : gm_W E d 0 237 [.null, a1, a2, a3] st h Q ↔ gm_W E d 0 238 [.null, a1, a2, a3] (.null :: st) h Q := gw_loc m0 f0_237 rfl rfl
theorem f0_238 : gm_ft 0 238 = some (.iload_n 3, 1) := by decide +kernel
theorem r0_238 {E : Nat → Value} {d : Nat} {st : List Value} {h : gm_H} {Q : gm_R → gm_H → Prop} {a0 a1 a2 : Value} {x : Int32} : gm_W E d 0 238 [a0, a1, a2, .int x] st h Q ↔ gm_W E d 0 239 [a0, a1, a2, .int x] (.int x :: st) h Q := gw_loc m0 f0_238 rfl rfl
theorem f0_239 : gm_ft 0 239 = some (.iconst 2, 1) := by decide +kernel
theorem r0_239 {E : Nat → Value} {d : Nat} {st : List Value} {h : gm_H} {Q : gm_R → gm_H → Prop} {lv : List Value} : gm_W E d 0 239 lv st h Q ↔ gm_W E d 0 240 lv (.int (2 : Int32) :: st) h Q := gw_pure m0 f0_239 rfl
theorem f0_240 : gm_ft 0 240 = some (.iadd, 1) := by decide +kernel
theorem r0_240 {E : Nat → Value} {d : Nat} {st : List Value} {h : gm_H} {Q : gm_R → gm_H → Prop} {lv : List Value} {x y : Int32} : gm_W E d 0 240 lv (.int y :: .int x :: st) h Q ↔ gm_W E d 0 241 lv (.int (x + y) :: st) h Q := gw_pure m0 f0_240 rfl
theorem f0_241 : gm_ft 0 241 = some (.iaload, 1) := by decide +kernel
theorem r0_241 {E : Nat → Value} {d : Nat} {st : List Value} {h : gm_H} {Q : gm_R → gm_H → Prop} {lv : List Value} {a j : Nat} (hk : gm_kd h a % 100 = 0 ∧ 100 ≤ gm_kd h a ∧ gm_kd h a < 900) (hj : j < gm_ln h a) (hl : gm_ln h a < 2 ^ 31) : gm_W E d 0 241 lv (.int (nI j) :: .ref a :: st) h Q ↔ gm_W E d 0 242 lv (gm_fv h a j :: st) h Q := gw_rd m0 f0_241 rfl rfl rfl rfl (gs_ld (P := fun t => t == 0) hk.2 (by have := hk.1; simp [this] <;> omega) hj hl)
theorem f0_242 : gm_ft 0 242 = some (.aload_n 0, 1) := by decide +kernel
theorem r0_242 {E : Nat → Value} {d : Nat} {st : List Value} {h : gm_H} {Q : gm_R → gm_H → Prop} {a1 a2 a3 : Value} {x : Nat} : gm_W E d 0 242 [.ref x, a1, a2, a3] st h Q ↔ gm_W E d 0 243 [.ref x, a1, a2, a3] (.ref x :: st) h Q := gw_loc m0 f0_242 rfl rfl
theorem r0_242n {E : Nat → Value} {d : Nat} {st : List Value} {h : gm_H} {Q : gm_R → gm_H → Prop} {a1 a2 a3 : Value}  : gm_W E d 0 242 [.null, a1, a2, a3] st h Q ↔ gm_W E d 0 243 [.null, a1, a2, a3] (.null :: st) h Q := gw_loc m0 f0_242 rfl rfl
theorem f0_243 : gm_ft 0 243 = some (.iload_n 3, 1) := by decide +kernel
theorem r0_243 {E : Nat → Value} {d : Nat} {st : List Value} {h : gm_H} {Q : gm_R → gm_H → Prop} {a0 a1 a2 : Value} {x : Int32} : gm_W E d 0 243 [a0, a1, a2, .int x] st h Q ↔ gm_W E d 0 244 [a0, a1, a2, .int x] (.int x :: st) h Q := gw_loc m0 f0_243 rfl rfl
theorem f0_244 : gm_ft 0 244 = some (.iconst 3, 1) := by decide +kernel
theorem r0_244 {E : Nat → Value} {d : Nat} {st : List Value} {h : gm_H} {Q : gm_R → gm_H → Prop} {lv : List Value} : gm_W E d 0 244 lv st h Q ↔ gm_W E d 0 245 lv (.int (3 : Int32) :: st) h Q := gw_pure m0 f0_244 rfl
theorem f0_245 : gm_ft 0 245 = some (.iadd, 1) := by decide +kernel
theorem r0_245 {E : Nat → Value} {d : Nat} {st : List Value} {h : gm_H} {Q : gm_R → gm_H → Prop} {lv : List Value} {x y : Int32} : gm_W E d 0 245 lv (.int y :: .int x :: st) h Q ↔ gm_W E d 0 246 lv (.int (x + y) :: st) h Q := gw_pure m0 f0_245 rfl
theorem f0_246 : gm_ft 0 246 = some (.iaload, 1) := by decide +kernel
theorem r0_246 {E : Nat → Value} {d : Nat} {st : List Value} {h : gm_H} {Q : gm_R → gm_H → Prop} {lv : List Value} {a j : Nat} (hk : gm_kd h a % 100 = 0 ∧ 100 ≤ gm_kd h a ∧ gm_kd h a < 900) (hj : j < gm_ln h a) (hl : gm_ln h a < 2 ^ 31) : gm_W E d 0 246 lv (.int (nI j) :: .ref a :: st) h Q ↔ gm_W E d 0 247 lv (gm_fv h a j :: st) h Q := gw_rd m0 f0_246 rfl rfl rfl rfl (gs_ld (P := fun t => t == 0) hk.2 (by have := hk.1; simp [this] <;> omega) hj hl)
theorem f0_247 : gm_ft 0 247 = some (.invokevirtual 32, 3) := by decide +kernel
theorem c0_247 {E : Nat → Value} {d : Nat} {st : List Value} {h : gm_H} {Q : gm_R → gm_H → Prop} {lv : List Value} {b0 : Int32} {b1 : Int32} {b2 : Int32} {a : Nat} {Qc : gm_R → gm_H → Prop} (hs : (st.map fun v => v.category).sum ≤ 8) (hr : gm_kd h a = 5) (hd : 1 ≤ d) (hc : gm_Ca E (d - 1) 7 [.ref a, .int b0, .int b1, .int b2] h Qc) (kn : ∀ (v9 : Option Value) (h9 : gm_H), Qc (.inl v9) h9 → gm_W E d 0 250 lv (v9.toList ++ st) h9 Q) (kx : ∀ (x9 : Nat) (h9 : gm_H), Qc (.inr x9) h9 → Q (.inr x9) h9) : gm_W E d 0 247 lv (.int b2 :: .int b1 :: .int b0 :: .ref a :: st) h Q := gw_call (gn_call m0 f0_247 rfl rfl rfl rfl rfl rfl rfl (gs_virt (bs := [.int b2, .int b1, .int b0]) (w := 828) (L := 5) rfl rfl rfl rfl hs (by simp [gm_en1]) hr (by decide)) (by decide)) m0 rfl rfl hd hc kn kx
theorem f0_250 : gm_ft 0 250 = some (.pop, 1) := by decide +kernel
theorem r0_250 {E : Nat → Value} {d : Nat} {st : List Value} {h : gm_H} {Q : gm_R → gm_H → Prop} {lv : List Value} {x : Int32} : gm_W E d 0 250 lv (.int x :: st) h Q ↔ gm_W E d 0 251 lv st h Q := gw_pure m0 f0_250 rfl
theorem r0_250a {E : Nat → Value} {d : Nat} {st : List Value} {h : gm_H} {Q : gm_R → gm_H → Prop} {lv : List Value} {a : Nat} : gm_W E d 0 250 lv (.ref a :: st) h Q ↔ gm_W E d 0 251 lv st h Q := gw_pure m0 f0_250 rfl
theorem r0_250n {E : Nat → Value} {d : Nat} {st : List Value} {h : gm_H} {Q : gm_R → gm_H → Prop} {lv : List Value} : gm_W E d 0 250 lv (.null :: st) h Q ↔ gm_W E d 0 251 lv st h Q := gw_pure m0 f0_250 rfl
theorem f0_251 : gm_ft 0 251 = some (.goto 254, 3) := by decide +kernel
theorem r0_251 {E : Nat → Value} {d : Nat} {st : List Value} {h : gm_H} {Q : gm_R → gm_H → Prop} {lv : List Value} : gm_W E d 0 251 lv st h Q ↔ gm_W E d 0 505 lv st h Q := gw_brT m0 f0_251 rfl rfl rfl rfl
theorem f0_254 : gm_ft 0 254 = some (.aload_n 1, 1) := by decide +kernel
theorem r0_254 {E : Nat → Value} {d : Nat} {st : List Value} {h : gm_H} {Q : gm_R → gm_H → Prop} {a0 a2 a3 : Value} {x : Nat} : gm_W E d 0 254 [a0, .ref x, a2, a3] st h Q ↔ gm_W E d 0 255 [a0, .ref x, a2, a3] (.ref x :: st) h Q := gw_loc m0 f0_254 rfl rfl
theorem r0_254n {E : Nat → Value} {d : Nat} {st : List Value} {h : gm_H} {Q : gm_R → gm_H → Prop} {a0 a2 a3 : Value}  : gm_W E d 0 254 [a0, .null, a2, a3] st h Q ↔ gm_W E d 0 255 [a0, .null, a2, a3] (.null :: st) h Q := gw_loc m0 f0_254 rfl rfl
theorem f0_255 : gm_ft 0 255 = some (.aload_n 0, 1) := by decide +kernel
theorem r0_255 {E : Nat → Value} {d : Nat} {st : List Value} {h : gm_H} {Q : gm_R → gm_H → Prop} {a1 a2 a3 : Value} {x : Nat} : gm_W E d 0 255 [.ref x, a1, a2, a3] st h Q ↔ gm_W E d 0 256 [.ref x, a1, a2, a3] (.ref x :: st) h Q := gw_loc m0 f0_255 rfl rfl
theorem r0_255n {E : Nat → Value} {d : Nat} {st : List Value} {h : gm_H} {Q : gm_R → gm_H → Prop} {a1 a2 a3 : Value}  : gm_W E d 0 255 [.null, a1, a2, a3] st h Q ↔ gm_W E d 0 256 [.null, a1, a2, a3] (.null :: st) h Q := gw_loc m0 f0_255 rfl rfl
theorem f0_256 : gm_ft 0 256 = some (.iload_n 3, 1) := by decide +kernel
theorem r0_256 {E : Nat → Value} {d : Nat} {st : List Value} {h : gm_H} {Q : gm_R → gm_H → Prop} {a0 a1 a2 : Value} {x : Int32} : gm_W E d 0 256 [a0, a1, a2, .int x] st h Q ↔ gm_W E d 0 257 [a0, a1, a2, .int x] (.int x :: st) h Q := gw_loc m0 f0_256 rfl rfl
theorem f0_257 : gm_ft 0 257 = some (.iconst 1, 1) := by decide +kernel
theorem r0_257 {E : Nat → Value} {d : Nat} {st : List Value} {h : gm_H} {Q : gm_R → gm_H → Prop} {lv : List Value} : gm_W E d 0 257 lv st h Q ↔ gm_W E d 0 258 lv (.int (1 : Int32) :: st) h Q := gw_pure m0 f0_257 rfl
theorem f0_258 : gm_ft 0 258 = some (.iadd, 1) := by decide +kernel
theorem r0_258 {E : Nat → Value} {d : Nat} {st : List Value} {h : gm_H} {Q : gm_R → gm_H → Prop} {lv : List Value} {x y : Int32} : gm_W E d 0 258 lv (.int y :: .int x :: st) h Q ↔ gm_W E d 0 259 lv (.int (x + y) :: st) h Q := gw_pure m0 f0_258 rfl
theorem f0_259 : gm_ft 0 259 = some (.iaload, 1) := by decide +kernel
theorem r0_259 {E : Nat → Value} {d : Nat} {st : List Value} {h : gm_H} {Q : gm_R → gm_H → Prop} {lv : List Value} {a j : Nat} (hk : gm_kd h a % 100 = 0 ∧ 100 ≤ gm_kd h a ∧ gm_kd h a < 900) (hj : j < gm_ln h a) (hl : gm_ln h a < 2 ^ 31) : gm_W E d 0 259 lv (.int (nI j) :: .ref a :: st) h Q ↔ gm_W E d 0 260 lv (gm_fv h a j :: st) h Q := gw_rd m0 f0_259 rfl rfl rfl rfl (gs_ld (P := fun t => t == 0) hk.2 (by have := hk.1; simp [this] <;> omega) hj hl)
theorem f0_260 : gm_ft 0 260 = some (.aload_n 0, 1) := by decide +kernel
theorem r0_260 {E : Nat → Value} {d : Nat} {st : List Value} {h : gm_H} {Q : gm_R → gm_H → Prop} {a1 a2 a3 : Value} {x : Nat} : gm_W E d 0 260 [.ref x, a1, a2, a3] st h Q ↔ gm_W E d 0 261 [.ref x, a1, a2, a3] (.ref x :: st) h Q := gw_loc m0 f0_260 rfl rfl
theorem r0_260n {E : Nat → Value} {d : Nat} {st : List Value} {h : gm_H} {Q : gm_R → gm_H → Prop} {a1 a2 a3 : Value}  : gm_W E d 0 260 [.null, a1, a2, a3] st h Q ↔ gm_W E d 0 261 [.null, a1, a2, a3] (.null :: st) h Q := gw_loc m0 f0_260 rfl rfl
theorem f0_261 : gm_ft 0 261 = some (.iload_n 3, 1) := by decide +kernel
theorem r0_261 {E : Nat → Value} {d : Nat} {st : List Value} {h : gm_H} {Q : gm_R → gm_H → Prop} {a0 a1 a2 : Value} {x : Int32} : gm_W E d 0 261 [a0, a1, a2, .int x] st h Q ↔ gm_W E d 0 262 [a0, a1, a2, .int x] (.int x :: st) h Q := gw_loc m0 f0_261 rfl rfl
theorem f0_262 : gm_ft 0 262 = some (.iconst 2, 1) := by decide +kernel
theorem r0_262 {E : Nat → Value} {d : Nat} {st : List Value} {h : gm_H} {Q : gm_R → gm_H → Prop} {lv : List Value} : gm_W E d 0 262 lv st h Q ↔ gm_W E d 0 263 lv (.int (2 : Int32) :: st) h Q := gw_pure m0 f0_262 rfl
theorem f0_263 : gm_ft 0 263 = some (.iadd, 1) := by decide +kernel
theorem r0_263 {E : Nat → Value} {d : Nat} {st : List Value} {h : gm_H} {Q : gm_R → gm_H → Prop} {lv : List Value} {x y : Int32} : gm_W E d 0 263 lv (.int y :: .int x :: st) h Q ↔ gm_W E d 0 264 lv (.int (x + y) :: st) h Q := gw_pure m0 f0_263 rfl
theorem f0_264 : gm_ft 0 264 = some (.iaload, 1) := by decide +kernel
theorem r0_264 {E : Nat → Value} {d : Nat} {st : List Value} {h : gm_H} {Q : gm_R → gm_H → Prop} {lv : List Value} {a j : Nat} (hk : gm_kd h a % 100 = 0 ∧ 100 ≤ gm_kd h a ∧ gm_kd h a < 900) (hj : j < gm_ln h a) (hl : gm_ln h a < 2 ^ 31) : gm_W E d 0 264 lv (.int (nI j) :: .ref a :: st) h Q ↔ gm_W E d 0 265 lv (gm_fv h a j :: st) h Q := gw_rd m0 f0_264 rfl rfl rfl rfl (gs_ld (P := fun t => t == 0) hk.2 (by have := hk.1; simp [this] <;> omega) hj hl)
theorem f0_265 : gm_ft 0 265 = some (.aload_n 0, 1) := by decide +kernel
theorem r0_265 {E : Nat → Value} {d : Nat} {st : List Value} {h : gm_H} {Q : gm_R → gm_H → Prop} {a1 a2 a3 : Value} {x : Nat} : gm_W E d 0 265 [.ref x, a1, a2, a3] st h Q ↔ gm_W E d 0 266 [.ref x, a1, a2, a3] (.ref x :: st) h Q := gw_loc m0 f0_265 rfl rfl
theorem r0_265n {E : Nat → Value} {d : Nat} {st : List Value} {h : gm_H} {Q : gm_R → gm_H → Prop} {a1 a2 a3 : Value}  : gm_W E d 0 265 [.null, a1, a2, a3] st h Q ↔ gm_W E d 0 266 [.null, a1, a2, a3] (.null :: st) h Q := gw_loc m0 f0_265 rfl rfl
theorem f0_266 : gm_ft 0 266 = some (.iload_n 3, 1) := by decide +kernel
theorem r0_266 {E : Nat → Value} {d : Nat} {st : List Value} {h : gm_H} {Q : gm_R → gm_H → Prop} {a0 a1 a2 : Value} {x : Int32} : gm_W E d 0 266 [a0, a1, a2, .int x] st h Q ↔ gm_W E d 0 267 [a0, a1, a2, .int x] (.int x :: st) h Q := gw_loc m0 f0_266 rfl rfl
theorem f0_267 : gm_ft 0 267 = some (.iconst 3, 1) := by decide +kernel
theorem r0_267 {E : Nat → Value} {d : Nat} {st : List Value} {h : gm_H} {Q : gm_R → gm_H → Prop} {lv : List Value} : gm_W E d 0 267 lv st h Q ↔ gm_W E d 0 268 lv (.int (3 : Int32) :: st) h Q := gw_pure m0 f0_267 rfl
theorem f0_268 : gm_ft 0 268 = some (.iadd, 1) := by decide +kernel
theorem r0_268 {E : Nat → Value} {d : Nat} {st : List Value} {h : gm_H} {Q : gm_R → gm_H → Prop} {lv : List Value} {x y : Int32} : gm_W E d 0 268 lv (.int y :: .int x :: st) h Q ↔ gm_W E d 0 269 lv (.int (x + y) :: st) h Q := gw_pure m0 f0_268 rfl
theorem f0_269 : gm_ft 0 269 = some (.iaload, 1) := by decide +kernel
theorem r0_269 {E : Nat → Value} {d : Nat} {st : List Value} {h : gm_H} {Q : gm_R → gm_H → Prop} {lv : List Value} {a j : Nat} (hk : gm_kd h a % 100 = 0 ∧ 100 ≤ gm_kd h a ∧ gm_kd h a < 900) (hj : j < gm_ln h a) (hl : gm_ln h a < 2 ^ 31) : gm_W E d 0 269 lv (.int (nI j) :: .ref a :: st) h Q ↔ gm_W E d 0 270 lv (gm_fv h a j :: st) h Q := gw_rd m0 f0_269 rfl rfl rfl rfl (gs_ld (P := fun t => t == 0) hk.2 (by have := hk.1; simp [this] <;> omega) hj hl)
theorem f0_270 : gm_ft 0 270 = some (.ifCond .eq 7, 3) := by decide +kernel
theorem r0_270 {E : Nat → Value} {d : Nat} {st : List Value} {h : gm_H} {Q : gm_R → gm_H → Prop} {lv : List Value} {x : Int32} : gm_W E d 0 270 lv (.int x :: st) h Q ↔ (if x = 0 then gm_W E d 0 277 lv st h Q else gm_W E d 0 273 lv st h Q) := (gw_br m0 f0_270 rfl rfl rfl rfl).trans gw_if
theorem f0_273 : gm_ft 0 273 = some (.iconst 1, 1) := by decide +kernel
theorem r0_273 {E : Nat → Value} {d : Nat} {st : List Value} {h : gm_H} {Q : gm_R → gm_H → Prop} {lv : List Value} : gm_W E d 0 273 lv st h Q ↔ gm_W E d 0 274 lv (.int (1 : Int32) :: st) h Q := gw_pure m0 f0_273 rfl
theorem f0_274 : gm_ft 0 274 = some (.goto 4, 3) := by decide +kernel
theorem r0_274 {E : Nat → Value} {d : Nat} {st : List Value} {h : gm_H} {Q : gm_R → gm_H → Prop} {lv : List Value} : gm_W E d 0 274 lv st h Q ↔ gm_W E d 0 278 lv st h Q := gw_brT m0 f0_274 rfl rfl rfl rfl
theorem f0_277 : gm_ft 0 277 = some (.iconst 0, 1) := by decide +kernel
theorem r0_277 {E : Nat → Value} {d : Nat} {st : List Value} {h : gm_H} {Q : gm_R → gm_H → Prop} {lv : List Value} : gm_W E d 0 277 lv st h Q ↔ gm_W E d 0 278 lv (.int (0 : Int32) :: st) h Q := gw_pure m0 f0_277 rfl
theorem f0_278 : gm_ft 0 278 = some (.invokevirtual 33, 3) := by decide +kernel
theorem c0_278 {E : Nat → Value} {d : Nat} {st : List Value} {h : gm_H} {Q : gm_R → gm_H → Prop} {lv : List Value} {b0 : Int32} {b1 : Int32} {b2 : Int32} {a : Nat} {Qc : gm_R → gm_H → Prop} (hs : (st.map fun v => v.category).sum ≤ 8) (hr : gm_kd h a = 0) (hd : 1 ≤ d) (hc : gm_Ca E (d - 1) 54 [.ref a, .int b0, .int b1, .int b2] h Qc) (kn : ∀ (v9 : Option Value) (h9 : gm_H), Qc (.inl v9) h9 → gm_W E d 0 281 lv (v9.toList ++ st) h9 Q) (kx : ∀ (x9 : Nat) (h9 : gm_H), Qc (.inr x9) h9 → Q (.inr x9) h9) : gm_W E d 0 278 lv (.int b2 :: .int b1 :: .int b0 :: .ref a :: st) h Q := gw_call (gn_call m0 f0_278 rfl rfl rfl rfl rfl rfl rfl (gs_virt (bs := [.int b2, .int b1, .int b0]) (w := 168) (L := 5) rfl rfl rfl rfl hs (by simp [gm_en1]) hr (by decide)) (by decide)) m0 rfl rfl hd hc kn kx
theorem f0_281 : gm_ft 0 281 = some (.pop, 1) := by decide +kernel
theorem r0_281 {E : Nat → Value} {d : Nat} {st : List Value} {h : gm_H} {Q : gm_R → gm_H → Prop} {lv : List Value} {x : Int32} : gm_W E d 0 281 lv (.int x :: st) h Q ↔ gm_W E d 0 282 lv st h Q := gw_pure m0 f0_281 rfl
theorem r0_281a {E : Nat → Value} {d : Nat} {st : List Value} {h : gm_H} {Q : gm_R → gm_H → Prop} {lv : List Value} {a : Nat} : gm_W E d 0 281 lv (.ref a :: st) h Q ↔ gm_W E d 0 282 lv st h Q := gw_pure m0 f0_281 rfl
theorem r0_281n {E : Nat → Value} {d : Nat} {st : List Value} {h : gm_H} {Q : gm_R → gm_H → Prop} {lv : List Value} : gm_W E d 0 281 lv (.null :: st) h Q ↔ gm_W E d 0 282 lv st h Q := gw_pure m0 f0_281 rfl
theorem f0_282 : gm_ft 0 282 = some (.aload_n 2, 1) := by decide +kernel
theorem r0_282 {E : Nat → Value} {d : Nat} {st : List Value} {h : gm_H} {Q : gm_R → gm_H → Prop} {a0 a1 a3 : Value} {x : Nat} : gm_W E d 0 282 [a0, a1, .ref x, a3] st h Q ↔ gm_W E d 0 283 [a0, a1, .ref x, a3] (.ref x :: st) h Q := gw_loc m0 f0_282 rfl rfl
theorem r0_282n {E : Nat → Value} {d : Nat} {st : List Value} {h : gm_H} {Q : gm_R → gm_H → Prop} {a0 a1 a3 : Value}  : gm_W E d 0 282 [a0, a1, .null, a3] st h Q ↔ gm_W E d 0 283 [a0, a1, .null, a3] (.null :: st) h Q := gw_loc m0 f0_282 rfl rfl
theorem f0_283 : gm_ft 0 283 = some (.aload_n 0, 1) := by decide +kernel
theorem r0_283 {E : Nat → Value} {d : Nat} {st : List Value} {h : gm_H} {Q : gm_R → gm_H → Prop} {a1 a2 a3 : Value} {x : Nat} : gm_W E d 0 283 [.ref x, a1, a2, a3] st h Q ↔ gm_W E d 0 284 [.ref x, a1, a2, a3] (.ref x :: st) h Q := gw_loc m0 f0_283 rfl rfl
theorem r0_283n {E : Nat → Value} {d : Nat} {st : List Value} {h : gm_H} {Q : gm_R → gm_H → Prop} {a1 a2 a3 : Value}  : gm_W E d 0 283 [.null, a1, a2, a3] st h Q ↔ gm_W E d 0 284 [.null, a1, a2, a3] (.null :: st) h Q := gw_loc m0 f0_283 rfl rfl
theorem f0_284 : gm_ft 0 284 = some (.iload_n 3, 1) := by decide +kernel
theorem r0_284 {E : Nat → Value} {d : Nat} {st : List Value} {h : gm_H} {Q : gm_R → gm_H → Prop} {a0 a1 a2 : Value} {x : Int32} : gm_W E d 0 284 [a0, a1, a2, .int x] st h Q ↔ gm_W E d 0 285 [a0, a1, a2, .int x] (.int x :: st) h Q := gw_loc m0 f0_284 rfl rfl
theorem f0_285 : gm_ft 0 285 = some (.iconst 1, 1) := by decide +kernel
theorem r0_285 {E : Nat → Value} {d : Nat} {st : List Value} {h : gm_H} {Q : gm_R → gm_H → Prop} {lv : List Value} : gm_W E d 0 285 lv st h Q ↔ gm_W E d 0 286 lv (.int (1 : Int32) :: st) h Q := gw_pure m0 f0_285 rfl
theorem f0_286 : gm_ft 0 286 = some (.iadd, 1) := by decide +kernel
theorem r0_286 {E : Nat → Value} {d : Nat} {st : List Value} {h : gm_H} {Q : gm_R → gm_H → Prop} {lv : List Value} {x y : Int32} : gm_W E d 0 286 lv (.int y :: .int x :: st) h Q ↔ gm_W E d 0 287 lv (.int (x + y) :: st) h Q := gw_pure m0 f0_286 rfl
theorem f0_287 : gm_ft 0 287 = some (.iaload, 1) := by decide +kernel
theorem r0_287 {E : Nat → Value} {d : Nat} {st : List Value} {h : gm_H} {Q : gm_R → gm_H → Prop} {lv : List Value} {a j : Nat} (hk : gm_kd h a % 100 = 0 ∧ 100 ≤ gm_kd h a ∧ gm_kd h a < 900) (hj : j < gm_ln h a) (hl : gm_ln h a < 2 ^ 31) : gm_W E d 0 287 lv (.int (nI j) :: .ref a :: st) h Q ↔ gm_W E d 0 288 lv (gm_fv h a j :: st) h Q := gw_rd m0 f0_287 rfl rfl rfl rfl (gs_ld (P := fun t => t == 0) hk.2 (by have := hk.1; simp [this] <;> omega) hj hl)
theorem f0_288 : gm_ft 0 288 = some (.aload_n 0, 1) := by decide +kernel
theorem r0_288 {E : Nat → Value} {d : Nat} {st : List Value} {h : gm_H} {Q : gm_R → gm_H → Prop} {a1 a2 a3 : Value} {x : Nat} : gm_W E d 0 288 [.ref x, a1, a2, a3] st h Q ↔ gm_W E d 0 289 [.ref x, a1, a2, a3] (.ref x :: st) h Q := gw_loc m0 f0_288 rfl rfl
theorem r0_288n {E : Nat → Value} {d : Nat} {st : List Value} {h : gm_H} {Q : gm_R → gm_H → Prop} {a1 a2 a3 : Value}  : gm_W E d 0 288 [.null, a1, a2, a3] st h Q ↔ gm_W E d 0 289 [.null, a1, a2, a3] (.null :: st) h Q := gw_loc m0 f0_288 rfl rfl
theorem f0_289 : gm_ft 0 289 = some (.iload_n 3, 1) := by decide +kernel
theorem r0_289 {E : Nat → Value} {d : Nat} {st : List Value} {h : gm_H} {Q : gm_R → gm_H → Prop} {a0 a1 a2 : Value} {x : Int32} : gm_W E d 0 289 [a0, a1, a2, .int x] st h Q ↔ gm_W E d 0 290 [a0, a1, a2, .int x] (.int x :: st) h Q := gw_loc m0 f0_289 rfl rfl
theorem f0_290 : gm_ft 0 290 = some (.iconst 2, 1) := by decide +kernel
theorem r0_290 {E : Nat → Value} {d : Nat} {st : List Value} {h : gm_H} {Q : gm_R → gm_H → Prop} {lv : List Value} : gm_W E d 0 290 lv st h Q ↔ gm_W E d 0 291 lv (.int (2 : Int32) :: st) h Q := gw_pure m0 f0_290 rfl
theorem f0_291 : gm_ft 0 291 = some (.iadd, 1) := by decide +kernel
theorem r0_291 {E : Nat → Value} {d : Nat} {st : List Value} {h : gm_H} {Q : gm_R → gm_H → Prop} {lv : List Value} {x y : Int32} : gm_W E d 0 291 lv (.int y :: .int x :: st) h Q ↔ gm_W E d 0 292 lv (.int (x + y) :: st) h Q := gw_pure m0 f0_291 rfl
theorem f0_292 : gm_ft 0 292 = some (.iaload, 1) := by decide +kernel
theorem r0_292 {E : Nat → Value} {d : Nat} {st : List Value} {h : gm_H} {Q : gm_R → gm_H → Prop} {lv : List Value} {a j : Nat} (hk : gm_kd h a % 100 = 0 ∧ 100 ≤ gm_kd h a ∧ gm_kd h a < 900) (hj : j < gm_ln h a) (hl : gm_ln h a < 2 ^ 31) : gm_W E d 0 292 lv (.int (nI j) :: .ref a :: st) h Q ↔ gm_W E d 0 293 lv (gm_fv h a j :: st) h Q := gw_rd m0 f0_292 rfl rfl rfl rfl (gs_ld (P := fun t => t == 0) hk.2 (by have := hk.1; simp [this] <;> omega) hj hl)
theorem f0_293 : gm_ft 0 293 = some (.aload_n 0, 1) := by decide +kernel
theorem r0_293 {E : Nat → Value} {d : Nat} {st : List Value} {h : gm_H} {Q : gm_R → gm_H → Prop} {a1 a2 a3 : Value} {x : Nat} : gm_W E d 0 293 [.ref x, a1, a2, a3] st h Q ↔ gm_W E d 0 294 [.ref x, a1, a2, a3] (.ref x :: st) h Q := gw_loc m0 f0_293 rfl rfl
theorem r0_293n {E : Nat → Value} {d : Nat} {st : List Value} {h : gm_H} {Q : gm_R → gm_H → Prop} {a1 a2 a3 : Value}  : gm_W E d 0 293 [.null, a1, a2, a3] st h Q ↔ gm_W E d 0 294 [.null, a1, a2, a3] (.null :: st) h Q := gw_loc m0 f0_293 rfl rfl
theorem f0_294 : gm_ft 0 294 = some (.iload_n 3, 1) := by decide +kernel
theorem r0_294 {E : Nat → Value} {d : Nat} {st : List Value} {h : gm_H} {Q : gm_R → gm_H → Prop} {a0 a1 a2 : Value} {x : Int32} : gm_W E d 0 294 [a0, a1, a2, .int x] st h Q ↔ gm_W E d 0 295 [a0, a1, a2, .int x] (.int x :: st) h Q := gw_loc m0 f0_294 rfl rfl
theorem f0_295 : gm_ft 0 295 = some (.iconst 3, 1) := by decide +kernel
theorem r0_295 {E : Nat → Value} {d : Nat} {st : List Value} {h : gm_H} {Q : gm_R → gm_H → Prop} {lv : List Value} : gm_W E d 0 295 lv st h Q ↔ gm_W E d 0 296 lv (.int (3 : Int32) :: st) h Q := gw_pure m0 f0_295 rfl
theorem f0_296 : gm_ft 0 296 = some (.iadd, 1) := by decide +kernel
theorem r0_296 {E : Nat → Value} {d : Nat} {st : List Value} {h : gm_H} {Q : gm_R → gm_H → Prop} {lv : List Value} {x y : Int32} : gm_W E d 0 296 lv (.int y :: .int x :: st) h Q ↔ gm_W E d 0 297 lv (.int (x + y) :: st) h Q := gw_pure m0 f0_296 rfl
theorem f0_297 : gm_ft 0 297 = some (.iaload, 1) := by decide +kernel
theorem r0_297 {E : Nat → Value} {d : Nat} {st : List Value} {h : gm_H} {Q : gm_R → gm_H → Prop} {lv : List Value} {a j : Nat} (hk : gm_kd h a % 100 = 0 ∧ 100 ≤ gm_kd h a ∧ gm_kd h a < 900) (hj : j < gm_ln h a) (hl : gm_ln h a < 2 ^ 31) : gm_W E d 0 297 lv (.int (nI j) :: .ref a :: st) h Q ↔ gm_W E d 0 298 lv (gm_fv h a j :: st) h Q := gw_rd m0 f0_297 rfl rfl rfl rfl (gs_ld (P := fun t => t == 0) hk.2 (by have := hk.1; simp [this] <;> omega) hj hl)
theorem f0_298 : gm_ft 0 298 = some (.ifCond .eq 7, 3) := by decide +kernel
theorem r0_298 {E : Nat → Value} {d : Nat} {st : List Value} {h : gm_H} {Q : gm_R → gm_H → Prop} {lv : List Value} {x : Int32} : gm_W E d 0 298 lv (.int x :: st) h Q ↔ (if x = 0 then gm_W E d 0 305 lv st h Q else gm_W E d 0 301 lv st h Q) := (gw_br m0 f0_298 rfl rfl rfl rfl).trans gw_if
theorem f0_301 : gm_ft 0 301 = some (.iconst 1, 1) := by decide +kernel
theorem r0_301 {E : Nat → Value} {d : Nat} {st : List Value} {h : gm_H} {Q : gm_R → gm_H → Prop} {lv : List Value} : gm_W E d 0 301 lv st h Q ↔ gm_W E d 0 302 lv (.int (1 : Int32) :: st) h Q := gw_pure m0 f0_301 rfl
theorem f0_302 : gm_ft 0 302 = some (.goto 4, 3) := by decide +kernel
theorem r0_302 {E : Nat → Value} {d : Nat} {st : List Value} {h : gm_H} {Q : gm_R → gm_H → Prop} {lv : List Value} : gm_W E d 0 302 lv st h Q ↔ gm_W E d 0 306 lv st h Q := gw_brT m0 f0_302 rfl rfl rfl rfl
theorem f0_305 : gm_ft 0 305 = some (.iconst 0, 1) := by decide +kernel
theorem r0_305 {E : Nat → Value} {d : Nat} {st : List Value} {h : gm_H} {Q : gm_R → gm_H → Prop} {lv : List Value} : gm_W E d 0 305 lv st h Q ↔ gm_W E d 0 306 lv (.int (0 : Int32) :: st) h Q := gw_pure m0 f0_305 rfl
theorem f0_306 : gm_ft 0 306 = some (.invokevirtual 37, 3) := by decide +kernel
theorem c0_306 {E : Nat → Value} {d : Nat} {st : List Value} {h : gm_H} {Q : gm_R → gm_H → Prop} {lv : List Value} {b0 : Int32} {b1 : Int32} {b2 : Int32} {a : Nat} {Qc : gm_R → gm_H → Prop} (hs : (st.map fun v => v.category).sum ≤ 8) (hr : gm_kd h a = 5) (hd : 1 ≤ d) (hc : gm_Ca E (d - 1) 8 [.ref a, .int b0, .int b1, .int b2] h Qc) (kn : ∀ (v9 : Option Value) (h9 : gm_H), Qc (.inl v9) h9 → gm_W E d 0 309 lv (v9.toList ++ st) h9 Q) (kx : ∀ (x9 : Nat) (h9 : gm_H), Qc (.inr x9) h9 → Q (.inr x9) h9) : gm_W E d 0 306 lv (.int b2 :: .int b1 :: .int b0 :: .ref a :: st) h Q := gw_call (gn_call m0 f0_306 rfl rfl rfl rfl rfl rfl rfl (gs_virt (bs := [.int b2, .int b1, .int b0]) (w := 832) (L := 4) rfl rfl rfl rfl hs (by simp [gm_en1]) hr (by decide)) (by decide)) m0 rfl rfl hd hc kn kx
theorem f0_309 : gm_ft 0 309 = some (.pop, 1) := by decide +kernel
theorem r0_309 {E : Nat → Value} {d : Nat} {st : List Value} {h : gm_H} {Q : gm_R → gm_H → Prop} {lv : List Value} {x : Int32} : gm_W E d 0 309 lv (.int x :: st) h Q ↔ gm_W E d 0 310 lv st h Q := gw_pure m0 f0_309 rfl
theorem r0_309a {E : Nat → Value} {d : Nat} {st : List Value} {h : gm_H} {Q : gm_R → gm_H → Prop} {lv : List Value} {a : Nat} : gm_W E d 0 309 lv (.ref a :: st) h Q ↔ gm_W E d 0 310 lv st h Q := gw_pure m0 f0_309 rfl
theorem r0_309n {E : Nat → Value} {d : Nat} {st : List Value} {h : gm_H} {Q : gm_R → gm_H → Prop} {lv : List Value} : gm_W E d 0 309 lv (.null :: st) h Q ↔ gm_W E d 0 310 lv st h Q := gw_pure m0 f0_309 rfl
theorem f0_310 : gm_ft 0 310 = some (.goto 195, 3) := by decide +kernel
theorem r0_310 {E : Nat → Value} {d : Nat} {st : List Value} {h : gm_H} {Q : gm_R → gm_H → Prop} {lv : List Value} : gm_W E d 0 310 lv st h Q ↔ gm_W E d 0 505 lv st h Q := gw_brT m0 f0_310 rfl rfl rfl rfl
theorem f0_313 : gm_ft 0 313 = some (.aload_n 1, 1) := by decide +kernel
theorem r0_313 {E : Nat → Value} {d : Nat} {st : List Value} {h : gm_H} {Q : gm_R → gm_H → Prop} {a0 a2 a3 : Value} {x : Nat} : gm_W E d 0 313 [a0, .ref x, a2, a3] st h Q ↔ gm_W E d 0 314 [a0, .ref x, a2, a3] (.ref x :: st) h Q := gw_loc m0 f0_313 rfl rfl
theorem r0_313n {E : Nat → Value} {d : Nat} {st : List Value} {h : gm_H} {Q : gm_R → gm_H → Prop} {a0 a2 a3 : Value}  : gm_W E d 0 313 [a0, .null, a2, a3] st h Q ↔ gm_W E d 0 314 [a0, .null, a2, a3] (.null :: st) h Q := gw_loc m0 f0_313 rfl rfl
theorem f0_314 : gm_ft 0 314 = some (.aload_n 0, 1) := by decide +kernel
theorem r0_314 {E : Nat → Value} {d : Nat} {st : List Value} {h : gm_H} {Q : gm_R → gm_H → Prop} {a1 a2 a3 : Value} {x : Nat} : gm_W E d 0 314 [.ref x, a1, a2, a3] st h Q ↔ gm_W E d 0 315 [.ref x, a1, a2, a3] (.ref x :: st) h Q := gw_loc m0 f0_314 rfl rfl
theorem r0_314n {E : Nat → Value} {d : Nat} {st : List Value} {h : gm_H} {Q : gm_R → gm_H → Prop} {a1 a2 a3 : Value}  : gm_W E d 0 314 [.null, a1, a2, a3] st h Q ↔ gm_W E d 0 315 [.null, a1, a2, a3] (.null :: st) h Q := gw_loc m0 f0_314 rfl rfl
theorem f0_315 : gm_ft 0 315 = some (.iload_n 3, 1) := by decide +kernel
theorem r0_315 {E : Nat → Value} {d : Nat} {st : List Value} {h : gm_H} {Q : gm_R → gm_H → Prop} {a0 a1 a2 : Value} {x : Int32} : gm_W E d 0 315 [a0, a1, a2, .int x] st h Q ↔ gm_W E d 0 316 [a0, a1, a2, .int x] (.int x :: st) h Q := gw_loc m0 f0_315 rfl rfl
theorem f0_316 : gm_ft 0 316 = some (.iconst 1, 1) := by decide +kernel
theorem r0_316 {E : Nat → Value} {d : Nat} {st : List Value} {h : gm_H} {Q : gm_R → gm_H → Prop} {lv : List Value} : gm_W E d 0 316 lv st h Q ↔ gm_W E d 0 317 lv (.int (1 : Int32) :: st) h Q := gw_pure m0 f0_316 rfl
theorem f0_317 : gm_ft 0 317 = some (.iadd, 1) := by decide +kernel
theorem r0_317 {E : Nat → Value} {d : Nat} {st : List Value} {h : gm_H} {Q : gm_R → gm_H → Prop} {lv : List Value} {x y : Int32} : gm_W E d 0 317 lv (.int y :: .int x :: st) h Q ↔ gm_W E d 0 318 lv (.int (x + y) :: st) h Q := gw_pure m0 f0_317 rfl
theorem f0_318 : gm_ft 0 318 = some (.iaload, 1) := by decide +kernel
theorem r0_318 {E : Nat → Value} {d : Nat} {st : List Value} {h : gm_H} {Q : gm_R → gm_H → Prop} {lv : List Value} {a j : Nat} (hk : gm_kd h a % 100 = 0 ∧ 100 ≤ gm_kd h a ∧ gm_kd h a < 900) (hj : j < gm_ln h a) (hl : gm_ln h a < 2 ^ 31) : gm_W E d 0 318 lv (.int (nI j) :: .ref a :: st) h Q ↔ gm_W E d 0 319 lv (gm_fv h a j :: st) h Q := gw_rd m0 f0_318 rfl rfl rfl rfl (gs_ld (P := fun t => t == 0) hk.2 (by have := hk.1; simp [this] <;> omega) hj hl)
theorem f0_319 : gm_ft 0 319 = some (.i2l, 1) := by decide +kernel
theorem r0_319 {E : Nat → Value} {d : Nat} {st : List Value} {h : gm_H} {Q : gm_R → gm_H → Prop} {lv : List Value} {x : Int32} : gm_W E d 0 319 lv (.int x :: st) h Q ↔ gm_W E d 0 320 lv (.long (x.toInt64) :: st) h Q := gw_pure m0 f0_319 rfl
theorem f0_320 : gm_ft 0 320 = some (.bipush 32, 2) := by decide +kernel
theorem r0_320 {E : Nat → Value} {d : Nat} {st : List Value} {h : gm_H} {Q : gm_R → gm_H → Prop} {lv : List Value} : gm_W E d 0 320 lv st h Q ↔ gm_W E d 0 322 lv (.int (32 : Int32) :: st) h Q := gw_pure m0 f0_320 rfl
theorem f0_322 : gm_ft 0 322 = some (.lshl, 1) := by decide +kernel
theorem r0_322 {E : Nat → Value} {d : Nat} {st : List Value} {h : gm_H} {Q : gm_R → gm_H → Prop} {lv : List Value} {x : Int64} {y : Int32} : gm_W E d 0 322 lv (.int y :: .long x :: st) h Q ↔ gm_W E d 0 323 lv (.long (x <<< (y.toInt64 &&& 63)) :: st) h Q := gw_pure m0 f0_322 rfl
theorem f0_323 : gm_ft 0 323 = some (.aload_n 0, 1) := by decide +kernel
theorem r0_323 {E : Nat → Value} {d : Nat} {st : List Value} {h : gm_H} {Q : gm_R → gm_H → Prop} {a1 a2 a3 : Value} {x : Nat} : gm_W E d 0 323 [.ref x, a1, a2, a3] st h Q ↔ gm_W E d 0 324 [.ref x, a1, a2, a3] (.ref x :: st) h Q := gw_loc m0 f0_323 rfl rfl
theorem r0_323n {E : Nat → Value} {d : Nat} {st : List Value} {h : gm_H} {Q : gm_R → gm_H → Prop} {a1 a2 a3 : Value}  : gm_W E d 0 323 [.null, a1, a2, a3] st h Q ↔ gm_W E d 0 324 [.null, a1, a2, a3] (.null :: st) h Q := gw_loc m0 f0_323 rfl rfl
theorem f0_324 : gm_ft 0 324 = some (.iload_n 3, 1) := by decide +kernel
theorem r0_324 {E : Nat → Value} {d : Nat} {st : List Value} {h : gm_H} {Q : gm_R → gm_H → Prop} {a0 a1 a2 : Value} {x : Int32} : gm_W E d 0 324 [a0, a1, a2, .int x] st h Q ↔ gm_W E d 0 325 [a0, a1, a2, .int x] (.int x :: st) h Q := gw_loc m0 f0_324 rfl rfl
theorem f0_325 : gm_ft 0 325 = some (.iconst 2, 1) := by decide +kernel
theorem r0_325 {E : Nat → Value} {d : Nat} {st : List Value} {h : gm_H} {Q : gm_R → gm_H → Prop} {lv : List Value} : gm_W E d 0 325 lv st h Q ↔ gm_W E d 0 326 lv (.int (2 : Int32) :: st) h Q := gw_pure m0 f0_325 rfl
theorem f0_326 : gm_ft 0 326 = some (.iadd, 1) := by decide +kernel
theorem r0_326 {E : Nat → Value} {d : Nat} {st : List Value} {h : gm_H} {Q : gm_R → gm_H → Prop} {lv : List Value} {x y : Int32} : gm_W E d 0 326 lv (.int y :: .int x :: st) h Q ↔ gm_W E d 0 327 lv (.int (x + y) :: st) h Q := gw_pure m0 f0_326 rfl
theorem f0_327 : gm_ft 0 327 = some (.iaload, 1) := by decide +kernel
theorem r0_327 {E : Nat → Value} {d : Nat} {st : List Value} {h : gm_H} {Q : gm_R → gm_H → Prop} {lv : List Value} {a j : Nat} (hk : gm_kd h a % 100 = 0 ∧ 100 ≤ gm_kd h a ∧ gm_kd h a < 900) (hj : j < gm_ln h a) (hl : gm_ln h a < 2 ^ 31) : gm_W E d 0 327 lv (.int (nI j) :: .ref a :: st) h Q ↔ gm_W E d 0 328 lv (gm_fv h a j :: st) h Q := gw_rd m0 f0_327 rfl rfl rfl rfl (gs_ld (P := fun t => t == 0) hk.2 (by have := hk.1; simp [this] <;> omega) hj hl)
theorem f0_328 : gm_ft 0 328 = some (.i2l, 1) := by decide +kernel
theorem r0_328 {E : Nat → Value} {d : Nat} {st : List Value} {h : gm_H} {Q : gm_R → gm_H → Prop} {lv : List Value} {x : Int32} : gm_W E d 0 328 lv (.int x :: st) h Q ↔ gm_W E d 0 329 lv (.long (x.toInt64) :: st) h Q := gw_pure m0 f0_328 rfl
theorem f0_329 : gm_ft 0 329 = some (.ldc2_w 21, 3) := by decide +kernel
theorem r0_329 {E : Nat → Value} {d : Nat} {st : List Value} {h : gm_H} {Q : gm_R → gm_H → Prop} {lv : List Value} : gm_W E d 0 329 lv st h Q ↔ gm_W E d 0 332 lv (.long (4294967295 : Int64) :: st) h Q := gw_rd m0 f0_329 rfl rfl rfl rfl rfl
theorem f0_332 : gm_ft 0 332 = some (.land, 1) := by decide +kernel
theorem r0_332 {E : Nat → Value} {d : Nat} {st : List Value} {h : gm_H} {Q : gm_R → gm_H → Prop} {lv : List Value} {x y : Int64} : gm_W E d 0 332 lv (.long y :: .long x :: st) h Q ↔ gm_W E d 0 333 lv (.long (x &&& y) :: st) h Q := gw_pure m0 f0_332 rfl
theorem f0_333 : gm_ft 0 333 = some (.lor, 1) := by decide +kernel
theorem r0_333 {E : Nat → Value} {d : Nat} {st : List Value} {h : gm_H} {Q : gm_R → gm_H → Prop} {lv : List Value} {x y : Int64} : gm_W E d 0 333 lv (.long y :: .long x :: st) h Q ↔ gm_W E d 0 334 lv (.long (x ||| y) :: st) h Q := gw_pure m0 f0_333 rfl
theorem f0_334 : gm_ft 0 334 = some (.aload_n 0, 1) := by decide +kernel
theorem r0_334 {E : Nat → Value} {d : Nat} {st : List Value} {h : gm_H} {Q : gm_R → gm_H → Prop} {a1 a2 a3 : Value} {x : Nat} : gm_W E d 0 334 [.ref x, a1, a2, a3] st h Q ↔ gm_W E d 0 335 [.ref x, a1, a2, a3] (.ref x :: st) h Q := gw_loc m0 f0_334 rfl rfl
theorem r0_334n {E : Nat → Value} {d : Nat} {st : List Value} {h : gm_H} {Q : gm_R → gm_H → Prop} {a1 a2 a3 : Value}  : gm_W E d 0 334 [.null, a1, a2, a3] st h Q ↔ gm_W E d 0 335 [.null, a1, a2, a3] (.null :: st) h Q := gw_loc m0 f0_334 rfl rfl
theorem f0_335 : gm_ft 0 335 = some (.iload_n 3, 1) := by decide +kernel
theorem r0_335 {E : Nat → Value} {d : Nat} {st : List Value} {h : gm_H} {Q : gm_R → gm_H → Prop} {a0 a1 a2 : Value} {x : Int32} : gm_W E d 0 335 [a0, a1, a2, .int x] st h Q ↔ gm_W E d 0 336 [a0, a1, a2, .int x] (.int x :: st) h Q := gw_loc m0 f0_335 rfl rfl
theorem f0_336 : gm_ft 0 336 = some (.iconst 3, 1) := by decide +kernel
theorem r0_336 {E : Nat → Value} {d : Nat} {st : List Value} {h : gm_H} {Q : gm_R → gm_H → Prop} {lv : List Value} : gm_W E d 0 336 lv st h Q ↔ gm_W E d 0 337 lv (.int (3 : Int32) :: st) h Q := gw_pure m0 f0_336 rfl
theorem f0_337 : gm_ft 0 337 = some (.iadd, 1) := by decide +kernel
theorem r0_337 {E : Nat → Value} {d : Nat} {st : List Value} {h : gm_H} {Q : gm_R → gm_H → Prop} {lv : List Value} {x y : Int32} : gm_W E d 0 337 lv (.int y :: .int x :: st) h Q ↔ gm_W E d 0 338 lv (.int (x + y) :: st) h Q := gw_pure m0 f0_337 rfl
theorem f0_338 : gm_ft 0 338 = some (.iaload, 1) := by decide +kernel
theorem r0_338 {E : Nat → Value} {d : Nat} {st : List Value} {h : gm_H} {Q : gm_R → gm_H → Prop} {lv : List Value} {a j : Nat} (hk : gm_kd h a % 100 = 0 ∧ 100 ≤ gm_kd h a ∧ gm_kd h a < 900) (hj : j < gm_ln h a) (hl : gm_ln h a < 2 ^ 31) : gm_W E d 0 338 lv (.int (nI j) :: .ref a :: st) h Q ↔ gm_W E d 0 339 lv (gm_fv h a j :: st) h Q := gw_rd m0 f0_338 rfl rfl rfl rfl (gs_ld (P := fun t => t == 0) hk.2 (by have := hk.1; simp [this] <;> omega) hj hl)
theorem f0_339 : gm_ft 0 339 = some (.invokevirtual 38, 3) := by decide +kernel
theorem c0_339 {E : Nat → Value} {d : Nat} {st : List Value} {h : gm_H} {Q : gm_R → gm_H → Prop} {lv : List Value} {b0 : Int64} {b1 : Int32} {a : Nat} {Qc : gm_R → gm_H → Prop} (hs : (st.map fun v => v.category).sum ≤ 8) (hr : gm_kd h a = 0) (hd : 1 ≤ d) (hc : gm_Ca E (d - 1) 55 [.ref a, .long b0, .int b1] h Qc) (kn : ∀ (v9 : Option Value) (h9 : gm_H), Qc (.inl v9) h9 → gm_W E d 0 342 lv (v9.toList ++ st) h9 Q) (kx : ∀ (x9 : Nat) (h9 : gm_H), Qc (.inr x9) h9 → Q (.inr x9) h9) : gm_W E d 0 339 lv (.int b1 :: .long b0 :: .ref a :: st) h Q := gw_call (gn_call m0 f0_339 rfl rfl rfl rfl rfl rfl rfl (gs_virt (bs := [.int b1, .long b0]) (w := 172) (L := 5) rfl rfl rfl rfl hs (by simp [gm_en1]) hr (by decide)) (by decide)) m0 rfl rfl hd hc kn kx
theorem f0_342 : gm_ft 0 342 = some (.pop, 1) := by decide +kernel
theorem r0_342 {E : Nat → Value} {d : Nat} {st : List Value} {h : gm_H} {Q : gm_R → gm_H → Prop} {lv : List Value} {x : Int32} : gm_W E d 0 342 lv (.int x :: st) h Q ↔ gm_W E d 0 343 lv st h Q := gw_pure m0 f0_342 rfl
theorem r0_342a {E : Nat → Value} {d : Nat} {st : List Value} {h : gm_H} {Q : gm_R → gm_H → Prop} {lv : List Value} {a : Nat} : gm_W E d 0 342 lv (.ref a :: st) h Q ↔ gm_W E d 0 343 lv st h Q := gw_pure m0 f0_342 rfl
theorem r0_342n {E : Nat → Value} {d : Nat} {st : List Value} {h : gm_H} {Q : gm_R → gm_H → Prop} {lv : List Value} : gm_W E d 0 342 lv (.null :: st) h Q ↔ gm_W E d 0 343 lv st h Q := gw_pure m0 f0_342 rfl
theorem f0_343 : gm_ft 0 343 = some (.aload_n 2, 1) := by decide +kernel
theorem r0_343 {E : Nat → Value} {d : Nat} {st : List Value} {h : gm_H} {Q : gm_R → gm_H → Prop} {a0 a1 a3 : Value} {x : Nat} : gm_W E d 0 343 [a0, a1, .ref x, a3] st h Q ↔ gm_W E d 0 344 [a0, a1, .ref x, a3] (.ref x :: st) h Q := gw_loc m0 f0_343 rfl rfl
theorem r0_343n {E : Nat → Value} {d : Nat} {st : List Value} {h : gm_H} {Q : gm_R → gm_H → Prop} {a0 a1 a3 : Value}  : gm_W E d 0 343 [a0, a1, .null, a3] st h Q ↔ gm_W E d 0 344 [a0, a1, .null, a3] (.null :: st) h Q := gw_loc m0 f0_343 rfl rfl
theorem f0_344 : gm_ft 0 344 = some (.aload_n 0, 1) := by decide +kernel
theorem r0_344 {E : Nat → Value} {d : Nat} {st : List Value} {h : gm_H} {Q : gm_R → gm_H → Prop} {a1 a2 a3 : Value} {x : Nat} : gm_W E d 0 344 [.ref x, a1, a2, a3] st h Q ↔ gm_W E d 0 345 [.ref x, a1, a2, a3] (.ref x :: st) h Q := gw_loc m0 f0_344 rfl rfl
theorem r0_344n {E : Nat → Value} {d : Nat} {st : List Value} {h : gm_H} {Q : gm_R → gm_H → Prop} {a1 a2 a3 : Value}  : gm_W E d 0 344 [.null, a1, a2, a3] st h Q ↔ gm_W E d 0 345 [.null, a1, a2, a3] (.null :: st) h Q := gw_loc m0 f0_344 rfl rfl
theorem f0_345 : gm_ft 0 345 = some (.iload_n 3, 1) := by decide +kernel
theorem r0_345 {E : Nat → Value} {d : Nat} {st : List Value} {h : gm_H} {Q : gm_R → gm_H → Prop} {a0 a1 a2 : Value} {x : Int32} : gm_W E d 0 345 [a0, a1, a2, .int x] st h Q ↔ gm_W E d 0 346 [a0, a1, a2, .int x] (.int x :: st) h Q := gw_loc m0 f0_345 rfl rfl
theorem f0_346 : gm_ft 0 346 = some (.iconst 1, 1) := by decide +kernel
theorem r0_346 {E : Nat → Value} {d : Nat} {st : List Value} {h : gm_H} {Q : gm_R → gm_H → Prop} {lv : List Value} : gm_W E d 0 346 lv st h Q ↔ gm_W E d 0 347 lv (.int (1 : Int32) :: st) h Q := gw_pure m0 f0_346 rfl
theorem f0_347 : gm_ft 0 347 = some (.iadd, 1) := by decide +kernel
theorem r0_347 {E : Nat → Value} {d : Nat} {st : List Value} {h : gm_H} {Q : gm_R → gm_H → Prop} {lv : List Value} {x y : Int32} : gm_W E d 0 347 lv (.int y :: .int x :: st) h Q ↔ gm_W E d 0 348 lv (.int (x + y) :: st) h Q := gw_pure m0 f0_347 rfl
theorem f0_348 : gm_ft 0 348 = some (.iaload, 1) := by decide +kernel
theorem r0_348 {E : Nat → Value} {d : Nat} {st : List Value} {h : gm_H} {Q : gm_R → gm_H → Prop} {lv : List Value} {a j : Nat} (hk : gm_kd h a % 100 = 0 ∧ 100 ≤ gm_kd h a ∧ gm_kd h a < 900) (hj : j < gm_ln h a) (hl : gm_ln h a < 2 ^ 31) : gm_W E d 0 348 lv (.int (nI j) :: .ref a :: st) h Q ↔ gm_W E d 0 349 lv (gm_fv h a j :: st) h Q := gw_rd m0 f0_348 rfl rfl rfl rfl (gs_ld (P := fun t => t == 0) hk.2 (by have := hk.1; simp [this] <;> omega) hj hl)
theorem f0_349 : gm_ft 0 349 = some (.i2l, 1) := by decide +kernel
theorem r0_349 {E : Nat → Value} {d : Nat} {st : List Value} {h : gm_H} {Q : gm_R → gm_H → Prop} {lv : List Value} {x : Int32} : gm_W E d 0 349 lv (.int x :: st) h Q ↔ gm_W E d 0 350 lv (.long (x.toInt64) :: st) h Q := gw_pure m0 f0_349 rfl
theorem f0_350 : gm_ft 0 350 = some (.bipush 32, 2) := by decide +kernel
theorem r0_350 {E : Nat → Value} {d : Nat} {st : List Value} {h : gm_H} {Q : gm_R → gm_H → Prop} {lv : List Value} : gm_W E d 0 350 lv st h Q ↔ gm_W E d 0 352 lv (.int (32 : Int32) :: st) h Q := gw_pure m0 f0_350 rfl
theorem f0_352 : gm_ft 0 352 = some (.lshl, 1) := by decide +kernel
theorem r0_352 {E : Nat → Value} {d : Nat} {st : List Value} {h : gm_H} {Q : gm_R → gm_H → Prop} {lv : List Value} {x : Int64} {y : Int32} : gm_W E d 0 352 lv (.int y :: .long x :: st) h Q ↔ gm_W E d 0 353 lv (.long (x <<< (y.toInt64 &&& 63)) :: st) h Q := gw_pure m0 f0_352 rfl
theorem f0_353 : gm_ft 0 353 = some (.aload_n 0, 1) := by decide +kernel
theorem r0_353 {E : Nat → Value} {d : Nat} {st : List Value} {h : gm_H} {Q : gm_R → gm_H → Prop} {a1 a2 a3 : Value} {x : Nat} : gm_W E d 0 353 [.ref x, a1, a2, a3] st h Q ↔ gm_W E d 0 354 [.ref x, a1, a2, a3] (.ref x :: st) h Q := gw_loc m0 f0_353 rfl rfl
theorem r0_353n {E : Nat → Value} {d : Nat} {st : List Value} {h : gm_H} {Q : gm_R → gm_H → Prop} {a1 a2 a3 : Value}  : gm_W E d 0 353 [.null, a1, a2, a3] st h Q ↔ gm_W E d 0 354 [.null, a1, a2, a3] (.null :: st) h Q := gw_loc m0 f0_353 rfl rfl
theorem f0_354 : gm_ft 0 354 = some (.iload_n 3, 1) := by decide +kernel
theorem r0_354 {E : Nat → Value} {d : Nat} {st : List Value} {h : gm_H} {Q : gm_R → gm_H → Prop} {a0 a1 a2 : Value} {x : Int32} : gm_W E d 0 354 [a0, a1, a2, .int x] st h Q ↔ gm_W E d 0 355 [a0, a1, a2, .int x] (.int x :: st) h Q := gw_loc m0 f0_354 rfl rfl
theorem f0_355 : gm_ft 0 355 = some (.iconst 2, 1) := by decide +kernel
theorem r0_355 {E : Nat → Value} {d : Nat} {st : List Value} {h : gm_H} {Q : gm_R → gm_H → Prop} {lv : List Value} : gm_W E d 0 355 lv st h Q ↔ gm_W E d 0 356 lv (.int (2 : Int32) :: st) h Q := gw_pure m0 f0_355 rfl
theorem f0_356 : gm_ft 0 356 = some (.iadd, 1) := by decide +kernel
theorem r0_356 {E : Nat → Value} {d : Nat} {st : List Value} {h : gm_H} {Q : gm_R → gm_H → Prop} {lv : List Value} {x y : Int32} : gm_W E d 0 356 lv (.int y :: .int x :: st) h Q ↔ gm_W E d 0 357 lv (.int (x + y) :: st) h Q := gw_pure m0 f0_356 rfl
theorem f0_357 : gm_ft 0 357 = some (.iaload, 1) := by decide +kernel
theorem r0_357 {E : Nat → Value} {d : Nat} {st : List Value} {h : gm_H} {Q : gm_R → gm_H → Prop} {lv : List Value} {a j : Nat} (hk : gm_kd h a % 100 = 0 ∧ 100 ≤ gm_kd h a ∧ gm_kd h a < 900) (hj : j < gm_ln h a) (hl : gm_ln h a < 2 ^ 31) : gm_W E d 0 357 lv (.int (nI j) :: .ref a :: st) h Q ↔ gm_W E d 0 358 lv (gm_fv h a j :: st) h Q := gw_rd m0 f0_357 rfl rfl rfl rfl (gs_ld (P := fun t => t == 0) hk.2 (by have := hk.1; simp [this] <;> omega) hj hl)
theorem f0_358 : gm_ft 0 358 = some (.i2l, 1) := by decide +kernel
theorem r0_358 {E : Nat → Value} {d : Nat} {st : List Value} {h : gm_H} {Q : gm_R → gm_H → Prop} {lv : List Value} {x : Int32} : gm_W E d 0 358 lv (.int x :: st) h Q ↔ gm_W E d 0 359 lv (.long (x.toInt64) :: st) h Q := gw_pure m0 f0_358 rfl
theorem f0_359 : gm_ft 0 359 = some (.ldc2_w 21, 3) := by decide +kernel
theorem r0_359 {E : Nat → Value} {d : Nat} {st : List Value} {h : gm_H} {Q : gm_R → gm_H → Prop} {lv : List Value} : gm_W E d 0 359 lv st h Q ↔ gm_W E d 0 362 lv (.long (4294967295 : Int64) :: st) h Q := gw_rd m0 f0_359 rfl rfl rfl rfl rfl
theorem f0_362 : gm_ft 0 362 = some (.land, 1) := by decide +kernel
theorem r0_362 {E : Nat → Value} {d : Nat} {st : List Value} {h : gm_H} {Q : gm_R → gm_H → Prop} {lv : List Value} {x y : Int64} : gm_W E d 0 362 lv (.long y :: .long x :: st) h Q ↔ gm_W E d 0 363 lv (.long (x &&& y) :: st) h Q := gw_pure m0 f0_362 rfl
theorem f0_363 : gm_ft 0 363 = some (.lor, 1) := by decide +kernel
theorem r0_363 {E : Nat → Value} {d : Nat} {st : List Value} {h : gm_H} {Q : gm_R → gm_H → Prop} {lv : List Value} {x y : Int64} : gm_W E d 0 363 lv (.long y :: .long x :: st) h Q ↔ gm_W E d 0 364 lv (.long (x ||| y) :: st) h Q := gw_pure m0 f0_363 rfl
theorem f0_364 : gm_ft 0 364 = some (.aload_n 0, 1) := by decide +kernel
theorem r0_364 {E : Nat → Value} {d : Nat} {st : List Value} {h : gm_H} {Q : gm_R → gm_H → Prop} {a1 a2 a3 : Value} {x : Nat} : gm_W E d 0 364 [.ref x, a1, a2, a3] st h Q ↔ gm_W E d 0 365 [.ref x, a1, a2, a3] (.ref x :: st) h Q := gw_loc m0 f0_364 rfl rfl
theorem r0_364n {E : Nat → Value} {d : Nat} {st : List Value} {h : gm_H} {Q : gm_R → gm_H → Prop} {a1 a2 a3 : Value}  : gm_W E d 0 364 [.null, a1, a2, a3] st h Q ↔ gm_W E d 0 365 [.null, a1, a2, a3] (.null :: st) h Q := gw_loc m0 f0_364 rfl rfl
theorem f0_365 : gm_ft 0 365 = some (.iload_n 3, 1) := by decide +kernel
theorem r0_365 {E : Nat → Value} {d : Nat} {st : List Value} {h : gm_H} {Q : gm_R → gm_H → Prop} {a0 a1 a2 : Value} {x : Int32} : gm_W E d 0 365 [a0, a1, a2, .int x] st h Q ↔ gm_W E d 0 366 [a0, a1, a2, .int x] (.int x :: st) h Q := gw_loc m0 f0_365 rfl rfl
theorem f0_366 : gm_ft 0 366 = some (.iconst 3, 1) := by decide +kernel
theorem r0_366 {E : Nat → Value} {d : Nat} {st : List Value} {h : gm_H} {Q : gm_R → gm_H → Prop} {lv : List Value} : gm_W E d 0 366 lv st h Q ↔ gm_W E d 0 367 lv (.int (3 : Int32) :: st) h Q := gw_pure m0 f0_366 rfl
theorem f0_367 : gm_ft 0 367 = some (.iadd, 1) := by decide +kernel
theorem r0_367 {E : Nat → Value} {d : Nat} {st : List Value} {h : gm_H} {Q : gm_R → gm_H → Prop} {lv : List Value} {x y : Int32} : gm_W E d 0 367 lv (.int y :: .int x :: st) h Q ↔ gm_W E d 0 368 lv (.int (x + y) :: st) h Q := gw_pure m0 f0_367 rfl
theorem f0_368 : gm_ft 0 368 = some (.iaload, 1) := by decide +kernel
theorem r0_368 {E : Nat → Value} {d : Nat} {st : List Value} {h : gm_H} {Q : gm_R → gm_H → Prop} {lv : List Value} {a j : Nat} (hk : gm_kd h a % 100 = 0 ∧ 100 ≤ gm_kd h a ∧ gm_kd h a < 900) (hj : j < gm_ln h a) (hl : gm_ln h a < 2 ^ 31) : gm_W E d 0 368 lv (.int (nI j) :: .ref a :: st) h Q ↔ gm_W E d 0 369 lv (gm_fv h a j :: st) h Q := gw_rd m0 f0_368 rfl rfl rfl rfl (gs_ld (P := fun t => t == 0) hk.2 (by have := hk.1; simp [this] <;> omega) hj hl)
theorem f0_369 : gm_ft 0 369 = some (.invokevirtual 42, 3) := by decide +kernel
theorem c0_369 {E : Nat → Value} {d : Nat} {st : List Value} {h : gm_H} {Q : gm_R → gm_H → Prop} {lv : List Value} {b0 : Int64} {b1 : Int32} {a : Nat} {Qc : gm_R → gm_H → Prop} (hs : (st.map fun v => v.category).sum ≤ 8) (hr : gm_kd h a = 5) (hd : 1 ≤ d) (hc : gm_Ca E (d - 1) 9 [.ref a, .long b0, .int b1] h Qc) (kn : ∀ (v9 : Option Value) (h9 : gm_H), Qc (.inl v9) h9 → gm_W E d 0 372 lv (v9.toList ++ st) h9 Q) (kx : ∀ (x9 : Nat) (h9 : gm_H), Qc (.inr x9) h9 → Q (.inr x9) h9) : gm_W E d 0 369 lv (.int b1 :: .long b0 :: .ref a :: st) h Q := gw_call (gn_call m0 f0_369 rfl rfl rfl rfl rfl rfl rfl (gs_virt (bs := [.int b1, .long b0]) (w := 836) (L := 5) rfl rfl rfl rfl hs (by simp [gm_en1]) hr (by decide)) (by decide)) m0 rfl rfl hd hc kn kx
theorem f0_372 : gm_ft 0 372 = some (.pop, 1) := by decide +kernel
theorem r0_372 {E : Nat → Value} {d : Nat} {st : List Value} {h : gm_H} {Q : gm_R → gm_H → Prop} {lv : List Value} {x : Int32} : gm_W E d 0 372 lv (.int x :: st) h Q ↔ gm_W E d 0 373 lv st h Q := gw_pure m0 f0_372 rfl
theorem r0_372a {E : Nat → Value} {d : Nat} {st : List Value} {h : gm_H} {Q : gm_R → gm_H → Prop} {lv : List Value} {a : Nat} : gm_W E d 0 372 lv (.ref a :: st) h Q ↔ gm_W E d 0 373 lv st h Q := gw_pure m0 f0_372 rfl
theorem r0_372n {E : Nat → Value} {d : Nat} {st : List Value} {h : gm_H} {Q : gm_R → gm_H → Prop} {lv : List Value} : gm_W E d 0 372 lv (.null :: st) h Q ↔ gm_W E d 0 373 lv st h Q := gw_pure m0 f0_372 rfl
theorem f0_373 : gm_ft 0 373 = some (.goto 132, 3) := by decide +kernel
theorem r0_373 {E : Nat → Value} {d : Nat} {st : List Value} {h : gm_H} {Q : gm_R → gm_H → Prop} {lv : List Value} : gm_W E d 0 373 lv st h Q ↔ gm_W E d 0 505 lv st h Q := gw_brT m0 f0_373 rfl rfl rfl rfl
theorem f0_376 : gm_ft 0 376 = some (.aload_n 1, 1) := by decide +kernel
theorem r0_376 {E : Nat → Value} {d : Nat} {st : List Value} {h : gm_H} {Q : gm_R → gm_H → Prop} {a0 a2 a3 : Value} {x : Nat} : gm_W E d 0 376 [a0, .ref x, a2, a3] st h Q ↔ gm_W E d 0 377 [a0, .ref x, a2, a3] (.ref x :: st) h Q := gw_loc m0 f0_376 rfl rfl
theorem r0_376n {E : Nat → Value} {d : Nat} {st : List Value} {h : gm_H} {Q : gm_R → gm_H → Prop} {a0 a2 a3 : Value}  : gm_W E d 0 376 [a0, .null, a2, a3] st h Q ↔ gm_W E d 0 377 [a0, .null, a2, a3] (.null :: st) h Q := gw_loc m0 f0_376 rfl rfl
theorem f0_377 : gm_ft 0 377 = some (.invokevirtual 43, 3) := by decide +kernel
theorem c0_377 {E : Nat → Value} {d : Nat} {st : List Value} {h : gm_H} {Q : gm_R → gm_H → Prop} {lv : List Value} {a : Nat} {Qc : gm_R → gm_H → Prop} (hs : (st.map fun v => v.category).sum ≤ 8) (hr : gm_kd h a = 0) (hd : 1 ≤ d) (hc : gm_Ca E (d - 1) 56 [.ref a] h Qc) (kn : ∀ (v9 : Option Value) (h9 : gm_H), Qc (.inl v9) h9 → gm_W E d 0 380 lv (v9.toList ++ st) h9 Q) (kx : ∀ (x9 : Nat) (h9 : gm_H), Qc (.inr x9) h9 → Q (.inr x9) h9) : gm_W E d 0 377 lv (.ref a :: st) h Q := gw_call (gn_call m0 f0_377 rfl rfl rfl rfl rfl rfl rfl (gs_virt (bs := []) (w := 176) (L := 1) rfl rfl rfl rfl hs (by simp [gm_en1]) hr (by decide)) (by decide)) m0 rfl rfl hd hc kn kx
theorem f0_380 : gm_ft 0 380 = some (.pop, 1) := by decide +kernel
theorem r0_380 {E : Nat → Value} {d : Nat} {st : List Value} {h : gm_H} {Q : gm_R → gm_H → Prop} {lv : List Value} {x : Int32} : gm_W E d 0 380 lv (.int x :: st) h Q ↔ gm_W E d 0 381 lv st h Q := gw_pure m0 f0_380 rfl
theorem r0_380a {E : Nat → Value} {d : Nat} {st : List Value} {h : gm_H} {Q : gm_R → gm_H → Prop} {lv : List Value} {a : Nat} : gm_W E d 0 380 lv (.ref a :: st) h Q ↔ gm_W E d 0 381 lv st h Q := gw_pure m0 f0_380 rfl
theorem r0_380n {E : Nat → Value} {d : Nat} {st : List Value} {h : gm_H} {Q : gm_R → gm_H → Prop} {lv : List Value} : gm_W E d 0 380 lv (.null :: st) h Q ↔ gm_W E d 0 381 lv st h Q := gw_pure m0 f0_380 rfl
theorem f0_381 : gm_ft 0 381 = some (.aload_n 2, 1) := by decide +kernel
theorem r0_381 {E : Nat → Value} {d : Nat} {st : List Value} {h : gm_H} {Q : gm_R → gm_H → Prop} {a0 a1 a3 : Value} {x : Nat} : gm_W E d 0 381 [a0, a1, .ref x, a3] st h Q ↔ gm_W E d 0 382 [a0, a1, .ref x, a3] (.ref x :: st) h Q := gw_loc m0 f0_381 rfl rfl
theorem r0_381n {E : Nat → Value} {d : Nat} {st : List Value} {h : gm_H} {Q : gm_R → gm_H → Prop} {a0 a1 a3 : Value}  : gm_W E d 0 381 [a0, a1, .null, a3] st h Q ↔ gm_W E d 0 382 [a0, a1, .null, a3] (.null :: st) h Q := gw_loc m0 f0_381 rfl rfl
theorem f0_382 : gm_ft 0 382 = some (.invokevirtual 47, 3) := by decide +kernel
theorem c0_382 {E : Nat → Value} {d : Nat} {st : List Value} {h : gm_H} {Q : gm_R → gm_H → Prop} {lv : List Value} {a : Nat} {Qc : gm_R → gm_H → Prop} (hs : (st.map fun v => v.category).sum ≤ 8) (hr : gm_kd h a = 5) (hd : 1 ≤ d) (hc : gm_Ca E (d - 1) 14 [.ref a] h Qc) (kn : ∀ (v9 : Option Value) (h9 : gm_H), Qc (.inl v9) h9 → gm_W E d 0 385 lv (v9.toList ++ st) h9 Q) (kx : ∀ (x9 : Nat) (h9 : gm_H), Qc (.inr x9) h9 → Q (.inr x9) h9) : gm_W E d 0 382 lv (.ref a :: st) h Q := gw_call (gn_call m0 f0_382 rfl rfl rfl rfl rfl rfl rfl (gs_virt (bs := []) (w := 840) (L := 3) rfl rfl rfl rfl hs (by simp [gm_en1]) hr (by decide)) (by decide)) m0 rfl rfl hd hc kn kx
theorem f0_385 : gm_ft 0 385 = some (.pop, 1) := by decide +kernel
theorem r0_385 {E : Nat → Value} {d : Nat} {st : List Value} {h : gm_H} {Q : gm_R → gm_H → Prop} {lv : List Value} {x : Int32} : gm_W E d 0 385 lv (.int x :: st) h Q ↔ gm_W E d 0 386 lv st h Q := gw_pure m0 f0_385 rfl
theorem r0_385a {E : Nat → Value} {d : Nat} {st : List Value} {h : gm_H} {Q : gm_R → gm_H → Prop} {lv : List Value} {a : Nat} : gm_W E d 0 385 lv (.ref a :: st) h Q ↔ gm_W E d 0 386 lv st h Q := gw_pure m0 f0_385 rfl
theorem r0_385n {E : Nat → Value} {d : Nat} {st : List Value} {h : gm_H} {Q : gm_R → gm_H → Prop} {lv : List Value} : gm_W E d 0 385 lv (.null :: st) h Q ↔ gm_W E d 0 386 lv st h Q := gw_pure m0 f0_385 rfl
theorem f0_386 : gm_ft 0 386 = some (.goto 119, 3) := by decide +kernel
theorem r0_386 {E : Nat → Value} {d : Nat} {st : List Value} {h : gm_H} {Q : gm_R → gm_H → Prop} {lv : List Value} : gm_W E d 0 386 lv st h Q ↔ gm_W E d 0 505 lv st h Q := gw_brT m0 f0_386 rfl rfl rfl rfl
theorem f0_389 : gm_ft 0 389 = some (.aload_n 1, 1) := by decide +kernel
theorem r0_389 {E : Nat → Value} {d : Nat} {st : List Value} {h : gm_H} {Q : gm_R → gm_H → Prop} {a0 a2 a3 : Value} {x : Nat} : gm_W E d 0 389 [a0, .ref x, a2, a3] st h Q ↔ gm_W E d 0 390 [a0, .ref x, a2, a3] (.ref x :: st) h Q := gw_loc m0 f0_389 rfl rfl
theorem r0_389n {E : Nat → Value} {d : Nat} {st : List Value} {h : gm_H} {Q : gm_R → gm_H → Prop} {a0 a2 a3 : Value}  : gm_W E d 0 389 [a0, .null, a2, a3] st h Q ↔ gm_W E d 0 390 [a0, .null, a2, a3] (.null :: st) h Q := gw_loc m0 f0_389 rfl rfl
theorem f0_390 : gm_ft 0 390 = some (.invokevirtual 48, 3) := by decide +kernel
theorem c0_390 {E : Nat → Value} {d : Nat} {st : List Value} {h : gm_H} {Q : gm_R → gm_H → Prop} {lv : List Value} {a : Nat} {Qc : gm_R → gm_H → Prop} (hs : (st.map fun v => v.category).sum ≤ 8) (hr : gm_kd h a = 0) (hd : 1 ≤ d) (hc : gm_Ca E (d - 1) 57 [.ref a] h Qc) (kn : ∀ (v9 : Option Value) (h9 : gm_H), Qc (.inl v9) h9 → gm_W E d 0 393 lv (v9.toList ++ st) h9 Q) (kx : ∀ (x9 : Nat) (h9 : gm_H), Qc (.inr x9) h9 → Q (.inr x9) h9) : gm_W E d 0 390 lv (.ref a :: st) h Q := gw_call (gn_call m0 f0_390 rfl rfl rfl rfl rfl rfl rfl (gs_virt (bs := []) (w := 189) (L := 6) rfl rfl rfl rfl hs (by simp [gm_en1]) hr (by decide)) (by decide)) m0 rfl rfl hd hc kn kx
theorem f0_393 : gm_ft 0 393 = some (.pop, 1) := by decide +kernel
theorem r0_393 {E : Nat → Value} {d : Nat} {st : List Value} {h : gm_H} {Q : gm_R → gm_H → Prop} {lv : List Value} {x : Int32} : gm_W E d 0 393 lv (.int x :: st) h Q ↔ gm_W E d 0 394 lv st h Q := gw_pure m0 f0_393 rfl
theorem r0_393a {E : Nat → Value} {d : Nat} {st : List Value} {h : gm_H} {Q : gm_R → gm_H → Prop} {lv : List Value} {a : Nat} : gm_W E d 0 393 lv (.ref a :: st) h Q ↔ gm_W E d 0 394 lv st h Q := gw_pure m0 f0_393 rfl
theorem r0_393n {E : Nat → Value} {d : Nat} {st : List Value} {h : gm_H} {Q : gm_R → gm_H → Prop} {lv : List Value} : gm_W E d 0 393 lv (.null :: st) h Q ↔ gm_W E d 0 394 lv st h Q := gw_pure m0 f0_393 rfl
theorem f0_394 : gm_ft 0 394 = some (.aload_n 2, 1) := by decide +kernel
theorem r0_394 {E : Nat → Value} {d : Nat} {st : List Value} {h : gm_H} {Q : gm_R → gm_H → Prop} {a0 a1 a3 : Value} {x : Nat} : gm_W E d 0 394 [a0, a1, .ref x, a3] st h Q ↔ gm_W E d 0 395 [a0, a1, .ref x, a3] (.ref x :: st) h Q := gw_loc m0 f0_394 rfl rfl
theorem r0_394n {E : Nat → Value} {d : Nat} {st : List Value} {h : gm_H} {Q : gm_R → gm_H → Prop} {a0 a1 a3 : Value}  : gm_W E d 0 394 [a0, a1, .null, a3] st h Q ↔ gm_W E d 0 395 [a0, a1, .null, a3] (.null :: st) h Q := gw_loc m0 f0_394 rfl rfl
theorem f0_395 : gm_ft 0 395 = some (.invokevirtual 51, 3) := by decide +kernel
theorem c0_395 {E : Nat → Value} {d : Nat} {st : List Value} {h : gm_H} {Q : gm_R → gm_H → Prop} {lv : List Value} {a : Nat} {Qc : gm_R → gm_H → Prop} (hs : (st.map fun v => v.category).sum ≤ 8) (hr : gm_kd h a = 5) (hd : 1 ≤ d) (hc : gm_Ca E (d - 1) 46 [.ref a] h Qc) (kn : ∀ (v9 : Option Value) (h9 : gm_H), Qc (.inl v9) h9 → gm_W E d 0 398 lv (v9.toList ++ st) h9 Q) (kx : ∀ (x9 : Nat) (h9 : gm_H), Qc (.inr x9) h9 → Q (.inr x9) h9) : gm_W E d 0 395 lv (.ref a :: st) h Q := gw_call (gn_call m0 f0_395 rfl rfl rfl rfl rfl rfl rfl (gs_virt (bs := []) (w := 852) (L := 7) rfl rfl rfl rfl hs (by simp [gm_en1]) hr (by decide)) (by decide)) m0 rfl rfl hd hc kn kx
theorem f0_398 : gm_ft 0 398 = some (.pop, 1) := by decide +kernel
theorem r0_398 {E : Nat → Value} {d : Nat} {st : List Value} {h : gm_H} {Q : gm_R → gm_H → Prop} {lv : List Value} {x : Int32} : gm_W E d 0 398 lv (.int x :: st) h Q ↔ gm_W E d 0 399 lv st h Q := gw_pure m0 f0_398 rfl
theorem r0_398a {E : Nat → Value} {d : Nat} {st : List Value} {h : gm_H} {Q : gm_R → gm_H → Prop} {lv : List Value} {a : Nat} : gm_W E d 0 398 lv (.ref a :: st) h Q ↔ gm_W E d 0 399 lv st h Q := gw_pure m0 f0_398 rfl
theorem r0_398n {E : Nat → Value} {d : Nat} {st : List Value} {h : gm_H} {Q : gm_R → gm_H → Prop} {lv : List Value} : gm_W E d 0 398 lv (.null :: st) h Q ↔ gm_W E d 0 399 lv st h Q := gw_pure m0 f0_398 rfl
theorem f0_399 : gm_ft 0 399 = some (.goto 106, 3) := by decide +kernel
theorem r0_399 {E : Nat → Value} {d : Nat} {st : List Value} {h : gm_H} {Q : gm_R → gm_H → Prop} {lv : List Value} : gm_W E d 0 399 lv st h Q ↔ gm_W E d 0 505 lv st h Q := gw_brT m0 f0_399 rfl rfl rfl rfl
theorem f0_402 : gm_ft 0 402 = some (.aload_n 1, 1) := by decide +kernel
theorem r0_402 {E : Nat → Value} {d : Nat} {st : List Value} {h : gm_H} {Q : gm_R → gm_H → Prop} {a0 a2 a3 : Value} {x : Nat} : gm_W E d 0 402 [a0, .ref x, a2, a3] st h Q ↔ gm_W E d 0 403 [a0, .ref x, a2, a3] (.ref x :: st) h Q := gw_loc m0 f0_402 rfl rfl
theorem r0_402n {E : Nat → Value} {d : Nat} {st : List Value} {h : gm_H} {Q : gm_R → gm_H → Prop} {a0 a2 a3 : Value}  : gm_W E d 0 402 [a0, .null, a2, a3] st h Q ↔ gm_W E d 0 403 [a0, .null, a2, a3] (.null :: st) h Q := gw_loc m0 f0_402 rfl rfl
theorem f0_403 : gm_ft 0 403 = some (.invokevirtual 52, 3) := by decide +kernel
theorem c0_403 {E : Nat → Value} {d : Nat} {st : List Value} {h : gm_H} {Q : gm_R → gm_H → Prop} {lv : List Value} {a : Nat} {Qc : gm_R → gm_H → Prop} (hs : (st.map fun v => v.category).sum ≤ 8) (hr : gm_kd h a = 0) (hd : 1 ≤ d) (hc : gm_Ca E (d - 1) 58 [.ref a] h Qc) (kn : ∀ (v9 : Option Value) (h9 : gm_H), Qc (.inl v9) h9 → gm_W E d 0 406 lv (v9.toList ++ st) h9 Q) (kx : ∀ (x9 : Nat) (h9 : gm_H), Qc (.inr x9) h9 → Q (.inr x9) h9) : gm_W E d 0 403 lv (.ref a :: st) h Q := gw_call (gn_call m0 f0_403 rfl rfl rfl rfl rfl rfl rfl (gs_virt (bs := []) (w := 640) (L := 3) rfl rfl rfl rfl hs (by simp [gm_en1]) hr (by decide)) (by decide)) m0 rfl rfl hd hc kn kx
theorem f0_406 : gm_ft 0 406 = some (.pop, 1) := by decide +kernel
theorem r0_406 {E : Nat → Value} {d : Nat} {st : List Value} {h : gm_H} {Q : gm_R → gm_H → Prop} {lv : List Value} {x : Int32} : gm_W E d 0 406 lv (.int x :: st) h Q ↔ gm_W E d 0 407 lv st h Q := gw_pure m0 f0_406 rfl
theorem r0_406a {E : Nat → Value} {d : Nat} {st : List Value} {h : gm_H} {Q : gm_R → gm_H → Prop} {lv : List Value} {a : Nat} : gm_W E d 0 406 lv (.ref a :: st) h Q ↔ gm_W E d 0 407 lv st h Q := gw_pure m0 f0_406 rfl
theorem r0_406n {E : Nat → Value} {d : Nat} {st : List Value} {h : gm_H} {Q : gm_R → gm_H → Prop} {lv : List Value} : gm_W E d 0 406 lv (.null :: st) h Q ↔ gm_W E d 0 407 lv st h Q := gw_pure m0 f0_406 rfl
theorem f0_407 : gm_ft 0 407 = some (.aload_n 2, 1) := by decide +kernel
theorem r0_407 {E : Nat → Value} {d : Nat} {st : List Value} {h : gm_H} {Q : gm_R → gm_H → Prop} {a0 a1 a3 : Value} {x : Nat} : gm_W E d 0 407 [a0, a1, .ref x, a3] st h Q ↔ gm_W E d 0 408 [a0, a1, .ref x, a3] (.ref x :: st) h Q := gw_loc m0 f0_407 rfl rfl
theorem r0_407n {E : Nat → Value} {d : Nat} {st : List Value} {h : gm_H} {Q : gm_R → gm_H → Prop} {a0 a1 a3 : Value}  : gm_W E d 0 407 [a0, a1, .null, a3] st h Q ↔ gm_W E d 0 408 [a0, a1, .null, a3] (.null :: st) h Q := gw_loc m0 f0_407 rfl rfl
theorem f0_408 : gm_ft 0 408 = some (.invokevirtual 55, 3) := by decide +kernel
theorem c0_408 {E : Nat → Value} {d : Nat} {st : List Value} {h : gm_H} {Q : gm_R → gm_H → Prop} {lv : List Value} {a : Nat} {Qc : gm_R → gm_H → Prop} (hs : (st.map fun v => v.category).sum ≤ 8) (hr : gm_kd h a = 5) (hd : 1 ≤ d) (hc : gm_Ca E (d - 1) 47 [.ref a] h Qc) (kn : ∀ (v9 : Option Value) (h9 : gm_H), Qc (.inl v9) h9 → gm_W E d 0 411 lv (v9.toList ++ st) h9 Q) (kx : ∀ (x9 : Nat) (h9 : gm_H), Qc (.inr x9) h9 → Q (.inr x9) h9) : gm_W E d 0 408 lv (.ref a :: st) h Q := gw_call (gn_call m0 f0_408 rfl rfl rfl rfl rfl rfl rfl (gs_virt (bs := []) (w := 993) (L := 3) rfl rfl rfl rfl hs (by simp [gm_en1]) hr (by decide)) (by decide)) m0 rfl rfl hd hc kn kx
theorem f0_411 : gm_ft 0 411 = some (.pop, 1) := by decide +kernel
theorem r0_411 {E : Nat → Value} {d : Nat} {st : List Value} {h : gm_H} {Q : gm_R → gm_H → Prop} {lv : List Value} {x : Int32} : gm_W E d 0 411 lv (.int x :: st) h Q ↔ gm_W E d 0 412 lv st h Q := gw_pure m0 f0_411 rfl
theorem r0_411a {E : Nat → Value} {d : Nat} {st : List Value} {h : gm_H} {Q : gm_R → gm_H → Prop} {lv : List Value} {a : Nat} : gm_W E d 0 411 lv (.ref a :: st) h Q ↔ gm_W E d 0 412 lv st h Q := gw_pure m0 f0_411 rfl
theorem r0_411n {E : Nat → Value} {d : Nat} {st : List Value} {h : gm_H} {Q : gm_R → gm_H → Prop} {lv : List Value} : gm_W E d 0 411 lv (.null :: st) h Q ↔ gm_W E d 0 412 lv st h Q := gw_pure m0 f0_411 rfl
theorem f0_412 : gm_ft 0 412 = some (.goto 93, 3) := by decide +kernel
theorem r0_412 {E : Nat → Value} {d : Nat} {st : List Value} {h : gm_H} {Q : gm_R → gm_H → Prop} {lv : List Value} : gm_W E d 0 412 lv st h Q ↔ gm_W E d 0 505 lv st h Q := gw_brT m0 f0_412 rfl rfl rfl rfl
theorem f0_415 : gm_ft 0 415 = some (.aload_n 1, 1) := by decide +kernel
theorem r0_415 {E : Nat → Value} {d : Nat} {st : List Value} {h : gm_H} {Q : gm_R → gm_H → Prop} {a0 a2 a3 : Value} {x : Nat} : gm_W E d 0 415 [a0, .ref x, a2, a3] st h Q ↔ gm_W E d 0 416 [a0, .ref x, a2, a3] (.ref x :: st) h Q := gw_loc m0 f0_415 rfl rfl
theorem r0_415n {E : Nat → Value} {d : Nat} {st : List Value} {h : gm_H} {Q : gm_R → gm_H → Prop} {a0 a2 a3 : Value}  : gm_W E d 0 415 [a0, .null, a2, a3] st h Q ↔ gm_W E d 0 416 [a0, .null, a2, a3] (.null :: st) h Q := gw_loc m0 f0_415 rfl rfl
theorem f0_416 : gm_ft 0 416 = some (.aload_n 0, 1) := by decide +kernel
theorem r0_416 {E : Nat → Value} {d : Nat} {st : List Value} {h : gm_H} {Q : gm_R → gm_H → Prop} {a1 a2 a3 : Value} {x : Nat} : gm_W E d 0 416 [.ref x, a1, a2, a3] st h Q ↔ gm_W E d 0 417 [.ref x, a1, a2, a3] (.ref x :: st) h Q := gw_loc m0 f0_416 rfl rfl
theorem r0_416n {E : Nat → Value} {d : Nat} {st : List Value} {h : gm_H} {Q : gm_R → gm_H → Prop} {a1 a2 a3 : Value}  : gm_W E d 0 416 [.null, a1, a2, a3] st h Q ↔ gm_W E d 0 417 [.null, a1, a2, a3] (.null :: st) h Q := gw_loc m0 f0_416 rfl rfl
theorem f0_417 : gm_ft 0 417 = some (.iload_n 3, 1) := by decide +kernel
theorem r0_417 {E : Nat → Value} {d : Nat} {st : List Value} {h : gm_H} {Q : gm_R → gm_H → Prop} {a0 a1 a2 : Value} {x : Int32} : gm_W E d 0 417 [a0, a1, a2, .int x] st h Q ↔ gm_W E d 0 418 [a0, a1, a2, .int x] (.int x :: st) h Q := gw_loc m0 f0_417 rfl rfl
theorem f0_418 : gm_ft 0 418 = some (.iconst 1, 1) := by decide +kernel
theorem r0_418 {E : Nat → Value} {d : Nat} {st : List Value} {h : gm_H} {Q : gm_R → gm_H → Prop} {lv : List Value} : gm_W E d 0 418 lv st h Q ↔ gm_W E d 0 419 lv (.int (1 : Int32) :: st) h Q := gw_pure m0 f0_418 rfl
theorem f0_419 : gm_ft 0 419 = some (.iadd, 1) := by decide +kernel
theorem r0_419 {E : Nat → Value} {d : Nat} {st : List Value} {h : gm_H} {Q : gm_R → gm_H → Prop} {lv : List Value} {x y : Int32} : gm_W E d 0 419 lv (.int y :: .int x :: st) h Q ↔ gm_W E d 0 420 lv (.int (x + y) :: st) h Q := gw_pure m0 f0_419 rfl
theorem f0_420 : gm_ft 0 420 = some (.iaload, 1) := by decide +kernel
theorem r0_420 {E : Nat → Value} {d : Nat} {st : List Value} {h : gm_H} {Q : gm_R → gm_H → Prop} {lv : List Value} {a j : Nat} (hk : gm_kd h a % 100 = 0 ∧ 100 ≤ gm_kd h a ∧ gm_kd h a < 900) (hj : j < gm_ln h a) (hl : gm_ln h a < 2 ^ 31) : gm_W E d 0 420 lv (.int (nI j) :: .ref a :: st) h Q ↔ gm_W E d 0 421 lv (gm_fv h a j :: st) h Q := gw_rd m0 f0_420 rfl rfl rfl rfl (gs_ld (P := fun t => t == 0) hk.2 (by have := hk.1; simp [this] <;> omega) hj hl)
theorem f0_421 : gm_ft 0 421 = some (.aload_n 0, 1) := by decide +kernel
theorem r0_421 {E : Nat → Value} {d : Nat} {st : List Value} {h : gm_H} {Q : gm_R → gm_H → Prop} {a1 a2 a3 : Value} {x : Nat} : gm_W E d 0 421 [.ref x, a1, a2, a3] st h Q ↔ gm_W E d 0 422 [.ref x, a1, a2, a3] (.ref x :: st) h Q := gw_loc m0 f0_421 rfl rfl
theorem r0_421n {E : Nat → Value} {d : Nat} {st : List Value} {h : gm_H} {Q : gm_R → gm_H → Prop} {a1 a2 a3 : Value}  : gm_W E d 0 421 [.null, a1, a2, a3] st h Q ↔ gm_W E d 0 422 [.null, a1, a2, a3] (.null :: st) h Q := gw_loc m0 f0_421 rfl rfl
theorem f0_422 : gm_ft 0 422 = some (.iload_n 3, 1) := by decide +kernel
theorem r0_422 {E : Nat → Value} {d : Nat} {st : List Value} {h : gm_H} {Q : gm_R → gm_H → Prop} {a0 a1 a2 : Value} {x : Int32} : gm_W E d 0 422 [a0, a1, a2, .int x] st h Q ↔ gm_W E d 0 423 [a0, a1, a2, .int x] (.int x :: st) h Q := gw_loc m0 f0_422 rfl rfl
theorem f0_423 : gm_ft 0 423 = some (.iconst 2, 1) := by decide +kernel
theorem r0_423 {E : Nat → Value} {d : Nat} {st : List Value} {h : gm_H} {Q : gm_R → gm_H → Prop} {lv : List Value} : gm_W E d 0 423 lv st h Q ↔ gm_W E d 0 424 lv (.int (2 : Int32) :: st) h Q := gw_pure m0 f0_423 rfl
theorem f0_424 : gm_ft 0 424 = some (.iadd, 1) := by decide +kernel
theorem r0_424 {E : Nat → Value} {d : Nat} {st : List Value} {h : gm_H} {Q : gm_R → gm_H → Prop} {lv : List Value} {x y : Int32} : gm_W E d 0 424 lv (.int y :: .int x :: st) h Q ↔ gm_W E d 0 425 lv (.int (x + y) :: st) h Q := gw_pure m0 f0_424 rfl
theorem f0_425 : gm_ft 0 425 = some (.iaload, 1) := by decide +kernel
theorem r0_425 {E : Nat → Value} {d : Nat} {st : List Value} {h : gm_H} {Q : gm_R → gm_H → Prop} {lv : List Value} {a j : Nat} (hk : gm_kd h a % 100 = 0 ∧ 100 ≤ gm_kd h a ∧ gm_kd h a < 900) (hj : j < gm_ln h a) (hl : gm_ln h a < 2 ^ 31) : gm_W E d 0 425 lv (.int (nI j) :: .ref a :: st) h Q ↔ gm_W E d 0 426 lv (gm_fv h a j :: st) h Q := gw_rd m0 f0_425 rfl rfl rfl rfl (gs_ld (P := fun t => t == 0) hk.2 (by have := hk.1; simp [this] <;> omega) hj hl)
theorem f0_426 : gm_ft 0 426 = some (.invokevirtual 56, 3) := by decide +kernel
theorem c0_426 {E : Nat → Value} {d : Nat} {st : List Value} {h : gm_H} {Q : gm_R → gm_H → Prop} {lv : List Value} {b0 : Int32} {b1 : Int32} {a : Nat} {Qc : gm_R → gm_H → Prop} (hs : (st.map fun v => v.category).sum ≤ 8) (hr : gm_kd h a = 0) (hd : 1 ≤ d) (hc : gm_Ca E (d - 1) 59 [.ref a, .int b0, .int b1] h Qc) (kn : ∀ (v9 : Option Value) (h9 : gm_H), Qc (.inl v9) h9 → gm_W E d 0 429 lv (v9.toList ++ st) h9 Q) (kx : ∀ (x9 : Nat) (h9 : gm_H), Qc (.inr x9) h9 → Q (.inr x9) h9) : gm_W E d 0 426 lv (.int b1 :: .int b0 :: .ref a :: st) h Q := gw_call (gn_call m0 f0_426 rfl rfl rfl rfl rfl rfl rfl (gs_virt (bs := [.int b1, .int b0]) (w := 644) (L := 4) rfl rfl rfl rfl hs (by simp [gm_en1]) hr (by decide)) (by decide)) m0 rfl rfl hd hc kn kx
theorem f0_429 : gm_ft 0 429 = some (.pop, 1) := by decide +kernel
theorem r0_429 {E : Nat → Value} {d : Nat} {st : List Value} {h : gm_H} {Q : gm_R → gm_H → Prop} {lv : List Value} {x : Int32} : gm_W E d 0 429 lv (.int x :: st) h Q ↔ gm_W E d 0 430 lv st h Q := gw_pure m0 f0_429 rfl
theorem r0_429a {E : Nat → Value} {d : Nat} {st : List Value} {h : gm_H} {Q : gm_R → gm_H → Prop} {lv : List Value} {a : Nat} : gm_W E d 0 429 lv (.ref a :: st) h Q ↔ gm_W E d 0 430 lv st h Q := gw_pure m0 f0_429 rfl
theorem r0_429n {E : Nat → Value} {d : Nat} {st : List Value} {h : gm_H} {Q : gm_R → gm_H → Prop} {lv : List Value} : gm_W E d 0 429 lv (.null :: st) h Q ↔ gm_W E d 0 430 lv st h Q := gw_pure m0 f0_429 rfl
theorem f0_430 : gm_ft 0 430 = some (.aload_n 2, 1) := by decide +kernel
theorem r0_430 {E : Nat → Value} {d : Nat} {st : List Value} {h : gm_H} {Q : gm_R → gm_H → Prop} {a0 a1 a3 : Value} {x : Nat} : gm_W E d 0 430 [a0, a1, .ref x, a3] st h Q ↔ gm_W E d 0 431 [a0, a1, .ref x, a3] (.ref x :: st) h Q := gw_loc m0 f0_430 rfl rfl
theorem r0_430n {E : Nat → Value} {d : Nat} {st : List Value} {h : gm_H} {Q : gm_R → gm_H → Prop} {a0 a1 a3 : Value}  : gm_W E d 0 430 [a0, a1, .null, a3] st h Q ↔ gm_W E d 0 431 [a0, a1, .null, a3] (.null :: st) h Q := gw_loc m0 f0_430 rfl rfl
theorem f0_431 : gm_ft 0 431 = some (.aload_n 0, 1) := by decide +kernel
theorem r0_431 {E : Nat → Value} {d : Nat} {st : List Value} {h : gm_H} {Q : gm_R → gm_H → Prop} {a1 a2 a3 : Value} {x : Nat} : gm_W E d 0 431 [.ref x, a1, a2, a3] st h Q ↔ gm_W E d 0 432 [.ref x, a1, a2, a3] (.ref x :: st) h Q := gw_loc m0 f0_431 rfl rfl
theorem r0_431n {E : Nat → Value} {d : Nat} {st : List Value} {h : gm_H} {Q : gm_R → gm_H → Prop} {a1 a2 a3 : Value}  : gm_W E d 0 431 [.null, a1, a2, a3] st h Q ↔ gm_W E d 0 432 [.null, a1, a2, a3] (.null :: st) h Q := gw_loc m0 f0_431 rfl rfl
theorem f0_432 : gm_ft 0 432 = some (.iload_n 3, 1) := by decide +kernel
theorem r0_432 {E : Nat → Value} {d : Nat} {st : List Value} {h : gm_H} {Q : gm_R → gm_H → Prop} {a0 a1 a2 : Value} {x : Int32} : gm_W E d 0 432 [a0, a1, a2, .int x] st h Q ↔ gm_W E d 0 433 [a0, a1, a2, .int x] (.int x :: st) h Q := gw_loc m0 f0_432 rfl rfl
theorem f0_433 : gm_ft 0 433 = some (.iconst 1, 1) := by decide +kernel
theorem r0_433 {E : Nat → Value} {d : Nat} {st : List Value} {h : gm_H} {Q : gm_R → gm_H → Prop} {lv : List Value} : gm_W E d 0 433 lv st h Q ↔ gm_W E d 0 434 lv (.int (1 : Int32) :: st) h Q := gw_pure m0 f0_433 rfl
theorem f0_434 : gm_ft 0 434 = some (.iadd, 1) := by decide +kernel
theorem r0_434 {E : Nat → Value} {d : Nat} {st : List Value} {h : gm_H} {Q : gm_R → gm_H → Prop} {lv : List Value} {x y : Int32} : gm_W E d 0 434 lv (.int y :: .int x :: st) h Q ↔ gm_W E d 0 435 lv (.int (x + y) :: st) h Q := gw_pure m0 f0_434 rfl
theorem f0_435 : gm_ft 0 435 = some (.iaload, 1) := by decide +kernel
theorem r0_435 {E : Nat → Value} {d : Nat} {st : List Value} {h : gm_H} {Q : gm_R → gm_H → Prop} {lv : List Value} {a j : Nat} (hk : gm_kd h a % 100 = 0 ∧ 100 ≤ gm_kd h a ∧ gm_kd h a < 900) (hj : j < gm_ln h a) (hl : gm_ln h a < 2 ^ 31) : gm_W E d 0 435 lv (.int (nI j) :: .ref a :: st) h Q ↔ gm_W E d 0 436 lv (gm_fv h a j :: st) h Q := gw_rd m0 f0_435 rfl rfl rfl rfl (gs_ld (P := fun t => t == 0) hk.2 (by have := hk.1; simp [this] <;> omega) hj hl)
theorem f0_436 : gm_ft 0 436 = some (.aload_n 0, 1) := by decide +kernel
theorem r0_436 {E : Nat → Value} {d : Nat} {st : List Value} {h : gm_H} {Q : gm_R → gm_H → Prop} {a1 a2 a3 : Value} {x : Nat} : gm_W E d 0 436 [.ref x, a1, a2, a3] st h Q ↔ gm_W E d 0 437 [.ref x, a1, a2, a3] (.ref x :: st) h Q := gw_loc m0 f0_436 rfl rfl
theorem r0_436n {E : Nat → Value} {d : Nat} {st : List Value} {h : gm_H} {Q : gm_R → gm_H → Prop} {a1 a2 a3 : Value}  : gm_W E d 0 436 [.null, a1, a2, a3] st h Q ↔ gm_W E d 0 437 [.null, a1, a2, a3] (.null :: st) h Q := gw_loc m0 f0_436 rfl rfl
theorem f0_437 : gm_ft 0 437 = some (.iload_n 3, 1) := by decide +kernel
theorem r0_437 {E : Nat → Value} {d : Nat} {st : List Value} {h : gm_H} {Q : gm_R → gm_H → Prop} {a0 a1 a2 : Value} {x : Int32} : gm_W E d 0 437 [a0, a1, a2, .int x] st h Q ↔ gm_W E d 0 438 [a0, a1, a2, .int x] (.int x :: st) h Q := gw_loc m0 f0_437 rfl rfl
theorem f0_438 : gm_ft 0 438 = some (.iconst 2, 1) := by decide +kernel
theorem r0_438 {E : Nat → Value} {d : Nat} {st : List Value} {h : gm_H} {Q : gm_R → gm_H → Prop} {lv : List Value} : gm_W E d 0 438 lv st h Q ↔ gm_W E d 0 439 lv (.int (2 : Int32) :: st) h Q := gw_pure m0 f0_438 rfl
theorem f0_439 : gm_ft 0 439 = some (.iadd, 1) := by decide +kernel
theorem r0_439 {E : Nat → Value} {d : Nat} {st : List Value} {h : gm_H} {Q : gm_R → gm_H → Prop} {lv : List Value} {x y : Int32} : gm_W E d 0 439 lv (.int y :: .int x :: st) h Q ↔ gm_W E d 0 440 lv (.int (x + y) :: st) h Q := gw_pure m0 f0_439 rfl
theorem f0_440 : gm_ft 0 440 = some (.iaload, 1) := by decide +kernel
theorem r0_440 {E : Nat → Value} {d : Nat} {st : List Value} {h : gm_H} {Q : gm_R → gm_H → Prop} {lv : List Value} {a j : Nat} (hk : gm_kd h a % 100 = 0 ∧ 100 ≤ gm_kd h a ∧ gm_kd h a < 900) (hj : j < gm_ln h a) (hl : gm_ln h a < 2 ^ 31) : gm_W E d 0 440 lv (.int (nI j) :: .ref a :: st) h Q ↔ gm_W E d 0 441 lv (gm_fv h a j :: st) h Q := gw_rd m0 f0_440 rfl rfl rfl rfl (gs_ld (P := fun t => t == 0) hk.2 (by have := hk.1; simp [this] <;> omega) hj hl)
theorem f0_441 : gm_ft 0 441 = some (.invokevirtual 60, 3) := by decide +kernel
theorem c0_441 {E : Nat → Value} {d : Nat} {st : List Value} {h : gm_H} {Q : gm_R → gm_H → Prop} {lv : List Value} {b0 : Int32} {b1 : Int32} {a : Nat} {Qc : gm_R → gm_H → Prop} (hs : (st.map fun v => v.category).sum ≤ 8) (hr : gm_kd h a = 5) (hd : 1 ≤ d) (hc : gm_Ca E (d - 1) 48 [.ref a, .int b0, .int b1] h Qc) (kn : ∀ (v9 : Option Value) (h9 : gm_H), Qc (.inl v9) h9 → gm_W E d 0 444 lv (v9.toList ++ st) h9 Q) (kx : ∀ (x9 : Nat) (h9 : gm_H), Qc (.inr x9) h9 → Q (.inr x9) h9) : gm_W E d 0 441 lv (.int b1 :: .int b0 :: .ref a :: st) h Q := gw_call (gn_call m0 f0_441 rfl rfl rfl rfl rfl rfl rfl (gs_virt (bs := [.int b1, .int b0]) (w := 997) (L := 3) rfl rfl rfl rfl hs (by simp [gm_en1]) hr (by decide)) (by decide)) m0 rfl rfl hd hc kn kx
theorem f0_444 : gm_ft 0 444 = some (.pop, 1) := by decide +kernel
theorem r0_444 {E : Nat → Value} {d : Nat} {st : List Value} {h : gm_H} {Q : gm_R → gm_H → Prop} {lv : List Value} {x : Int32} : gm_W E d 0 444 lv (.int x :: st) h Q ↔ gm_W E d 0 445 lv st h Q := gw_pure m0 f0_444 rfl
theorem r0_444a {E : Nat → Value} {d : Nat} {st : List Value} {h : gm_H} {Q : gm_R → gm_H → Prop} {lv : List Value} {a : Nat} : gm_W E d 0 444 lv (.ref a :: st) h Q ↔ gm_W E d 0 445 lv st h Q := gw_pure m0 f0_444 rfl
theorem r0_444n {E : Nat → Value} {d : Nat} {st : List Value} {h : gm_H} {Q : gm_R → gm_H → Prop} {lv : List Value} : gm_W E d 0 444 lv (.null :: st) h Q ↔ gm_W E d 0 445 lv st h Q := gw_pure m0 f0_444 rfl
theorem f0_445 : gm_ft 0 445 = some (.goto 60, 3) := by decide +kernel
theorem r0_445 {E : Nat → Value} {d : Nat} {st : List Value} {h : gm_H} {Q : gm_R → gm_H → Prop} {lv : List Value} : gm_W E d 0 445 lv st h Q ↔ gm_W E d 0 505 lv st h Q := gw_brT m0 f0_445 rfl rfl rfl rfl
theorem f0_448 : gm_ft 0 448 = some (.aload_n 1, 1) := by decide +kernel
theorem r0_448 {E : Nat → Value} {d : Nat} {st : List Value} {h : gm_H} {Q : gm_R → gm_H → Prop} {a0 a2 a3 : Value} {x : Nat} : gm_W E d 0 448 [a0, .ref x, a2, a3] st h Q ↔ gm_W E d 0 449 [a0, .ref x, a2, a3] (.ref x :: st) h Q := gw_loc m0 f0_448 rfl rfl
theorem r0_448n {E : Nat → Value} {d : Nat} {st : List Value} {h : gm_H} {Q : gm_R → gm_H → Prop} {a0 a2 a3 : Value}  : gm_W E d 0 448 [a0, .null, a2, a3] st h Q ↔ gm_W E d 0 449 [a0, .null, a2, a3] (.null :: st) h Q := gw_loc m0 f0_448 rfl rfl
theorem f0_449 : gm_ft 0 449 = some (.aload_n 0, 1) := by decide +kernel
theorem r0_449 {E : Nat → Value} {d : Nat} {st : List Value} {h : gm_H} {Q : gm_R → gm_H → Prop} {a1 a2 a3 : Value} {x : Nat} : gm_W E d 0 449 [.ref x, a1, a2, a3] st h Q ↔ gm_W E d 0 450 [.ref x, a1, a2, a3] (.ref x :: st) h Q := gw_loc m0 f0_449 rfl rfl
theorem r0_449n {E : Nat → Value} {d : Nat} {st : List Value} {h : gm_H} {Q : gm_R → gm_H → Prop} {a1 a2 a3 : Value}  : gm_W E d 0 449 [.null, a1, a2, a3] st h Q ↔ gm_W E d 0 450 [.null, a1, a2, a3] (.null :: st) h Q := gw_loc m0 f0_449 rfl rfl
theorem f0_450 : gm_ft 0 450 = some (.iload_n 3, 1) := by decide +kernel
theorem r0_450 {E : Nat → Value} {d : Nat} {st : List Value} {h : gm_H} {Q : gm_R → gm_H → Prop} {a0 a1 a2 : Value} {x : Int32} : gm_W E d 0 450 [a0, a1, a2, .int x] st h Q ↔ gm_W E d 0 451 [a0, a1, a2, .int x] (.int x :: st) h Q := gw_loc m0 f0_450 rfl rfl
theorem f0_451 : gm_ft 0 451 = some (.iconst 1, 1) := by decide +kernel
theorem r0_451 {E : Nat → Value} {d : Nat} {st : List Value} {h : gm_H} {Q : gm_R → gm_H → Prop} {lv : List Value} : gm_W E d 0 451 lv st h Q ↔ gm_W E d 0 452 lv (.int (1 : Int32) :: st) h Q := gw_pure m0 f0_451 rfl
theorem f0_452 : gm_ft 0 452 = some (.iadd, 1) := by decide +kernel
theorem r0_452 {E : Nat → Value} {d : Nat} {st : List Value} {h : gm_H} {Q : gm_R → gm_H → Prop} {lv : List Value} {x y : Int32} : gm_W E d 0 452 lv (.int y :: .int x :: st) h Q ↔ gm_W E d 0 453 lv (.int (x + y) :: st) h Q := gw_pure m0 f0_452 rfl
theorem f0_453 : gm_ft 0 453 = some (.iaload, 1) := by decide +kernel
theorem r0_453 {E : Nat → Value} {d : Nat} {st : List Value} {h : gm_H} {Q : gm_R → gm_H → Prop} {lv : List Value} {a j : Nat} (hk : gm_kd h a % 100 = 0 ∧ 100 ≤ gm_kd h a ∧ gm_kd h a < 900) (hj : j < gm_ln h a) (hl : gm_ln h a < 2 ^ 31) : gm_W E d 0 453 lv (.int (nI j) :: .ref a :: st) h Q ↔ gm_W E d 0 454 lv (gm_fv h a j :: st) h Q := gw_rd m0 f0_453 rfl rfl rfl rfl (gs_ld (P := fun t => t == 0) hk.2 (by have := hk.1; simp [this] <;> omega) hj hl)
theorem f0_454 : gm_ft 0 454 = some (.aload_n 0, 1) := by decide +kernel
theorem r0_454 {E : Nat → Value} {d : Nat} {st : List Value} {h : gm_H} {Q : gm_R → gm_H → Prop} {a1 a2 a3 : Value} {x : Nat} : gm_W E d 0 454 [.ref x, a1, a2, a3] st h Q ↔ gm_W E d 0 455 [.ref x, a1, a2, a3] (.ref x :: st) h Q := gw_loc m0 f0_454 rfl rfl
theorem r0_454n {E : Nat → Value} {d : Nat} {st : List Value} {h : gm_H} {Q : gm_R → gm_H → Prop} {a1 a2 a3 : Value}  : gm_W E d 0 454 [.null, a1, a2, a3] st h Q ↔ gm_W E d 0 455 [.null, a1, a2, a3] (.null :: st) h Q := gw_loc m0 f0_454 rfl rfl
theorem f0_455 : gm_ft 0 455 = some (.iload_n 3, 1) := by decide +kernel
theorem r0_455 {E : Nat → Value} {d : Nat} {st : List Value} {h : gm_H} {Q : gm_R → gm_H → Prop} {a0 a1 a2 : Value} {x : Int32} : gm_W E d 0 455 [a0, a1, a2, .int x] st h Q ↔ gm_W E d 0 456 [a0, a1, a2, .int x] (.int x :: st) h Q := gw_loc m0 f0_455 rfl rfl
theorem f0_456 : gm_ft 0 456 = some (.iconst 2, 1) := by decide +kernel
theorem r0_456 {E : Nat → Value} {d : Nat} {st : List Value} {h : gm_H} {Q : gm_R → gm_H → Prop} {lv : List Value} : gm_W E d 0 456 lv st h Q ↔ gm_W E d 0 457 lv (.int (2 : Int32) :: st) h Q := gw_pure m0 f0_456 rfl
theorem f0_457 : gm_ft 0 457 = some (.iadd, 1) := by decide +kernel
theorem r0_457 {E : Nat → Value} {d : Nat} {st : List Value} {h : gm_H} {Q : gm_R → gm_H → Prop} {lv : List Value} {x y : Int32} : gm_W E d 0 457 lv (.int y :: .int x :: st) h Q ↔ gm_W E d 0 458 lv (.int (x + y) :: st) h Q := gw_pure m0 f0_457 rfl
theorem f0_458 : gm_ft 0 458 = some (.iaload, 1) := by decide +kernel
theorem r0_458 {E : Nat → Value} {d : Nat} {st : List Value} {h : gm_H} {Q : gm_R → gm_H → Prop} {lv : List Value} {a j : Nat} (hk : gm_kd h a % 100 = 0 ∧ 100 ≤ gm_kd h a ∧ gm_kd h a < 900) (hj : j < gm_ln h a) (hl : gm_ln h a < 2 ^ 31) : gm_W E d 0 458 lv (.int (nI j) :: .ref a :: st) h Q ↔ gm_W E d 0 459 lv (gm_fv h a j :: st) h Q := gw_rd m0 f0_458 rfl rfl rfl rfl (gs_ld (P := fun t => t == 0) hk.2 (by have := hk.1; simp [this] <;> omega) hj hl)
theorem f0_459 : gm_ft 0 459 = some (.invokevirtual 61, 3) := by decide +kernel
theorem c0_459 {E : Nat → Value} {d : Nat} {st : List Value} {h : gm_H} {Q : gm_R → gm_H → Prop} {lv : List Value} {b0 : Int32} {b1 : Int32} {a : Nat} {Qc : gm_R → gm_H → Prop} (hs : (st.map fun v => v.category).sum ≤ 8) (hr : gm_kd h a = 0) (hd : 1 ≤ d) (hc : gm_Ca E (d - 1) 60 [.ref a, .int b0, .int b1] h Qc) (kn : ∀ (v9 : Option Value) (h9 : gm_H), Qc (.inl v9) h9 → gm_W E d 0 462 lv (v9.toList ++ st) h9 Q) (kx : ∀ (x9 : Nat) (h9 : gm_H), Qc (.inr x9) h9 → Q (.inr x9) h9) : gm_W E d 0 459 lv (.int b1 :: .int b0 :: .ref a :: st) h Q := gw_call (gn_call m0 f0_459 rfl rfl rfl rfl rfl rfl rfl (gs_virt (bs := [.int b1, .int b0]) (w := 648) (L := 3) rfl rfl rfl rfl hs (by simp [gm_en1]) hr (by decide)) (by decide)) m0 rfl rfl hd hc kn kx
theorem f0_462 : gm_ft 0 462 = some (.aload_n 2, 1) := by decide +kernel
theorem r0_462 {E : Nat → Value} {d : Nat} {st : List Value} {h : gm_H} {Q : gm_R → gm_H → Prop} {a0 a1 a3 : Value} {x : Nat} : gm_W E d 0 462 [a0, a1, .ref x, a3] st h Q ↔ gm_W E d 0 463 [a0, a1, .ref x, a3] (.ref x :: st) h Q := gw_loc m0 f0_462 rfl rfl
theorem r0_462n {E : Nat → Value} {d : Nat} {st : List Value} {h : gm_H} {Q : gm_R → gm_H → Prop} {a0 a1 a3 : Value}  : gm_W E d 0 462 [a0, a1, .null, a3] st h Q ↔ gm_W E d 0 463 [a0, a1, .null, a3] (.null :: st) h Q := gw_loc m0 f0_462 rfl rfl
theorem f0_463 : gm_ft 0 463 = some (.aload_n 0, 1) := by decide +kernel
theorem r0_463 {E : Nat → Value} {d : Nat} {st : List Value} {h : gm_H} {Q : gm_R → gm_H → Prop} {a1 a2 a3 : Value} {x : Nat} : gm_W E d 0 463 [.ref x, a1, a2, a3] st h Q ↔ gm_W E d 0 464 [.ref x, a1, a2, a3] (.ref x :: st) h Q := gw_loc m0 f0_463 rfl rfl
theorem r0_463n {E : Nat → Value} {d : Nat} {st : List Value} {h : gm_H} {Q : gm_R → gm_H → Prop} {a1 a2 a3 : Value}  : gm_W E d 0 463 [.null, a1, a2, a3] st h Q ↔ gm_W E d 0 464 [.null, a1, a2, a3] (.null :: st) h Q := gw_loc m0 f0_463 rfl rfl
theorem f0_464 : gm_ft 0 464 = some (.iload_n 3, 1) := by decide +kernel
theorem r0_464 {E : Nat → Value} {d : Nat} {st : List Value} {h : gm_H} {Q : gm_R → gm_H → Prop} {a0 a1 a2 : Value} {x : Int32} : gm_W E d 0 464 [a0, a1, a2, .int x] st h Q ↔ gm_W E d 0 465 [a0, a1, a2, .int x] (.int x :: st) h Q := gw_loc m0 f0_464 rfl rfl
theorem f0_465 : gm_ft 0 465 = some (.iconst 1, 1) := by decide +kernel
theorem r0_465 {E : Nat → Value} {d : Nat} {st : List Value} {h : gm_H} {Q : gm_R → gm_H → Prop} {lv : List Value} : gm_W E d 0 465 lv st h Q ↔ gm_W E d 0 466 lv (.int (1 : Int32) :: st) h Q := gw_pure m0 f0_465 rfl
theorem f0_466 : gm_ft 0 466 = some (.iadd, 1) := by decide +kernel
theorem r0_466 {E : Nat → Value} {d : Nat} {st : List Value} {h : gm_H} {Q : gm_R → gm_H → Prop} {lv : List Value} {x y : Int32} : gm_W E d 0 466 lv (.int y :: .int x :: st) h Q ↔ gm_W E d 0 467 lv (.int (x + y) :: st) h Q := gw_pure m0 f0_466 rfl
theorem f0_467 : gm_ft 0 467 = some (.iaload, 1) := by decide +kernel
theorem r0_467 {E : Nat → Value} {d : Nat} {st : List Value} {h : gm_H} {Q : gm_R → gm_H → Prop} {lv : List Value} {a j : Nat} (hk : gm_kd h a % 100 = 0 ∧ 100 ≤ gm_kd h a ∧ gm_kd h a < 900) (hj : j < gm_ln h a) (hl : gm_ln h a < 2 ^ 31) : gm_W E d 0 467 lv (.int (nI j) :: .ref a :: st) h Q ↔ gm_W E d 0 468 lv (gm_fv h a j :: st) h Q := gw_rd m0 f0_467 rfl rfl rfl rfl (gs_ld (P := fun t => t == 0) hk.2 (by have := hk.1; simp [this] <;> omega) hj hl)
theorem f0_468 : gm_ft 0 468 = some (.aload_n 0, 1) := by decide +kernel
theorem r0_468 {E : Nat → Value} {d : Nat} {st : List Value} {h : gm_H} {Q : gm_R → gm_H → Prop} {a1 a2 a3 : Value} {x : Nat} : gm_W E d 0 468 [.ref x, a1, a2, a3] st h Q ↔ gm_W E d 0 469 [.ref x, a1, a2, a3] (.ref x :: st) h Q := gw_loc m0 f0_468 rfl rfl
theorem r0_468n {E : Nat → Value} {d : Nat} {st : List Value} {h : gm_H} {Q : gm_R → gm_H → Prop} {a1 a2 a3 : Value}  : gm_W E d 0 468 [.null, a1, a2, a3] st h Q ↔ gm_W E d 0 469 [.null, a1, a2, a3] (.null :: st) h Q := gw_loc m0 f0_468 rfl rfl
theorem f0_469 : gm_ft 0 469 = some (.iload_n 3, 1) := by decide +kernel
theorem r0_469 {E : Nat → Value} {d : Nat} {st : List Value} {h : gm_H} {Q : gm_R → gm_H → Prop} {a0 a1 a2 : Value} {x : Int32} : gm_W E d 0 469 [a0, a1, a2, .int x] st h Q ↔ gm_W E d 0 470 [a0, a1, a2, .int x] (.int x :: st) h Q := gw_loc m0 f0_469 rfl rfl
theorem f0_470 : gm_ft 0 470 = some (.iconst 2, 1) := by decide +kernel
theorem r0_470 {E : Nat → Value} {d : Nat} {st : List Value} {h : gm_H} {Q : gm_R → gm_H → Prop} {lv : List Value} : gm_W E d 0 470 lv st h Q ↔ gm_W E d 0 471 lv (.int (2 : Int32) :: st) h Q := gw_pure m0 f0_470 rfl
theorem f0_471 : gm_ft 0 471 = some (.iadd, 1) := by decide +kernel
theorem r0_471 {E : Nat → Value} {d : Nat} {st : List Value} {h : gm_H} {Q : gm_R → gm_H → Prop} {lv : List Value} {x y : Int32} : gm_W E d 0 471 lv (.int y :: .int x :: st) h Q ↔ gm_W E d 0 472 lv (.int (x + y) :: st) h Q := gw_pure m0 f0_471 rfl
theorem f0_472 : gm_ft 0 472 = some (.iaload, 1) := by decide +kernel
theorem r0_472 {E : Nat → Value} {d : Nat} {st : List Value} {h : gm_H} {Q : gm_R → gm_H → Prop} {lv : List Value} {a j : Nat} (hk : gm_kd h a % 100 = 0 ∧ 100 ≤ gm_kd h a ∧ gm_kd h a < 900) (hj : j < gm_ln h a) (hl : gm_ln h a < 2 ^ 31) : gm_W E d 0 472 lv (.int (nI j) :: .ref a :: st) h Q ↔ gm_W E d 0 473 lv (gm_fv h a j :: st) h Q := gw_rd m0 f0_472 rfl rfl rfl rfl (gs_ld (P := fun t => t == 0) hk.2 (by have := hk.1; simp [this] <;> omega) hj hl)
theorem f0_473 : gm_ft 0 473 = some (.invokevirtual 65, 3) := by decide +kernel
theorem c0_473 {E : Nat → Value} {d : Nat} {st : List Value} {h : gm_H} {Q : gm_R → gm_H → Prop} {lv : List Value} {b0 : Int32} {b1 : Int32} {a : Nat} {Qc : gm_R → gm_H → Prop} (hs : (st.map fun v => v.category).sum ≤ 8) (hr : gm_kd h a = 5) (hd : 1 ≤ d) (hc : gm_Ca E (d - 1) 49 [.ref a, .int b0, .int b1] h Qc) (kn : ∀ (v9 : Option Value) (h9 : gm_H), Qc (.inl v9) h9 → gm_W E d 0 476 lv (v9.toList ++ st) h9 Q) (kx : ∀ (x9 : Nat) (h9 : gm_H), Qc (.inr x9) h9 → Q (.inr x9) h9) : gm_W E d 0 473 lv (.int b1 :: .int b0 :: .ref a :: st) h Q := gw_call (gn_call m0 f0_473 rfl rfl rfl rfl rfl rfl rfl (gs_virt (bs := [.int b1, .int b0]) (w := 1001) (L := 6) rfl rfl rfl rfl hs (by simp [gm_en1]) hr (by decide)) (by decide)) m0 rfl rfl hd hc kn kx
theorem f0_476 : gm_ft 0 476 = some (.lcmp, 1) := by decide +kernel
theorem r0_476 {E : Nat → Value} {d : Nat} {st : List Value} {h : gm_H} {Q : gm_R → gm_H → Prop} {lv : List Value} {x y : Int64} : gm_W E d 0 476 lv (.long y :: .long x :: st) h Q ↔ gm_W E d 0 477 lv (.int (lg_cmp x y) :: st) h Q := gw_pure m0 f0_476 rfl
theorem f0_477 : gm_ft 0 477 = some (.ifCond .eq 28, 3) := by decide +kernel
theorem r0_477 {E : Nat → Value} {d : Nat} {st : List Value} {h : gm_H} {Q : gm_R → gm_H → Prop} {lv : List Value} {x : Int32} : gm_W E d 0 477 lv (.int x :: st) h Q ↔ (if x = 0 then gm_W E d 0 505 lv st h Q else gm_W E d 0 480 lv st h Q) := (gw_br m0 f0_477 rfl rfl rfl rfl).trans gw_if
theorem f0_480 : gm_ft 0 480 = some (.iconst 0, 1) := by decide +kernel
theorem r0_480 {E : Nat → Value} {d : Nat} {st : List Value} {h : gm_H} {Q : gm_R → gm_H → Prop} {lv : List Value} : gm_W E d 0 480 lv st h Q ↔ gm_W E d 0 481 lv (.int (0 : Int32) :: st) h Q := gw_pure m0 f0_480 rfl
theorem f0_481 : gm_ft 0 481 = some (.ireturn, 1) := by decide +kernel
theorem r0_481 {E : Nat → Value} {d : Nat} {h : gm_H} {Q : gm_R → gm_H → Prop} {lv : List Value} {x : Int32} (hx : x = 0 ∨ x = 1) : gm_W E d 0 481 lv [.int x] h Q ↔ Q (.inl (some (.int x))) h := gw_ret m0 f0_481 rfl rfl rfl rfl rfl rfl rfl rfl (by unfold gm_rt; dsimp only; rw [if_pos ⟨rfl, (gs_nb hx).1⟩])
theorem f0_482 : gm_ft 0 482 = some (.aload_n 1, 1) := by decide +kernel
theorem r0_482 {E : Nat → Value} {d : Nat} {st : List Value} {h : gm_H} {Q : gm_R → gm_H → Prop} {a0 a2 a3 : Value} {x : Nat} : gm_W E d 0 482 [a0, .ref x, a2, a3] st h Q ↔ gm_W E d 0 483 [a0, .ref x, a2, a3] (.ref x :: st) h Q := gw_loc m0 f0_482 rfl rfl
theorem r0_482n {E : Nat → Value} {d : Nat} {st : List Value} {h : gm_H} {Q : gm_R → gm_H → Prop} {a0 a2 a3 : Value}  : gm_W E d 0 482 [a0, .null, a2, a3] st h Q ↔ gm_W E d 0 483 [a0, .null, a2, a3] (.null :: st) h Q := gw_loc m0 f0_482 rfl rfl
theorem f0_483 : gm_ft 0 483 = some (.aload_n 0, 1) := by decide +kernel
theorem r0_483 {E : Nat → Value} {d : Nat} {st : List Value} {h : gm_H} {Q : gm_R → gm_H → Prop} {a1 a2 a3 : Value} {x : Nat} : gm_W E d 0 483 [.ref x, a1, a2, a3] st h Q ↔ gm_W E d 0 484 [.ref x, a1, a2, a3] (.ref x :: st) h Q := gw_loc m0 f0_483 rfl rfl
theorem r0_483n {E : Nat → Value} {d : Nat} {st : List Value} {h : gm_H} {Q : gm_R → gm_H → Prop} {a1 a2 a3 : Value}  : gm_W E d 0 483 [.null, a1, a2, a3] st h Q ↔ gm_W E d 0 484 [.null, a1, a2, a3] (.null :: st) h Q := gw_loc m0 f0_483 rfl rfl
theorem f0_484 : gm_ft 0 484 = some (.iload_n 3, 1) := by decide +kernel
theorem r0_484 {E : Nat → Value} {d : Nat} {st : List Value} {h : gm_H} {Q : gm_R → gm_H → Prop} {a0 a1 a2 : Value} {x : Int32} : gm_W E d 0 484 [a0, a1, a2, .int x] st h Q ↔ gm_W E d 0 485 [a0, a1, a2, .int x] (.int x :: st) h Q := gw_loc m0 f0_484 rfl rfl
theorem f0_485 : gm_ft 0 485 = some (.iconst 1, 1) := by decide +kernel
theorem r0_485 {E : Nat → Value} {d : Nat} {st : List Value} {h : gm_H} {Q : gm_R → gm_H → Prop} {lv : List Value} : gm_W E d 0 485 lv st h Q ↔ gm_W E d 0 486 lv (.int (1 : Int32) :: st) h Q := gw_pure m0 f0_485 rfl
theorem f0_486 : gm_ft 0 486 = some (.iadd, 1) := by decide +kernel
theorem r0_486 {E : Nat → Value} {d : Nat} {st : List Value} {h : gm_H} {Q : gm_R → gm_H → Prop} {lv : List Value} {x y : Int32} : gm_W E d 0 486 lv (.int y :: .int x :: st) h Q ↔ gm_W E d 0 487 lv (.int (x + y) :: st) h Q := gw_pure m0 f0_486 rfl
theorem f0_487 : gm_ft 0 487 = some (.iaload, 1) := by decide +kernel
theorem r0_487 {E : Nat → Value} {d : Nat} {st : List Value} {h : gm_H} {Q : gm_R → gm_H → Prop} {lv : List Value} {a j : Nat} (hk : gm_kd h a % 100 = 0 ∧ 100 ≤ gm_kd h a ∧ gm_kd h a < 900) (hj : j < gm_ln h a) (hl : gm_ln h a < 2 ^ 31) : gm_W E d 0 487 lv (.int (nI j) :: .ref a :: st) h Q ↔ gm_W E d 0 488 lv (gm_fv h a j :: st) h Q := gw_rd m0 f0_487 rfl rfl rfl rfl (gs_ld (P := fun t => t == 0) hk.2 (by have := hk.1; simp [this] <;> omega) hj hl)
theorem f0_488 : gm_ft 0 488 = some (.invokevirtual 66, 3) := by decide +kernel
theorem c0_488 {E : Nat → Value} {d : Nat} {st : List Value} {h : gm_H} {Q : gm_R → gm_H → Prop} {lv : List Value} {b0 : Int32} {a : Nat} {Qc : gm_R → gm_H → Prop} (hs : (st.map fun v => v.category).sum ≤ 8) (hr : gm_kd h a = 0) (hd : 1 ≤ d) (hc : gm_Ca E (d - 1) 61 [.ref a, .int b0] h Qc) (kn : ∀ (v9 : Option Value) (h9 : gm_H), Qc (.inl v9) h9 → gm_W E d 0 491 lv (v9.toList ++ st) h9 Q) (kx : ∀ (x9 : Nat) (h9 : gm_H), Qc (.inr x9) h9 → Q (.inr x9) h9) : gm_W E d 0 488 lv (.int b0 :: .ref a :: st) h Q := gw_call (gn_call m0 f0_488 rfl rfl rfl rfl rfl rfl rfl (gs_virt (bs := [.int b0]) (w := 653) (L := 2) rfl rfl rfl rfl hs (by simp [gm_en1]) hr (by decide)) (by decide)) m0 rfl rfl hd hc kn kx
theorem f0_491 : gm_ft 0 491 = some (.pop, 1) := by decide +kernel
theorem r0_491 {E : Nat → Value} {d : Nat} {st : List Value} {h : gm_H} {Q : gm_R → gm_H → Prop} {lv : List Value} {x : Int32} : gm_W E d 0 491 lv (.int x :: st) h Q ↔ gm_W E d 0 492 lv st h Q := gw_pure m0 f0_491 rfl
theorem r0_491a {E : Nat → Value} {d : Nat} {st : List Value} {h : gm_H} {Q : gm_R → gm_H → Prop} {lv : List Value} {a : Nat} : gm_W E d 0 491 lv (.ref a :: st) h Q ↔ gm_W E d 0 492 lv st h Q := gw_pure m0 f0_491 rfl
theorem r0_491n {E : Nat → Value} {d : Nat} {st : List Value} {h : gm_H} {Q : gm_R → gm_H → Prop} {lv : List Value} : gm_W E d 0 491 lv (.null :: st) h Q ↔ gm_W E d 0 492 lv st h Q := gw_pure m0 f0_491 rfl
theorem f0_492 : gm_ft 0 492 = some (.aload_n 2, 1) := by decide +kernel
theorem r0_492 {E : Nat → Value} {d : Nat} {st : List Value} {h : gm_H} {Q : gm_R → gm_H → Prop} {a0 a1 a3 : Value} {x : Nat} : gm_W E d 0 492 [a0, a1, .ref x, a3] st h Q ↔ gm_W E d 0 493 [a0, a1, .ref x, a3] (.ref x :: st) h Q := gw_loc m0 f0_492 rfl rfl
theorem r0_492n {E : Nat → Value} {d : Nat} {st : List Value} {h : gm_H} {Q : gm_R → gm_H → Prop} {a0 a1 a3 : Value}  : gm_W E d 0 492 [a0, a1, .null, a3] st h Q ↔ gm_W E d 0 493 [a0, a1, .null, a3] (.null :: st) h Q := gw_loc m0 f0_492 rfl rfl
theorem f0_493 : gm_ft 0 493 = some (.aload_n 0, 1) := by decide +kernel
theorem r0_493 {E : Nat → Value} {d : Nat} {st : List Value} {h : gm_H} {Q : gm_R → gm_H → Prop} {a1 a2 a3 : Value} {x : Nat} : gm_W E d 0 493 [.ref x, a1, a2, a3] st h Q ↔ gm_W E d 0 494 [.ref x, a1, a2, a3] (.ref x :: st) h Q := gw_loc m0 f0_493 rfl rfl
theorem r0_493n {E : Nat → Value} {d : Nat} {st : List Value} {h : gm_H} {Q : gm_R → gm_H → Prop} {a1 a2 a3 : Value}  : gm_W E d 0 493 [.null, a1, a2, a3] st h Q ↔ gm_W E d 0 494 [.null, a1, a2, a3] (.null :: st) h Q := gw_loc m0 f0_493 rfl rfl
theorem f0_494 : gm_ft 0 494 = some (.iload_n 3, 1) := by decide +kernel
theorem r0_494 {E : Nat → Value} {d : Nat} {st : List Value} {h : gm_H} {Q : gm_R → gm_H → Prop} {a0 a1 a2 : Value} {x : Int32} : gm_W E d 0 494 [a0, a1, a2, .int x] st h Q ↔ gm_W E d 0 495 [a0, a1, a2, .int x] (.int x :: st) h Q := gw_loc m0 f0_494 rfl rfl
theorem f0_495 : gm_ft 0 495 = some (.iconst 1, 1) := by decide +kernel
theorem r0_495 {E : Nat → Value} {d : Nat} {st : List Value} {h : gm_H} {Q : gm_R → gm_H → Prop} {lv : List Value} : gm_W E d 0 495 lv st h Q ↔ gm_W E d 0 496 lv (.int (1 : Int32) :: st) h Q := gw_pure m0 f0_495 rfl
theorem f0_496 : gm_ft 0 496 = some (.iadd, 1) := by decide +kernel
theorem r0_496 {E : Nat → Value} {d : Nat} {st : List Value} {h : gm_H} {Q : gm_R → gm_H → Prop} {lv : List Value} {x y : Int32} : gm_W E d 0 496 lv (.int y :: .int x :: st) h Q ↔ gm_W E d 0 497 lv (.int (x + y) :: st) h Q := gw_pure m0 f0_496 rfl
theorem f0_497 : gm_ft 0 497 = some (.iaload, 1) := by decide +kernel
theorem r0_497 {E : Nat → Value} {d : Nat} {st : List Value} {h : gm_H} {Q : gm_R → gm_H → Prop} {lv : List Value} {a j : Nat} (hk : gm_kd h a % 100 = 0 ∧ 100 ≤ gm_kd h a ∧ gm_kd h a < 900) (hj : j < gm_ln h a) (hl : gm_ln h a < 2 ^ 31) : gm_W E d 0 497 lv (.int (nI j) :: .ref a :: st) h Q ↔ gm_W E d 0 498 lv (gm_fv h a j :: st) h Q := gw_rd m0 f0_497 rfl rfl rfl rfl (gs_ld (P := fun t => t == 0) hk.2 (by have := hk.1; simp [this] <;> omega) hj hl)
theorem f0_498 : gm_ft 0 498 = some (.invokevirtual 70, 3) := by decide +kernel
theorem c0_498 {E : Nat → Value} {d : Nat} {st : List Value} {h : gm_H} {Q : gm_R → gm_H → Prop} {lv : List Value} {b0 : Int32} {a : Nat} {Qc : gm_R → gm_H → Prop} (hs : (st.map fun v => v.category).sum ≤ 8) (hr : gm_kd h a = 5) (hd : 1 ≤ d) (hc : gm_Ca E (d - 1) 50 [.ref a, .int b0] h Qc) (kn : ∀ (v9 : Option Value) (h9 : gm_H), Qc (.inl v9) h9 → gm_W E d 0 501 lv (v9.toList ++ st) h9 Q) (kx : ∀ (x9 : Nat) (h9 : gm_H), Qc (.inr x9) h9 → Q (.inr x9) h9) : gm_W E d 0 498 lv (.int b0 :: .ref a :: st) h Q := gw_call (gn_call m0 f0_498 rfl rfl rfl rfl rfl rfl rfl (gs_virt (bs := [.int b0]) (w := 1006) (L := 2) rfl rfl rfl rfl hs (by simp [gm_en1]) hr (by decide)) (by decide)) m0 rfl rfl hd hc kn kx
theorem f0_501 : gm_ft 0 501 = some (.pop, 1) := by decide +kernel
theorem r0_501 {E : Nat → Value} {d : Nat} {st : List Value} {h : gm_H} {Q : gm_R → gm_H → Prop} {lv : List Value} {x : Int32} : gm_W E d 0 501 lv (.int x :: st) h Q ↔ gm_W E d 0 502 lv st h Q := gw_pure m0 f0_501 rfl
theorem r0_501a {E : Nat → Value} {d : Nat} {st : List Value} {h : gm_H} {Q : gm_R → gm_H → Prop} {lv : List Value} {a : Nat} : gm_W E d 0 501 lv (.ref a :: st) h Q ↔ gm_W E d 0 502 lv st h Q := gw_pure m0 f0_501 rfl
theorem r0_501n {E : Nat → Value} {d : Nat} {st : List Value} {h : gm_H} {Q : gm_R → gm_H → Prop} {lv : List Value} : gm_W E d 0 501 lv (.null :: st) h Q ↔ gm_W E d 0 502 lv st h Q := gw_pure m0 f0_501 rfl
theorem f0_502 : gm_ft 0 502 = some (.goto 3, 3) := by decide +kernel
theorem r0_502 {E : Nat → Value} {d : Nat} {st : List Value} {h : gm_H} {Q : gm_R → gm_H → Prop} {lv : List Value} : gm_W E d 0 502 lv st h Q ↔ gm_W E d 0 505 lv st h Q := gw_brT m0 f0_502 rfl rfl rfl rfl
theorem f0_505 : gm_ft 0 505 = some (.iinc 3 6, 3) := by decide +kernel
theorem r0_505 {E : Nat → Value} {d : Nat} {st : List Value} {h : gm_H} {Q : gm_R → gm_H → Prop} {a0 a1 a2 : Value} {x : Int32} : gm_W E d 0 505 [a0, a1, a2, .int x] st h Q ↔ gm_W E d 0 508 [a0, a1, gm_k a2, .int (x + (6 : Int32))] st h Q := gw_loc m0 f0_505 rfl rfl
theorem f0_508 : gm_ft 0 508 = some (.goto (-450), 3) := by decide +kernel
theorem r0_508 {E : Nat → Value} {d : Nat} {st : List Value} {h : gm_H} {Q : gm_R → gm_H → Prop} {lv : List Value} : gm_W E d 0 508 lv st h Q ↔ gm_W E d 0 58 lv st h Q := gw_brT m0 f0_508 rfl rfl rfl rfl
theorem f0_511 : gm_ft 0 511 = some (.iconst 1, 1) := by decide +kernel
theorem r0_511 {E : Nat → Value} {d : Nat} {st : List Value} {h : gm_H} {Q : gm_R → gm_H → Prop} {lv : List Value} : gm_W E d 0 511 lv st h Q ↔ gm_W E d 0 512 lv (.int (1 : Int32) :: st) h Q := gw_pure m0 f0_511 rfl
theorem f0_512 : gm_ft 0 512 = some (.ireturn, 1) := by decide +kernel
theorem r0_512 {E : Nat → Value} {d : Nat} {h : gm_H} {Q : gm_R → gm_H → Prop} {lv : List Value} {x : Int32} (hx : x = 0 ∨ x = 1) : gm_W E d 0 512 lv [.int x] h Q ↔ Q (.inl (some (.int x))) h := gw_ret m0 f0_512 rfl rfl rfl rfl rfl rfl rfl rfl (by unfold gm_rt; dsimp only; rw [if_pos ⟨rfl, (gs_nb hx).1⟩])
/-! GraphReaderLaw.cell([II)I -/
theorem m1 : gm_mt[1]? = some (⟨"GraphReaderLaw", "cell", "([II)I"⟩, method_2_code, 2, (some .int), [], 7, 3) := rfl
theorem f1_0 : gm_ft 1 0 = some (.iload_n 1, 1) := by decide +kernel
theorem r1_0 {E : Nat → Value} {d : Nat} {st : List Value} {h : gm_H} {Q : gm_R → gm_H → Prop} {a0 : Value} {x : Int32} : gm_W E d 1 0 [a0, .int x] st h Q ↔ gm_W E d 1 1 [a0, .int x] (.int x :: st) h Q := gw_loc m1 f1_0 rfl rfl
theorem f1_1 : gm_ft 1 1 = some (.aload_n 0, 1) := by decide +kernel
theorem r1_1 {E : Nat → Value} {d : Nat} {st : List Value} {h : gm_H} {Q : gm_R → gm_H → Prop} {a1 : Value} {x : Nat} : gm_W E d 1 1 [.ref x, a1] st h Q ↔ gm_W E d 1 2 [.ref x, a1] (.ref x :: st) h Q := gw_loc m1 f1_1 rfl rfl
theorem r1_1n {E : Nat → Value} {d : Nat} {st : List Value} {h : gm_H} {Q : gm_R → gm_H → Prop} {a1 : Value}  : gm_W E d 1 1 [.null, a1] st h Q ↔ gm_W E d 1 2 [.null, a1] (.null :: st) h Q := gw_loc m1 f1_1 rfl rfl
theorem f1_2 : gm_ft 1 2 = some (.arraylength, 1) := by decide +kernel
theorem r1_2 {E : Nat → Value} {d : Nat} {st : List Value} {h : gm_H} {Q : gm_R → gm_H → Prop} {lv : List Value} {a : Nat} (hk : 100 ≤ gm_kd h a ∧ gm_kd h a < 900) : gm_W E d 1 2 lv (.ref a :: st) h Q ↔ gm_W E d 1 3 lv (.int (nI (gm_ln h a)) :: st) h Q := gw_rd m1 f1_2 rfl rfl rfl rfl (gs_len hk)
theorem f1_3 : gm_ft 1 3 = some (.if_icmp .ge 9, 3) := by decide +kernel
theorem r1_3 {E : Nat → Value} {d : Nat} {st : List Value} {h : gm_H} {Q : gm_R → gm_H → Prop} {lv : List Value} {x y : Int32} : gm_W E d 1 3 lv (.int y :: .int x :: st) h Q ↔ (if y ≤ x then gm_W E d 1 12 lv st h Q else gm_W E d 1 6 lv st h Q) := (gw_br m1 f1_3 rfl rfl rfl rfl).trans gw_if
theorem f1_6 : gm_ft 1 6 = some (.aload_n 0, 1) := by decide +kernel
theorem r1_6 {E : Nat → Value} {d : Nat} {st : List Value} {h : gm_H} {Q : gm_R → gm_H → Prop} {a1 : Value} {x : Nat} : gm_W E d 1 6 [.ref x, a1] st h Q ↔ gm_W E d 1 7 [.ref x, a1] (.ref x :: st) h Q := gw_loc m1 f1_6 rfl rfl
theorem r1_6n {E : Nat → Value} {d : Nat} {st : List Value} {h : gm_H} {Q : gm_R → gm_H → Prop} {a1 : Value}  : gm_W E d 1 6 [.null, a1] st h Q ↔ gm_W E d 1 7 [.null, a1] (.null :: st) h Q := gw_loc m1 f1_6 rfl rfl
theorem f1_7 : gm_ft 1 7 = some (.iload_n 1, 1) := by decide +kernel
theorem r1_7 {E : Nat → Value} {d : Nat} {st : List Value} {h : gm_H} {Q : gm_R → gm_H → Prop} {a0 : Value} {x : Int32} : gm_W E d 1 7 [a0, .int x] st h Q ↔ gm_W E d 1 8 [a0, .int x] (.int x :: st) h Q := gw_loc m1 f1_7 rfl rfl
theorem f1_8 : gm_ft 1 8 = some (.iaload, 1) := by decide +kernel
theorem r1_8 {E : Nat → Value} {d : Nat} {st : List Value} {h : gm_H} {Q : gm_R → gm_H → Prop} {lv : List Value} {a j : Nat} (hk : gm_kd h a % 100 = 0 ∧ 100 ≤ gm_kd h a ∧ gm_kd h a < 900) (hj : j < gm_ln h a) (hl : gm_ln h a < 2 ^ 31) : gm_W E d 1 8 lv (.int (nI j) :: .ref a :: st) h Q ↔ gm_W E d 1 9 lv (gm_fv h a j :: st) h Q := gw_rd m1 f1_8 rfl rfl rfl rfl (gs_ld (P := fun t => t == 0) hk.2 (by have := hk.1; simp [this] <;> omega) hj hl)
theorem f1_9 : gm_ft 1 9 = some (.goto 4, 3) := by decide +kernel
theorem r1_9 {E : Nat → Value} {d : Nat} {st : List Value} {h : gm_H} {Q : gm_R → gm_H → Prop} {lv : List Value} : gm_W E d 1 9 lv st h Q ↔ gm_W E d 1 13 lv st h Q := gw_brT m1 f1_9 rfl rfl rfl rfl
theorem f1_12 : gm_ft 1 12 = some (.iconst 0, 1) := by decide +kernel
theorem r1_12 {E : Nat → Value} {d : Nat} {st : List Value} {h : gm_H} {Q : gm_R → gm_H → Prop} {lv : List Value} : gm_W E d 1 12 lv st h Q ↔ gm_W E d 1 13 lv (.int (0 : Int32) :: st) h Q := gw_pure m1 f1_12 rfl
theorem f1_13 : gm_ft 1 13 = some (.ireturn, 1) := by decide +kernel
theorem r1_13 {E : Nat → Value} {d : Nat} {h : gm_H} {Q : gm_R → gm_H → Prop} {lv : List Value} {x : Int32} : gm_W E d 1 13 lv [.int x] h Q ↔ Q (.inl (some (.int x))) h := gw_ret m1 f1_13 rfl rfl rfl rfl rfl rfl rfl rfl (by unfold gm_rt; dsimp only; rw [if_pos ⟨rfl, rfl⟩])
