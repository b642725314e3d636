/-! GraphReader.readOutermost()I -/
theorem m81 : gm_mt[81]? = some (⟨"GraphReader", "readOutermost", "()I"⟩, prog_1_method_31_code, 1, (some .int), [], 0, 1) := rfl
theorem f81_0 : gm_ft 81 0 = some (.aload_n 0, 1) := by decide +kernel
theorem r81_0 {E : Nat → Value} {d : Nat} {st : List Value} {h : gm_H} {Q : gm_R → gm_H → Prop}  {x : Nat} : gm_W E d 81 0 [.ref x] st h Q ↔ gm_W E d 81 1 [.ref x] (.ref x :: st) h Q := gw_loc m81 f81_0 rfl rfl
theorem r81_0n {E : Nat → Value} {d : Nat} {st : List Value} {h : gm_H} {Q : gm_R → gm_H → Prop}   : gm_W E d 81 0 [.null] st h Q ↔ gm_W E d 81 1 [.null] (.null :: st) h Q := gw_loc m81 f81_0 rfl rfl
theorem f81_1 : gm_ft 81 1 = some (.iconst 1, 1) := by decide +kernel
theorem r81_1 {E : Nat → Value} {d : Nat} {st : List Value} {h : gm_H} {Q : gm_R → gm_H → Prop} {lv : List Value} : gm_W E d 81 1 lv st h Q ↔ gm_W E d 81 2 lv (.int (1 : Int32) :: st) h Q := gw_pure m81 f81_1 rfl
theorem f81_2 : gm_ft 81 2 = some (.invokevirtual 191, 3) := by decide +kernel
theorem c81_2 {E : Nat → Value} {d : Nat} {st : List Value} {h : gm_H} {Q : gm_R → gm_H → Prop} {lv : List Value} {b0 : Int32} {a : Nat} {Qc : gm_R → gm_H → Prop} (hs : (st.map fun v => v.category).sum ≤ 8) (hr : gm_kd h a = 0) (hd : 1 ≤ d) (hc : gm_Ca E (d - 1) 79 [.ref a, .int b0] h Qc) (kn : ∀ (v9 : Option Value) (h9 : gm_H), Qc (.inl v9) h9 → gm_W E d 81 5 lv (v9.toList ++ st) h9 Q) (kx : ∀ (x9 : Nat) (h9 : gm_H), Qc (.inr x9) h9 → Q (.inr x9) h9) : gm_W E d 81 2 lv (.int b0 :: .ref a :: st) h Q := gw_call (gn_call m81 f81_2 rfl rfl rfl rfl rfl rfl rfl (gs_virt (bs := [.int b0]) (w := 198) (L := 2) rfl rfl rfl rfl hs (by simp [gm_en1]) hr (by decide)) (by decide)) m81 rfl rfl hd hc kn kx
theorem f81_5 : gm_ft 81 5 = some (.aload_n 0, 1) := by decide +kernel
theorem r81_5 {E : Nat → Value} {d : Nat} {st : List Value} {h : gm_H} {Q : gm_R → gm_H → Prop}  {x : Nat} : gm_W E d 81 5 [.ref x] st h Q ↔ gm_W E d 81 6 [.ref x] (.ref x :: st) h Q := gw_loc m81 f81_5 rfl rfl
theorem r81_5n {E : Nat → Value} {d : Nat} {st : List Value} {h : gm_H} {Q : gm_R → gm_H → Prop}   : gm_W E d 81 5 [.null] st h Q ↔ gm_W E d 81 6 [.null] (.null :: st) h Q := gw_loc m81 f81_5 rfl rfl
theorem f81_6 : gm_ft 81 6 = some (.getfield 96, 3) := by decide +kernel
theorem r81_6 {E : Nat → Value} {d : Nat} {st : List Value} {h : gm_H} {Q : gm_R → gm_H → Prop} {lv : List Value} {a : Nat} (hk : gm_kd h a = 0) : gm_W E d 81 6 lv (.ref a :: st) h Q ↔ gm_W E d 81 9 lv (gm_fv h a 7 :: st) h Q := gw_rd m81 f81_6 rfl rfl rfl rfl (gs_get k0_96 hk (by decide))
theorem f81_9 : gm_ft 81 9 = some (.aload_n 0, 1) := by decide +kernel
theorem r81_9 {E : Nat → Value} {d : Nat} {st : List Value} {h : gm_H} {Q : gm_R → gm_H → Prop}  {x : Nat} : gm_W E d 81 9 [.ref x] st h Q ↔ gm_W E d 81 10 [.ref x] (.ref x :: st) h Q := gw_loc m81 f81_9 rfl rfl
theorem r81_9n {E : Nat → Value} {d : Nat} {st : List Value} {h : gm_H} {Q : gm_R → gm_H → Prop}   : gm_W E d 81 9 [.null] st h Q ↔ gm_W E d 81 10 [.null] (.null :: st) h Q := gw_loc m81 f81_9 rfl rfl
theorem f81_10 : gm_ft 81 10 = some (.getfield 93, 3) := by decide +kernel
theorem r81_10 {E : Nat → Value} {d : Nat} {st : List Value} {h : gm_H} {Q : gm_R → gm_H → Prop} {lv : List Value} {a : Nat} (hk : gm_kd h a = 0) : gm_W E d 81 10 lv (.ref a :: st) h Q ↔ gm_W E d 81 13 lv (gm_fv h a 6 :: st) h Q := gw_rd m81 f81_10 rfl rfl rfl rfl (gs_get k0_93 hk (by decide))
theorem f81_13 : gm_ft 81 13 = some (.if_icmp .ge 51, 3) := by decide +kernel
theorem r81_13 {E : Nat → Value} {d : Nat} {st : List Value} {h : gm_H} {Q : gm_R → gm_H → Prop} {lv : List Value} {x y : Int32} : gm_W E d 81 13 lv (.int y :: .int x :: st) h Q ↔ (if y ≤ x then gm_W E d 81 64 lv st h Q else gm_W E d 81 16 lv st h Q) := (gw_br m81 f81_13 rfl rfl rfl rfl).trans gw_if
theorem f81_16 : gm_ft 81 16 = some (.aload_n 0, 1) := by decide +kernel
theorem r81_16 {E : Nat → Value} {d : Nat} {st : List Value} {h : gm_H} {Q : gm_R → gm_H → Prop}  {x : Nat} : gm_W E d 81 16 [.ref x] st h Q ↔ gm_W E d 81 17 [.ref x] (.ref x :: st) h Q := gw_loc m81 f81_16 rfl rfl
theorem r81_16n {E : Nat → Value} {d : Nat} {st : List Value} {h : gm_H} {Q : gm_R → gm_H → Prop}   : gm_W E d 81 16 [.null] st h Q ↔ gm_W E d 81 17 [.null] (.null :: st) h Q := gw_loc m81 f81_16 rfl rfl
theorem f81_17 : gm_ft 81 17 = some (.getfield 15, 3) := by decide +kernel
theorem r81_17 {E : Nat → Value} {d : Nat} {st : List Value} {h : gm_H} {Q : gm_R → gm_H → Prop} {lv : List Value} {a : Nat} (hk : gm_kd h a = 0) : gm_W E d 81 17 lv (.ref a :: st) h Q ↔ gm_W E d 81 20 lv (gm_fv h a 5 :: st) h Q := gw_rd m81 f81_17 rfl rfl rfl rfl (gs_get k0_15 hk (by decide))
theorem f81_20 : gm_ft 81 20 = some (.aload_n 0, 1) := by decide +kernel
theorem r81_20 {E : Nat → Value} {d : Nat} {st : List Value} {h : gm_H} {Q : gm_R → gm_H → Prop}  {x : Nat} : gm_W E d 81 20 [.ref x] st h Q ↔ gm_W E d 81 21 [.ref x] (.ref x :: st) h Q := gw_loc m81 f81_20 rfl rfl
theorem r81_20n {E : Nat → Value} {d : Nat} {st : List Value} {h : gm_H} {Q : gm_R → gm_H → Prop}   : gm_W E d 81 20 [.null] st h Q ↔ gm_W E d 81 21 [.null] (.null :: st) h Q := gw_loc m81 f81_20 rfl rfl
theorem f81_21 : gm_ft 81 21 = some (.getfield 96, 3) := by decide +kernel
theorem r81_21 {E : Nat → Value} {d : Nat} {st : List Value} {h : gm_H} {Q : gm_R → gm_H → Prop} {lv : List Value} {a : Nat} (hk : gm_kd h a = 0) : gm_W E d 81 21 lv (.ref a :: st) h Q ↔ gm_W E d 81 24 lv (gm_fv h a 7 :: st) h Q := gw_rd m81 f81_21 rfl rfl rfl rfl (gs_get k0_96 hk (by decide))
theorem f81_24 : gm_ft 81 24 = some (.baload, 1) := by decide +kernel
theorem r81_24 {E : Nat → Value} {d : Nat} {st : List Value} {h : gm_H} {Q : gm_R → gm_H → Prop} {lv : List Value} {a j : Nat} (hk : (gm_kd h a % 100 = 2 ∨ gm_kd h a % 100 = 3) ∧ 100 ≤ gm_kd h a ∧ gm_kd h a < 900) (hj : j < gm_ln h a) (hl : gm_ln h a < 2 ^ 31) : gm_W E d 81 24 lv (.int (nI j) :: .ref a :: st) h Q ↔ gm_W E d 81 25 lv (gm_fv h a j :: st) h Q := gw_rd m81 f81_24 rfl rfl rfl rfl (gs_ld (P := fun t => t == 2 || t == 3) hk.2 (by have := hk.1; simp [this] <;> omega) hj hl)
theorem f81_25 : gm_ft 81 25 = some (.bipush 121, 2) := by decide +kernel
theorem r81_25 {E : Nat → Value} {d : Nat} {st : List Value} {h : gm_H} {Q : gm_R → gm_H → Prop} {lv : List Value} : gm_W E d 81 25 lv st h Q ↔ gm_W E d 81 27 lv (.int (121 : Int32) :: st) h Q := gw_pure m81 f81_25 rfl
theorem f81_27 : gm_ft 81 27 = some (.if_icmp .ne 37, 3) := by decide +kernel
theorem r81_27 {E : Nat → Value} {d : Nat} {st : List Value} {h : gm_H} {Q : gm_R → gm_H → Prop} {lv : List Value} {x y : Int32} : gm_W E d 81 27 lv (.int y :: .int x :: st) h Q ↔ (if x = y then gm_W E d 81 30 lv st h Q else gm_W E d 81 64 lv st h Q) := (gw_br m81 f81_27 rfl rfl rfl rfl).trans gw_ifn
theorem f81_30 : gm_ft 81 30 = some (.aload_n 0, 1) := by decide +kernel
theorem r81_30 {E : Nat → Value} {d : Nat} {st : List Value} {h : gm_H} {Q : gm_R → gm_H → Prop}  {x : Nat} : gm_W E d 81 30 [.ref x] st h Q ↔ gm_W E d 81 31 [.ref x] (.ref x :: st) h Q := gw_loc m81 f81_30 rfl rfl
theorem r81_30n {E : Nat → Value} {d : Nat} {st : List Value} {h : gm_H} {Q : gm_R → gm_H → Prop}   : gm_W E d 81 30 [.null] st h Q ↔ gm_W E d 81 31 [.null] (.null :: st) h Q := gw_loc m81 f81_30 rfl rfl
theorem f81_31 : gm_ft 81 31 = some (.getfield 28, 3) := by decide +kernel
theorem r81_31 {E : Nat → Value} {d : Nat} {st : List Value} {h : gm_H} {Q : gm_R → gm_H → Prop} {lv : List Value} {a : Nat} (hk : gm_kd h a = 0) : gm_W E d 81 31 lv (.ref a :: st) h Q ↔ gm_W E d 81 34 lv (gm_fv h a 10 :: st) h Q := gw_rd m81 f81_31 rfl rfl rfl rfl (gs_get k0_28 hk (by decide))
theorem f81_34 : gm_ft 81 34 = some (.aload_n 0, 1) := by decide +kernel
theorem r81_34 {E : Nat → Value} {d : Nat} {st : List Value} {h : gm_H} {Q : gm_R → gm_H → Prop}  {x : Nat} : gm_W E d 81 34 [.ref x] st h Q ↔ gm_W E d 81 35 [.ref x] (.ref x :: st) h Q := gw_loc m81 f81_34 rfl rfl
theorem r81_34n {E : Nat → Value} {d : Nat} {st : List Value} {h : gm_H} {Q : gm_R → gm_H → Prop}   : gm_W E d 81 34 [.null] st h Q ↔ gm_W E d 81 35 [.null] (.null :: st) h Q := gw_loc m81 f81_34 rfl rfl
theorem f81_35 : gm_ft 81 35 = some (.getfield 28, 3) := by decide +kernel
theorem r81_35 {E : Nat → Value} {d : Nat} {st : List Value} {h : gm_H} {Q : gm_R → gm_H → Prop} {lv : List Value} {a : Nat} (hk : gm_kd h a = 0) : gm_W E d 81 35 lv (.ref a :: st) h Q ↔ gm_W E d 81 38 lv (gm_fv h a 10 :: st) h Q := gw_rd m81 f81_35 rfl rfl rfl rfl (gs_get k0_28 hk (by decide))
theorem f81_38 : gm_ft 81 38 = some (.getfield 113, 3) := by decide +kernel
theorem r81_38 {E : Nat → Value} {d : Nat} {st : List Value} {h : gm_H} {Q : gm_R → gm_H → Prop} {lv : List Value} {a : Nat} (hk : gm_kd h a = 2) : gm_W E d 81 38 lv (.ref a :: st) h Q ↔ gm_W E d 81 41 lv (gm_fv h a 3 :: st) h Q := gw_rd m81 f81_38 rfl rfl rfl rfl (gs_get k0_113 hk (by decide))
theorem f81_41 : gm_ft 81 41 = some (.aload_n 0, 1) := by decide +kernel
theorem r81_41 {E : Nat → Value} {d : Nat} {st : List Value} {h : gm_H} {Q : gm_R → gm_H → Prop}  {x : Nat} : gm_W E d 81 41 [.ref x] st h Q ↔ gm_W E d 81 42 [.ref x] (.ref x :: st) h Q := gw_loc m81 f81_41 rfl rfl
theorem r81_41n {E : Nat → Value} {d : Nat} {st : List Value} {h : gm_H} {Q : gm_R → gm_H → Prop}   : gm_W E d 81 41 [.null] st h Q ↔ gm_W E d 81 42 [.null] (.null :: st) h Q := gw_loc m81 f81_41 rfl rfl
theorem f81_42 : gm_ft 81 42 = some (.getfield 28, 3) := by decide +kernel
theorem r81_42 {E : Nat → Value} {d : Nat} {st : List Value} {h : gm_H} {Q : gm_R → gm_H → Prop} {lv : List Value} {a : Nat} (hk : gm_kd h a = 0) : gm_W E d 81 42 lv (.ref a :: st) h Q ↔ gm_W E d 81 45 lv (gm_fv h a 10 :: st) h Q := gw_rd m81 f81_42 rfl rfl rfl rfl (gs_get k0_28 hk (by decide))
theorem f81_45 : gm_ft 81 45 = some (.getfield 113, 3) := by decide +kernel
theorem r81_45 {E : Nat → Value} {d : Nat} {st : List Value} {h : gm_H} {Q : gm_R → gm_H → Prop} {lv : List Value} {a : Nat} (hk : gm_kd h a = 2) : gm_W E d 81 45 lv (.ref a :: st) h Q ↔ gm_W E d 81 48 lv (gm_fv h a 3 :: st) h Q := gw_rd m81 f81_45 rfl rfl rfl rfl (gs_get k0_113 hk (by decide))
theorem f81_48 : gm_ft 81 48 = some (.invokevirtual 99, 3) := by decide +kernel
theorem c81_48 {E : Nat → Value} {d : Nat} {st : List Value} {h : gm_H} {Q : gm_R → gm_H → Prop} {lv : List Value} {b0 : Int32} {b1 : Int32} {a : Nat} {Qc : gm_R → gm_H → Prop} (hs : (st.map fun v => v.category).sum ≤ 8) (hr : gm_kd h a = 2) (hd : 1 ≤ d) (hc : gm_Ca E (d - 1) 112 [.ref a, .int b0, .int b1] h Qc) (kn : ∀ (v9 : Option Value) (h9 : gm_H), Qc (.inl v9) h9 → gm_W E d 81 51 lv (v9.toList ++ st) h9 Q) (kx : ∀ (x9 : Nat) (h9 : gm_H), Qc (.inr x9) h9 → Q (.inr x9) h9) : gm_W E d 81 48 lv (.int b1 :: .int b0 :: .ref a :: st) h Q := gw_call (gn_call m81 f81_48 rfl rfl rfl rfl rfl rfl rfl (gs_virt (bs := [.int b1, .int b0]) (w := 180) (L := 3) rfl rfl rfl rfl hs (by simp [gm_en1]) hr (by decide)) (by decide)) m81 rfl rfl hd hc kn kx
theorem f81_51 : gm_ft 81 51 = some (.aload_n 0, 1) := by decide +kernel
theorem r81_51 {E : Nat → Value} {d : Nat} {st : List Value} {h : gm_H} {Q : gm_R → gm_H → Prop}  {x : Nat} : gm_W E d 81 51 [.ref x] st h Q ↔ gm_W E d 81 52 [.ref x] (.ref x :: st) h Q := gw_loc m81 f81_51 rfl rfl
theorem r81_51n {E : Nat → Value} {d : Nat} {st : List Value} {h : gm_H} {Q : gm_R → gm_H → Prop}   : gm_W E d 81 51 [.null] st h Q ↔ gm_W E d 81 52 [.null] (.null :: st) h Q := gw_loc m81 f81_51 rfl rfl
theorem f81_52 : gm_ft 81 52 = some (.dup, 1) := by decide +kernel
theorem r81_52 {E : Nat → Value} {d : Nat} {st : List Value} {h : gm_H} {Q : gm_R → gm_H → Prop} {lv : List Value} {a : Nat} : gm_W E d 81 52 lv (.ref a :: st) h Q ↔ gm_W E d 81 53 lv (.ref a :: .ref a :: st) h Q := gw_pure m81 f81_52 rfl
theorem r81_52i {E : Nat → Value} {d : Nat} {st : List Value} {h : gm_H} {Q : gm_R → gm_H → Prop} {lv : List Value} {x : Int32} : gm_W E d 81 52 lv (.int x :: st) h Q ↔ gm_W E d 81 53 lv (.int x :: .int x :: st) h Q := gw_pure m81 f81_52 rfl
theorem f81_53 : gm_ft 81 53 = some (.getfield 96, 3) := by decide +kernel
theorem r81_53 {E : Nat → Value} {d : Nat} {st : List Value} {h : gm_H} {Q : gm_R → gm_H → Prop} {lv : List Value} {a : Nat} (hk : gm_kd h a = 0) : gm_W E d 81 53 lv (.ref a :: st) h Q ↔ gm_W E d 81 56 lv (gm_fv h a 7 :: st) h Q := gw_rd m81 f81_53 rfl rfl rfl rfl (gs_get k0_96 hk (by decide))
theorem f81_56 : gm_ft 81 56 = some (.iconst 1, 1) := by decide +kernel
theorem r81_56 {E : Nat → Value} {d : Nat} {st : List Value} {h : gm_H} {Q : gm_R → gm_H → Prop} {lv : List Value} : gm_W E d 81 56 lv st h Q ↔ gm_W E d 81 57 lv (.int (1 : Int32) :: st) h Q := gw_pure m81 f81_56 rfl
theorem f81_57 : gm_ft 81 57 = some (.iadd, 1) := by decide +kernel
theorem r81_57 {E : Nat → Value} {d : Nat} {st : List Value} {h : gm_H} {Q : gm_R → gm_H → Prop} {lv : List Value} {x y : Int32} : gm_W E d 81 57 lv (.int y :: .int x :: st) h Q ↔ gm_W E d 81 58 lv (.int (x + y) :: st) h Q := gw_pure m81 f81_57 rfl
theorem f81_58 : gm_ft 81 58 = some (.putfield 96, 3) := by decide +kernel
theorem r81_58 {E : Nat → Value} {d : Nat} {st : List Value} {h : gm_H} {Q : gm_R → gm_H → Prop} {lv : List Value} {a : Nat} {x : Int32} (hk : gm_kd h a = 0) : gm_W E d 81 58 lv (.int x :: .ref a :: st) h Q ↔ gm_W E d 81 61 lv st (gm_sf h a 7 (.int x)) Q := gw_wr m81 f81_58 rfl rfl rfl rfl rfl (gs_put k0_96 hk (by decide) (by decide) ⟨rfl, rfl⟩ (by decide))
theorem f81_61 : gm_ft 81 61 = some (.goto (-56), 3) := by decide +kernel
theorem r81_61 {E : Nat → Value} {d : Nat} {st : List Value} {h : gm_H} {Q : gm_R → gm_H → Prop} {lv : List Value} : gm_W E d 81 61 lv st h Q ↔ gm_W E d 81 5 lv st h Q := gw_brT m81 f81_61 rfl rfl rfl rfl
theorem f81_64 : gm_ft 81 64 = some (.aload_n 0, 1) := by decide +kernel
theorem r81_64 {E : Nat → Value} {d : Nat} {st : List Value} {h : gm_H} {Q : gm_R → gm_H → Prop}  {x : Nat} : gm_W E d 81 64 [.ref x] st h Q ↔ gm_W E d 81 65 [.ref x] (.ref x :: st) h Q := gw_loc m81 f81_64 rfl rfl
theorem r81_64n {E : Nat → Value} {d : Nat} {st : List Value} {h : gm_H} {Q : gm_R → gm_H → Prop}   : gm_W E d 81 64 [.null] st h Q ↔ gm_W E d 81 65 [.null] (.null :: st) h Q := gw_loc m81 f81_64 rfl rfl
theorem f81_65 : gm_ft 81 65 = some (.iconst 1, 1) := by decide +kernel
theorem r81_65 {E : Nat → Value} {d : Nat} {st : List Value} {h : gm_H} {Q : gm_R → gm_H → Prop} {lv : List Value} : gm_W E d 81 65 lv st h Q ↔ gm_W E d 81 66 lv (.int (1 : Int32) :: st) h Q := gw_pure m81 f81_65 rfl
theorem f81_66 : gm_ft 81 66 = some (.invokevirtual 182, 3) := by decide +kernel
theorem c81_66 {E : Nat → Value} {d : Nat} {st : List Value} {h : gm_H} {Q : gm_R → gm_H → Prop} {lv : List Value} {b0 : Int32} {a : Nat} {Qc : gm_R → gm_H → Prop} (hs : (st.map fun v => v.category).sum ≤ 8) (hr : gm_kd h a = 0) (hd : 1 ≤ d) (hc : gm_Ca E (d - 1) 82 [.ref a, .int b0] h Qc) (kn : ∀ (v9 : Option Value) (h9 : gm_H), Qc (.inl v9) h9 → gm_W E d 81 69 lv (v9.toList ++ st) h9 Q) (kx : ∀ (x9 : Nat) (h9 : gm_H), Qc (.inr x9) h9 → Q (.inr x9) h9) : gm_W E d 81 66 lv (.int b0 :: .ref a :: st) h Q := gw_call (gn_call m81 f81_66 rfl rfl rfl rfl rfl rfl rfl (gs_virt (bs := [.int b0]) (w := 270) (L := 2) rfl rfl rfl rfl hs (by simp [gm_en1]) hr (by decide)) (by decide)) m81 rfl rfl hd hc kn kx
theorem f81_69 : gm_ft 81 69 = some (.ireturn, 1) := by decide +kernel
theorem r81_69 {E : Nat → Value} {d : Nat} {h : gm_H} {Q : gm_R → gm_H → Prop} {lv : List Value} {x : Int32} : gm_W E d 81 69 lv [.int x] h Q ↔ Q (.inl (some (.int x))) h := gw_ret m81 f81_69 rfl rfl rfl rfl rfl rfl rfl rfl (by unfold gm_rt; dsimp only; rw [if_pos ⟨rfl, rfl⟩])
/-! GraphReader.readContent(I)I -/
theorem m82 : gm_mt[82]? = some (⟨"GraphReader", "readContent", "(I)I"⟩, prog_1_method_32_code, 2, (some .int), [], 0, 1) := rfl
theorem f82_0 : gm_ft 82 0 = some (.aload_n 0, 1) := by decide +kernel
theorem r82_0 {E : Nat → Value} {d : Nat} {st : List Value} {h : gm_H} {Q : gm_R → gm_H → Prop} {a1 : Value} {x : Nat} : gm_W E d 82 0 [.ref x, a1] st h Q ↔ gm_W E d 82 1 [.ref x, a1] (.ref x :: st) h Q := gw_loc m82 f82_0 rfl rfl
theorem r82_0n {E : Nat → Value} {d : Nat} {st : List Value} {h : gm_H} {Q : gm_R → gm_H → Prop} {a1 : Value}  : gm_W E d 82 0 [.null, a1] st h Q ↔ gm_W E d 82 1 [.null, a1] (.null :: st) h Q := gw_loc m82 f82_0 rfl rfl
theorem f82_1 : gm_ft 82 1 = some (.iload_n 1, 1) := by decide +kernel
theorem r82_1 {E : Nat → Value} {d : Nat} {st : List Value} {h : gm_H} {Q : gm_R → gm_H → Prop} {a0 : Value} {x : Int32} : gm_W E d 82 1 [a0, .int x] st h Q ↔ gm_W E d 82 2 [a0, .int x] (.int x :: st) h Q := gw_loc m82 f82_1 rfl rfl
theorem f82_2 : gm_ft 82 2 = some (.invokevirtual 191, 3) := by decide +kernel
theorem c82_2 {E : Nat → Value} {d : Nat} {st : List Value} {h : gm_H} {Q : gm_R → gm_H → Prop} {lv : List Value} {b0 : Int32} {a : Nat} {Qc : gm_R → gm_H → Prop} (hs : (st.map fun v => v.category).sum ≤ 8) (hr : gm_kd h a = 0) (hd : 1 ≤ d) (hc : gm_Ca E (d - 1) 79 [.ref a, .int b0] h Qc) (kn : ∀ (v9 : Option Value) (h9 : gm_H), Qc (.inl v9) h9 → gm_W E d 82 5 lv (v9.toList ++ st) h9 Q) (kx : ∀ (x9 : Nat) (h9 : gm_H), Qc (.inr x9) h9 → Q (.inr x9) h9) : gm_W E d 82 2 lv (.int b0 :: .ref a :: st) h Q := gw_call (gn_call m82 f82_2 rfl rfl rfl rfl rfl rfl rfl (gs_virt (bs := [.int b0]) (w := 198) (L := 2) rfl rfl rfl rfl hs (by simp [gm_en1]) hr (by decide)) (by decide)) m82 rfl rfl hd hc kn kx
theorem f82_5 : gm_ft 82 5 = some (.aload_n 0, 1) := by decide +kernel
theorem r82_5 {E : Nat → Value} {d : Nat} {st : List Value} {h : gm_H} {Q : gm_R → gm_H → Prop} {a1 : Value} {x : Nat} : gm_W E d 82 5 [.ref x, a1] st h Q ↔ gm_W E d 82 6 [.ref x, a1] (.ref x :: st) h Q := gw_loc m82 f82_5 rfl rfl
theorem r82_5n {E : Nat → Value} {d : Nat} {st : List Value} {h : gm_H} {Q : gm_R → gm_H → Prop} {a1 : Value}  : gm_W E d 82 5 [.null, a1] st h Q ↔ gm_W E d 82 6 [.null, a1] (.null :: st) h Q := gw_loc m82 f82_5 rfl rfl
theorem f82_6 : gm_ft 82 6 = some (.invokevirtual 176, 3) := by decide +kernel
theorem c82_6 {E : Nat → Value} {d : Nat} {st : List Value} {h : gm_H} {Q : gm_R → gm_H → Prop} {lv : List Value} {a : Nat} {Qc : gm_R → gm_H → Prop} (hs : (st.map fun v => v.category).sum ≤ 8) (hr : gm_kd h a = 0) (hd : 1 ≤ d) (hc : gm_Ca E (d - 1) 69 [.ref a] h Qc) (kn : ∀ (v9 : Option Value) (h9 : gm_H), Qc (.inl v9) h9 → gm_W E d 82 9 lv (v9.toList ++ st) h9 Q) (kx : ∀ (x9 : Nat) (h9 : gm_H), Qc (.inr x9) h9 → Q (.inr x9) h9) : gm_W E d 82 6 lv (.ref a :: st) h Q := gw_call (gn_call m82 f82_6 rfl rfl rfl rfl rfl rfl rfl (gs_virt (bs := []) (w := 274) (L := 1) rfl rfl rfl rfl hs (by simp [gm_en1]) hr (by decide)) (by decide)) m82 rfl rfl hd hc kn kx
theorem f82_9 : gm_ft 82 9 = some (.tableswitch 150 112 126 #[75, 78, 83, 103, 109, 114, 150, 126, 126, 150, 126, 143, 150, 150, 120], 75) := by decide +kernel
theorem e82_9d {E : Nat → Value} {d : Nat} {st : List Value} {h : gm_H} {Q : gm_R → gm_H → Prop} {lv : List Value} {x : Int32} (hx : x.toInt < 112 ∨ 126 < x.toInt) : gm_W E d 82 9 lv (.int x :: st) h Q ↔ gm_W E d 82 159 lv st h Q := gw_sw m82 f82_9 rfl rfl rfl (by unfold gm_sw; dsimp only; rw [if_pos hx]) rfl
theorem r82_9 {E : Nat → Value} {d : Nat} {st : List Value} {h : gm_H} {Q : gm_R → gm_H → Prop} {lv : List Value} {x : Int32} : gm_W E d 82 9 lv (.int x :: st) h Q ↔ (if x = (112 : Int32) then gm_W E d 82 84 lv st h Q else (if x = (113 : Int32) then gm_W E d 82 87 lv st h Q else (if x = (114 : Int32) then gm_W E d 82 92 lv st h Q else (if x = (115 : Int32) then gm_W E d 82 112 lv st h Q else (if x = (116 : Int32) then gm_W E d 82 118 lv st h Q else (if x = (117 : Int32) then gm_W E d 82 123 lv st h Q else (if x = (118 : Int32) then gm_W E d 82 159 lv st h Q else (if x = (119 : Int32) then gm_W E d 82 135 lv st h Q else (if x = (120 : Int32) then gm_W E d 82 135 lv st h Q else (if x = (121 : Int32) then gm_W E d 82 159 lv st h Q else (if x = (122 : Int32) then gm_W E d 82 135 lv st h Q else (if x = (123 : Int32) then gm_W E d 82 152 lv st h Q else (if x = (124 : Int32) then gm_W E d 82 159 lv st h Q else (if x = (125 : Int32) then gm_W E d 82 159 lv st h Q else (if x = (126 : Int32) then gm_W E d 82 129 lv st h Q else gm_W E d 82 159 lv st h Q))))))))))))))) := by
  by_cases z0 : x = (112 : Int32)
  · subst z0; rw [gw_sw m82 f82_9 rfl rfl rfl rfl rfl]; simp
  rw [if_neg z0]
  by_cases z1 : x = (113 : Int32)
  · subst z1; rw [gw_sw m82 f82_9 rfl rfl rfl rfl rfl]; simp
  rw [if_neg z1]
  by_cases z2 : x = (114 : Int32)
  · subst z2; rw [gw_sw m82 f82_9 rfl rfl rfl rfl rfl]; simp
  rw [if_neg z2]
  by_cases z3 : x = (115 : Int32)
  · subst z3; rw [gw_sw m82 f82_9 rfl rfl rfl rfl rfl]; simp
  rw [if_neg z3]
  by_cases z4 : x = (116 : Int32)
  · subst z4; rw [gw_sw m82 f82_9 rfl rfl rfl rfl rfl]; simp
  rw [if_neg z4]
  by_cases z5 : x = (117 : Int32)
  · subst z5; rw [gw_sw m82 f82_9 rfl rfl rfl rfl rfl]; simp
  rw [if_neg z5]
  by_cases z6 : x = (118 : Int32)
  · subst z6; rw [gw_sw m82 f82_9 rfl rfl rfl rfl rfl]; simp
  rw [if_neg z6]
  by_cases z7 : x = (119 : Int32)
  · subst z7; rw [gw_sw m82 f82_9 rfl rfl rfl rfl rfl]; simp
  rw [if_neg z7]
  by_cases z8 : x = (120 : Int32)
  · subst z8; rw [gw_sw m82 f82_9 rfl rfl rfl rfl rfl]; simp
  rw [if_neg z8]
  by_cases z9 : x = (121 : Int32)
  · subst z9; rw [gw_sw m82 f82_9 rfl rfl rfl rfl rfl]; simp
  rw [if_neg z9]
  by_cases z10 : x = (122 : Int32)
  · subst z10; rw [gw_sw m82 f82_9 rfl rfl rfl rfl rfl]; simp
  rw [if_neg z10]
  by_cases z11 : x = (123 : Int32)
  · subst z11; rw [gw_sw m82 f82_9 rfl rfl rfl rfl rfl]; simp
  rw [if_neg z11]
  by_cases z12 : x = (124 : Int32)
  · subst z12; rw [gw_sw m82 f82_9 rfl rfl rfl rfl rfl]; simp
  rw [if_neg z12]
  by_cases z13 : x = (125 : Int32)
  · subst z13; rw [gw_sw m82 f82_9 rfl rfl rfl rfl rfl]; simp
  rw [if_neg z13]
  by_cases z14 : x = (126 : Int32)
  · subst z14; rw [gw_sw m82 f82_9 rfl rfl rfl rfl rfl]; simp
  rw [if_neg z14]
  exact e82_9d (gm_tsw (n := 15) (by decide) (by decide) (fun k hk => by
    have hk : k < 15 := hk
    match k, hk with
    | 0, _ => exact z0
    | 1, _ => exact z1
    | 2, _ => exact z2
    | 3, _ => exact z3
    | 4, _ => exact z4
    | 5, _ => exact z5
    | 6, _ => exact z6
    | 7, _ => exact z7
    | 8, _ => exact z8
    | 9, _ => exact z9
    | 10, _ => exact z10
    | 11, _ => exact z11
    | 12, _ => exact z12
    | 13, _ => exact z13
    | 14, _ => exact z14
    | k + 15, hk => omega))
theorem f82_84 : gm_ft 82 84 = some (.bipush (-2), 2) := by decide +kernel
theorem r82_84 {E : Nat → Value} {d : Nat} {st : List Value} {h : gm_H} {Q : gm_R → gm_H → Prop} {lv : List Value} : gm_W E d 82 84 lv st h Q ↔ gm_W E d 82 86 lv (.int (-2 : Int32) :: st) h Q := gw_pure m82 f82_84 rfl
theorem f82_86 : gm_ft 82 86 = some (.ireturn, 1) := by decide +kernel
theorem r82_86 {E : Nat → Value} {d : Nat} {h : gm_H} {Q : gm_R → gm_H → Prop} {lv : List Value} {x : Int32} : gm_W E d 82 86 lv [.int x] h Q ↔ Q (.inl (some (.int x))) h := gw_ret m82 f82_86 rfl rfl rfl rfl rfl rfl rfl rfl (by unfold gm_rt; dsimp only; rw [if_pos ⟨rfl, rfl⟩])
theorem f82_87 : gm_ft 82 87 = some (.aload_n 0, 1) := by decide +kernel
theorem r82_87 {E : Nat → Value} {d : Nat} {st : List Value} {h : gm_H} {Q : gm_R → gm_H → Prop} {a1 : Value} {x : Nat} : gm_W E d 82 87 [.ref x, a1] st h Q ↔ gm_W E d 82 88 [.ref x, a1] (.ref x :: st) h Q := gw_loc m82 f82_87 rfl rfl
theorem r82_87n {E : Nat → Value} {d : Nat} {st : List Value} {h : gm_H} {Q : gm_R → gm_H → Prop} {a1 : Value}  : gm_W E d 82 87 [.null, a1] st h Q ↔ gm_W E d 82 88 [.null, a1] (.null :: st) h Q := gw_loc m82 f82_87 rfl rfl
theorem f82_88 : gm_ft 82 88 = some (.invokevirtual 195, 3) := by decide +kernel
theorem c82_88 {E : Nat → Value} {d : Nat} {st : List Value} {h : gm_H} {Q : gm_R → gm_H → Prop} {lv : List Value} {a : Nat} {Qc : gm_R → gm_H → Prop} (hs : (st.map fun v => v.category).sum ≤ 8) (hr : gm_kd h a = 0) (hd : 1 ≤ d) (hc : gm_Ca E (d - 1) 84 [.ref a] h Qc) (kn : ∀ (v9 : Option Value) (h9 : gm_H), Qc (.inl v9) h9 → gm_W E d 82 91 lv (v9.toList ++ st) h9 Q) (kx : ∀ (x9 : Nat) (h9 : gm_H), Qc (.inr x9) h9 → Q (.inr x9) h9) : gm_W E d 82 88 lv (.ref a :: st) h Q := gw_call (gn_call m82 f82_88 rfl rfl rfl rfl rfl rfl rfl (gs_virt (bs := []) (w := 282) (L := 2) rfl rfl rfl rfl hs (by simp [gm_en1]) hr (by decide)) (by decide)) m82 rfl rfl hd hc kn kx
theorem f82_91 : gm_ft 82 91 = some (.ireturn, 1) := by decide +kernel
theorem r82_91 {E : Nat → Value} {d : Nat} {h : gm_H} {Q : gm_R → gm_H → Prop} {lv : List Value} {x : Int32} : gm_W E d 82 91 lv [.int x] h Q ↔ Q (.inl (some (.int x))) h := gw_ret m82 f82_91 rfl rfl rfl rfl rfl rfl rfl rfl (by unfold gm_rt; dsimp only; rw [if_pos ⟨rfl, rfl⟩])
theorem f82_92 : gm_ft 82 92 = some (.aload_n 0, 1) := by decide +kernel
theorem r82_92 {E : Nat → Value} {d : Nat} {st : List Value} {h : gm_H} {Q : gm_R → gm_H → Prop} {a1 : Value} {x : Nat} : gm_W E d 82 92 [.ref x, a1] st h Q ↔ gm_W E d 82 93 [.ref x, a1] (.ref x :: st) h Q := gw_loc m82 f82_92 rfl rfl
theorem r82_92n {E : Nat → Value} {d : Nat} {st : List Value} {h : gm_H} {Q : gm_R → gm_H → Prop} {a1 : Value}  : gm_W E d 82 92 [.null, a1] st h Q ↔ gm_W E d 82 93 [.null, a1] (.null :: st) h Q := gw_loc m82 f82_92 rfl rfl
theorem f82_93 : gm_ft 82 93 = some (.dup, 1) := by decide +kernel
theorem r82_93 {E : Nat → Value} {d : Nat} {st : List Value} {h : gm_H} {Q : gm_R → gm_H → Prop} {lv : List Value} {a : Nat} : gm_W E d 82 93 lv (.ref a :: st) h Q ↔ gm_W E d 82 94 lv (.ref a :: .ref a :: st) h Q := gw_pure m82 f82_93 rfl
theorem r82_93i {E : Nat → Value} {d : Nat} {st : List Value} {h : gm_H} {Q : gm_R → gm_H → Prop} {lv : List Value} {x : Int32} : gm_W E d 82 93 lv (.int x :: st) h Q ↔ gm_W E d 82 94 lv (.int x :: .int x :: st) h Q := gw_pure m82 f82_93 rfl
theorem f82_94 : gm_ft 82 94 = some (.getfield 96, 3) := by decide +kernel
theorem r82_94 {E : Nat → Value} {d : Nat} {st : List Value} {h : gm_H} {Q : gm_R → gm_H → Prop} {lv : List Value} {a : Nat} (hk : gm_kd h a = 0) : gm_W E d 82 94 lv (.ref a :: st) h Q ↔ gm_W E d 82 97 lv (gm_fv h a 7 :: st) h Q := gw_rd m82 f82_94 rfl rfl rfl rfl (gs_get k0_96 hk (by decide))
theorem f82_97 : gm_ft 82 97 = some (.iconst 1, 1) := by decide +kernel
theorem r82_97 {E : Nat → Value} {d : Nat} {st : List Value} {h : gm_H} {Q : gm_R → gm_H → Prop} {lv : List Value} : gm_W E d 82 97 lv st h Q ↔ gm_W E d 82 98 lv (.int (1 : Int32) :: st) h Q := gw_pure m82 f82_97 rfl
theorem f82_98 : gm_ft 82 98 = some (.isub, 1) := by decide +kernel
theorem r82_98 {E : Nat → Value} {d : Nat} {st : List Value} {h : gm_H} {Q : gm_R → gm_H → Prop} {lv : List Value} {x y : Int32} : gm_W E d 82 98 lv (.int y :: .int x :: st) h Q ↔ gm_W E d 82 99 lv (.int (x - y) :: st) h Q := gw_pure m82 f82_98 rfl
theorem f82_99 : gm_ft 82 99 = some (.putfield 96, 3) := by decide +kernel
theorem r82_99 {E : Nat → Value} {d : Nat} {st : List Value} {h : gm_H} {Q : gm_R → gm_H → Prop} {lv : List Value} {a : Nat} {x : Int32} (hk : gm_kd h a = 0) : gm_W E d 82 99 lv (.int x :: .ref a :: st) h Q ↔ gm_W E d 82 102 lv st (gm_sf h a 7 (.int x)) Q := gw_wr m82 f82_99 rfl rfl rfl rfl rfl (gs_put k0_96 hk (by decide) (by decide) ⟨rfl, rfl⟩ (by decide))
theorem f82_102 : gm_ft 82 102 = some (.aload_n 0, 1) := by decide +kernel
theorem r82_102 {E : Nat → Value} {d : Nat} {st : List Value} {h : gm_H} {Q : gm_R → gm_H → Prop} {a1 : Value} {x : Nat} : gm_W E d 82 102 [.ref x, a1] st h Q ↔ gm_W E d 82 103 [.ref x, a1] (.ref x :: st) h Q := gw_loc m82 f82_102 rfl rfl
theorem r82_102n {E : Nat → Value} {d : Nat} {st : List Value} {h : gm_H} {Q : gm_R → gm_H → Prop} {a1 : Value}  : gm_W E d 82 102 [.null, a1] st h Q ↔ gm_W E d 82 103 [.null, a1] (.null :: st) h Q := gw_loc m82 f82_102 rfl rfl
theorem f82_103 : gm_ft 82 103 = some (.iload_n 1, 1) := by decide +kernel
theorem r82_103 {E : Nat → Value} {d : Nat} {st : List Value} {h : gm_H} {Q : gm_R → gm_H → Prop} {a0 : Value} {x : Int32} : gm_W E d 82 103 [a0, .int x] st h Q ↔ gm_W E d 82 104 [a0, .int x] (.int x :: st) h Q := gw_loc m82 f82_103 rfl rfl
theorem f82_104 : gm_ft 82 104 = some (.iconst 1, 1) := by decide +kernel
theorem r82_104 {E : Nat → Value} {d : Nat} {st : List Value} {h : gm_H} {Q : gm_R → gm_H → Prop} {lv : List Value} : gm_W E d 82 104 lv st h Q ↔ gm_W E d 82 105 lv (.int (1 : Int32) :: st) h Q := gw_pure m82 f82_104 rfl
theorem f82_105 : gm_ft 82 105 = some (.invokevirtual 198, 3) := by decide +kernel
theorem c82_105 {E : Nat → Value} {d : Nat} {st : List Value} {h : gm_H} {Q : gm_R → gm_H → Prop} {lv : List Value} {b0 : Int32} {b1 : Int32} {a : Nat} {Qc : gm_R → gm_H → Prop} (hs : (st.map fun v => v.category).sum ≤ 8) (hr : gm_kd h a = 0) (hd : 1 ≤ d) (hc : gm_Ca E (d - 1) 97 [.ref a, .int b0, .int b1] h Qc) (kn : ∀ (v9 : Option Value) (h9 : gm_H), Qc (.inl v9) h9 → gm_W E d 82 108 lv (v9.toList ++ st) h9 Q) (kx : ∀ (x9 : Nat) (h9 : gm_H), Qc (.inr x9) h9 → Q (.inr x9) h9) : gm_W E d 82 105 lv (.int b1 :: .int b0 :: .ref a :: st) h Q := gw_call (gn_call m82 f82_105 rfl rfl rfl rfl rfl rfl rfl (gs_virt (bs := [.int b1, .int b0]) (w := 295) (L := 8) rfl rfl rfl rfl hs (by simp [gm_en1]) hr (by decide)) (by decide)) m82 rfl rfl hd hc kn kx
theorem f82_108 : gm_ft 82 108 = some (.pop, 1) := by decide +kernel
theorem r82_108 {E : Nat → Value} {d : Nat} {st : List Value} {h : gm_H} {Q : gm_R → gm_H → Prop} {lv : List Value} {x : Int32} : gm_W E d 82 108 lv (.int x :: st) h Q ↔ gm_W E d 82 109 lv st h Q := gw_pure m82 f82_108 rfl
theorem r82_108a {E : Nat → Value} {d : Nat} {st : List Value} {h : gm_H} {Q : gm_R → gm_H → Prop} {lv : List Value} {a : Nat} : gm_W E d 82 108 lv (.ref a :: st) h Q ↔ gm_W E d 82 109 lv st h Q := gw_pure m82 f82_108 rfl
theorem r82_108n {E : Nat → Value} {d : Nat} {st : List Value} {h : gm_H} {Q : gm_R → gm_H → Prop} {lv : List Value} : gm_W E d 82 108 lv (.null :: st) h Q ↔ gm_W E d 82 109 lv st h Q := gw_pure m82 f82_108 rfl
theorem f82_109 : gm_ft 82 109 = some (.bipush (-2), 2) := by decide +kernel
theorem r82_109 {E : Nat → Value} {d : Nat} {st : List Value} {h : gm_H} {Q : gm_R → gm_H → Prop} {lv : List Value} : gm_W E d 82 109 lv st h Q ↔ gm_W E d 82 111 lv (.int (-2 : Int32) :: st) h Q := gw_pure m82 f82_109 rfl
theorem f82_111 : gm_ft 82 111 = some (.ireturn, 1) := by decide +kernel
theorem r82_111 {E : Nat → Value} {d : Nat} {h : gm_H} {Q : gm_R → gm_H → Prop} {lv : List Value} {x : Int32} : gm_W E d 82 111 lv [.int x] h Q ↔ Q (.inl (some (.int x))) h := gw_ret m82 f82_111 rfl rfl rfl rfl rfl rfl rfl rfl (by unfold gm_rt; dsimp only; rw [if_pos ⟨rfl, rfl⟩])
theorem f82_112 : gm_ft 82 112 = some (.aload_n 0, 1) := by decide +kernel
theorem r82_112 {E : Nat → Value} {d : Nat} {st : List Value} {h : gm_H} {Q : gm_R → gm_H → Prop} {a1 : Value} {x : Nat} : gm_W E d 82 112 [.ref x, a1] st h Q ↔ gm_W E d 82 113 [.ref x, a1] (.ref x :: st) h Q := gw_loc m82 f82_112 rfl rfl
theorem r82_112n {E : Nat → Value} {d : Nat} {st : List Value} {h : gm_H} {Q : gm_R → gm_H → Prop} {a1 : Value}  : gm_W E d 82 112 [.null, a1] st h Q ↔ gm_W E d 82 113 [.null, a1] (.null :: st) h Q := gw_loc m82 f82_112 rfl rfl
theorem f82_113 : gm_ft 82 113 = some (.iload_n 1, 1) := by decide +kernel
theorem r82_113 {E : Nat → Value} {d : Nat} {st : List Value} {h : gm_H} {Q : gm_R → gm_H → Prop} {a0 : Value} {x : Int32} : gm_W E d 82 113 [a0, .int x] st h Q ↔ gm_W E d 82 114 [a0, .int x] (.int x :: st) h Q := gw_loc m82 f82_113 rfl rfl
theorem f82_114 : gm_ft 82 114 = some (.invokevirtual 202, 3) := by decide +kernel
theorem c82_114 {E : Nat → Value} {d : Nat} {st : List Value} {h : gm_H} {Q : gm_R → gm_H → Prop} {lv : List Value} {b0 : Int32} {a : Nat} {Qc : gm_R → gm_H → Prop} (hs : (st.map fun v => v.category).sum ≤ 8) (hr : gm_kd h a = 0) (hd : 1 ≤ d) (hc : gm_Ca E (d - 1) 90 [.ref a, .int b0] h Qc) (kn : ∀ (v9 : Option Value) (h9 : gm_H), Qc (.inl v9) h9 → gm_W E d 82 117 lv (v9.toList ++ st) h9 Q) (kx : ∀ (x9 : Nat) (h9 : gm_H), Qc (.inr x9) h9 → Q (.inr x9) h9) : gm_W E d 82 114 lv (.int b0 :: .ref a :: st) h Q := gw_call (gn_call m82 f82_114 rfl rfl rfl rfl rfl rfl rfl (gs_virt (bs := [.int b0]) (w := 501) (L := 8) rfl rfl rfl rfl hs (by simp [gm_en1]) hr (by decide)) (by decide)) m82 rfl rfl hd hc kn kx
theorem f82_117 : gm_ft 82 117 = some (.ireturn, 1) := by decide +kernel
theorem r82_117 {E : Nat → Value} {d : Nat} {h : gm_H} {Q : gm_R → gm_H → Prop} {lv : List Value} {x : Int32} : gm_W E d 82 117 lv [.int x] h Q ↔ Q (.inl (some (.int x))) h := gw_ret m82 f82_117 rfl rfl rfl rfl rfl rfl rfl rfl (by unfold gm_rt; dsimp only; rw [if_pos ⟨rfl, rfl⟩])
theorem f82_118 : gm_ft 82 118 = some (.aload_n 0, 1) := by decide +kernel
theorem r82_118 {E : Nat → Value} {d : Nat} {st : List Value} {h : gm_H} {Q : gm_R → gm_H → Prop} {a1 : Value} {x : Nat} : gm_W E d 82 118 [.ref x, a1] st h Q ↔ gm_W E d 82 119 [.ref x, a1] (.ref x :: st) h Q := gw_loc m82 f82_118 rfl rfl
theorem r82_118n {E : Nat → Value} {d : Nat} {st : List Value} {h : gm_H} {Q : gm_R → gm_H → Prop} {a1 : Value}  : gm_W E d 82 118 [.null, a1] st h Q ↔ gm_W E d 82 119 [.null, a1] (.null :: st) h Q := gw_loc m82 f82_118 rfl rfl
theorem f82_119 : gm_ft 82 119 = some (.invokevirtual 205, 3) := by decide +kernel
theorem c82_119 {E : Nat → Value} {d : Nat} {st : List Value} {h : gm_H} {Q : gm_R → gm_H → Prop} {lv : List Value} {a : Nat} {Qc : gm_R → gm_H → Prop} (hs : (st.map fun v => v.category).sum ≤ 8) (hr : gm_kd h a = 0) (hd : 1 ≤ d) (hc : gm_Ca E (d - 1) 85 [.ref a] h Qc) (kn : ∀ (v9 : Option Value) (h9 : gm_H), Qc (.inl v9) h9 → gm_W E d 82 122 lv (v9.toList ++ st) h9 Q) (kx : ∀ (x9 : Nat) (h9 : gm_H), Qc (.inr x9) h9 → Q (.inr x9) h9) : gm_W E d 82 119 lv (.ref a :: st) h Q := gw_call (gn_call m82 f82_119 rfl rfl rfl rfl rfl rfl rfl (gs_virt (bs := []) (w := 593) (L := 5) rfl rfl rfl rfl hs (by simp [gm_en1]) hr (by decide)) (by decide)) m82 rfl rfl hd hc kn kx
theorem f82_122 : gm_ft 82 122 = some (.ireturn, 1) := by decide +kernel
theorem r82_122 {E : Nat → Value} {d : Nat} {h : gm_H} {Q : gm_R → gm_H → Prop} {lv : List Value} {x : Int32} : gm_W E d 82 122 lv [.int x] h Q ↔ Q (.inl (some (.int x))) h := gw_ret m82 f82_122 rfl rfl rfl rfl rfl rfl rfl rfl (by unfold gm_rt; dsimp only; rw [if_pos ⟨rfl, rfl⟩])
theorem f82_123 : gm_ft 82 123 = some (.aload_n 0, 1) := by decide +kernel
theorem r82_123 {E : Nat → Value} {d : Nat} {st : List Value} {h : gm_H} {Q : gm_R → gm_H → Prop} {a1 : Value} {x : Nat} : gm_W E d 82 123 [.ref x, a1] st h Q ↔ gm_W E d 82 124 [.ref x, a1] (.ref x :: st) h Q := gw_loc m82 f82_123 rfl rfl
theorem r82_123n {E : Nat → Value} {d : Nat} {st : List Value} {h : gm_H} {Q : gm_R → gm_H → Prop} {a1 : Value}  : gm_W E d 82 123 [.null, a1] st h Q ↔ gm_W E d 82 124 [.null, a1] (.null :: st) h Q := gw_loc m82 f82_123 rfl rfl
theorem f82_124 : gm_ft 82 124 = some (.iload_n 1, 1) := by decide +kernel
theorem r82_124 {E : Nat → Value} {d : Nat} {st : List Value} {h : gm_H} {Q : gm_R → gm_H → Prop} {a0 : Value} {x : Int32} : gm_W E d 82 124 [a0, .int x] st h Q ↔ gm_W E d 82 125 [a0, .int x] (.int x :: st) h Q := gw_loc m82 f82_124 rfl rfl
theorem f82_125 : gm_ft 82 125 = some (.invokevirtual 208, 3) := by decide +kernel
theorem c82_125 {E : Nat → Value} {d : Nat} {st : List Value} {h : gm_H} {Q : gm_R → gm_H → Prop} {lv : List Value} {b0 : Int32} {a : Nat} {Qc : gm_R → gm_H → Prop} (hs : (st.map fun v => v.category).sum ≤ 8) (hr : gm_kd h a = 0) (hd : 1 ≤ d) (hc : gm_Ca E (d - 1) 86 [.ref a, .int b0] h Qc) (kn : ∀ (v9 : Option Value) (h9 : gm_H), Qc (.inl v9) h9 → gm_W E d 82 128 lv (v9.toList ++ st) h9 Q) (kx : ∀ (x9 : Nat) (h9 : gm_H), Qc (.inr x9) h9 → Q (.inr x9) h9) : gm_W E d 82 125 lv (.int b0 :: .ref a :: st) h Q := gw_call (gn_call m82 f82_125 rfl rfl rfl rfl rfl rfl rfl (gs_virt (bs := [.int b0]) (w := 597) (L := 8) rfl rfl rfl rfl hs (by simp [gm_en1]) hr (by decide)) (by decide)) m82 rfl rfl hd hc kn kx
theorem f82_128 : gm_ft 82 128 = some (.ireturn, 1) := by decide +kernel
theorem r82_128 {E : Nat → Value} {d : Nat} {h : gm_H} {Q : gm_R → gm_H → Prop} {lv : List Value} {x : Int32} : gm_W E d 82 128 lv [.int x] h Q ↔ Q (.inl (some (.int x))) h := gw_ret m82 f82_128 rfl rfl rfl rfl rfl rfl rfl rfl (by unfold gm_rt; dsimp only; rw [if_pos ⟨rfl, rfl⟩])
theorem f82_129 : gm_ft 82 129 = some (.aload_n 0, 1) := by decide +kernel
theorem r82_129 {E : Nat → Value} {d : Nat} {st : List Value} {h : gm_H} {Q : gm_R → gm_H → Prop} {a1 : Value} {x : Nat} : gm_W E d 82 129 [.ref x, a1] st h Q ↔ gm_W E d 82 130 [.ref x, a1] (.ref x :: st) h Q := gw_loc m82 f82_129 rfl rfl
theorem r82_129n {E : Nat → Value} {d : Nat} {st : List Value} {h : gm_H} {Q : gm_R → gm_H → Prop} {a1 : Value}  : gm_W E d 82 129 [.null, a1] st h Q ↔ gm_W E d 82 130 [.null, a1] (.null :: st) h Q := gw_loc m82 f82_129 rfl rfl
theorem f82_130 : gm_ft 82 130 = some (.iload_n 1, 1) := by decide +kernel
theorem r82_130 {E : Nat → Value} {d : Nat} {st : List Value} {h : gm_H} {Q : gm_R → gm_H → Prop} {a0 : Value} {x : Int32} : gm_W E d 82 130 [a0, .int x] st h Q ↔ gm_W E d 82 131 [a0, .int x] (.int x :: st) h Q := gw_loc m82 f82_130 rfl rfl
theorem f82_131 : gm_ft 82 131 = some (.invokevirtual 211, 3) := by decide +kernel
theorem c82_131 {E : Nat → Value} {d : Nat} {st : List Value} {h : gm_H} {Q : gm_R → gm_H → Prop} {lv : List Value} {b0 : Int32} {a : Nat} {Qc : gm_R → gm_H → Prop} (hs : (st.map fun v => v.category).sum ≤ 8) (hr : gm_kd h a = 0) (hd : 1 ≤ d) (hc : gm_Ca E (d - 1) 87 [.ref a, .int b0] h Qc) (kn : ∀ (v9 : Option Value) (h9 : gm_H), Qc (.inl v9) h9 → gm_W E d 82 134 lv (v9.toList ++ st) h9 Q) (kx : ∀ (x9 : Nat) (h9 : gm_H), Qc (.inr x9) h9 → Q (.inr x9) h9) : gm_W E d 82 131 lv (.int b0 :: .ref a :: st) h Q := gw_call (gn_call m82 f82_131 rfl rfl rfl rfl rfl rfl rfl (gs_virt (bs := [.int b0]) (w := 628) (L := 5) rfl rfl rfl rfl hs (by simp [gm_en1]) hr (by decide)) (by decide)) m82 rfl rfl hd hc kn kx
theorem f82_134 : gm_ft 82 134 = some (.ireturn, 1) := by decide +kernel
theorem r82_134 {E : Nat → Value} {d : Nat} {h : gm_H} {Q : gm_R → gm_H → Prop} {lv : List Value} {x : Int32} : gm_W E d 82 134 lv [.int x] h Q ↔ Q (.inl (some (.int x))) h := gw_ret m82 f82_134 rfl rfl rfl rfl rfl rfl rfl rfl (by unfold gm_rt; dsimp only; rw [if_pos ⟨rfl, rfl⟩])
theorem f82_135 : gm_ft 82 135 = some (.aload_n 0, 1) := by decide +kernel
theorem r82_135 {E : Nat → Value} {d : Nat} {st : List Value} {h : gm_H} {Q : gm_R → gm_H → Prop} {a1 : Value} {x : Nat} : gm_W E d 82 135 [.ref x, a1] st h Q ↔ gm_W E d 82 136 [.ref x, a1] (.ref x :: st) h Q := gw_loc m82 f82_135 rfl rfl
theorem r82_135n {E : Nat → Value} {d : Nat} {st : List Value} {h : gm_H} {Q : gm_R → gm_H → Prop} {a1 : Value}  : gm_W E d 82 135 [.null, a1] st h Q ↔ gm_W E d 82 136 [.null, a1] (.null :: st) h Q := gw_loc m82 f82_135 rfl rfl
theorem f82_136 : gm_ft 82 136 = some (.iload_n 1, 1) := by decide +kernel
theorem r82_136 {E : Nat → Value} {d : Nat} {st : List Value} {h : gm_H} {Q : gm_R → gm_H → Prop} {a0 : Value} {x : Int32} : gm_W E d 82 136 [a0, .int x] st h Q ↔ gm_W E d 82 137 [a0, .int x] (.int x :: st) h Q := gw_loc m82 f82_136 rfl rfl
theorem f82_137 : gm_ft 82 137 = some (.iconst 1, 1) := by decide +kernel
theorem r82_137 {E : Nat → Value} {d : Nat} {st : List Value} {h : gm_H} {Q : gm_R → gm_H → Prop} {lv : List Value} : gm_W E d 82 137 lv st h Q ↔ gm_W E d 82 138 lv (.int (1 : Int32) :: st) h Q := gw_pure m82 f82_137 rfl
theorem f82_138 : gm_ft 82 138 = some (.if_icmp .ne 8, 3) := by decide +kernel
theorem r82_138 {E : Nat → Value} {d : Nat} {st : List Value} {h : gm_H} {Q : gm_R → gm_H → Prop} {lv : List Value} {x y : Int32} : gm_W E d 82 138 lv (.int y :: .int x :: st) h Q ↔ (if x = y then gm_W E d 82 141 lv st h Q else gm_W E d 82 146 lv st h Q) := (gw_br m82 f82_138 rfl rfl rfl rfl).trans gw_ifn
theorem f82_141 : gm_ft 82 141 = some (.bipush (-7), 2) := by decide +kernel
theorem r82_141 {E : Nat → Value} {d : Nat} {st : List Value} {h : gm_H} {Q : gm_R → gm_H → Prop} {lv : List Value} : gm_W E d 82 141 lv st h Q ↔ gm_W E d 82 143 lv (.int (-7 : Int32) :: st) h Q := gw_pure m82 f82_141 rfl
theorem f82_143 : gm_ft 82 143 = some (.goto 5, 3) := by decide +kernel
theorem r82_143 {E : Nat → Value} {d : Nat} {st : List Value} {h : gm_H} {Q : gm_R → gm_H → Prop} {lv : List Value} : gm_W E d 82 143 lv st h Q ↔ gm_W E d 82 148 lv st h Q := gw_brT m82 f82_143 rfl rfl rfl rfl
theorem f82_146 : gm_ft 82 146 = some (.bipush (-4), 2) := by decide +kernel
theorem r82_146 {E : Nat → Value} {d : Nat} {st : List Value} {h : gm_H} {Q : gm_R → gm_H → Prop} {lv : List Value} : gm_W E d 82 146 lv st h Q ↔ gm_W E d 82 148 lv (.int (-4 : Int32) :: st) h Q := gw_pure m82 f82_146 rfl
theorem f82_148 : gm_ft 82 148 = some (.invokevirtual 160, 3) := by decide +kernel
theorem c82_148 {E : Nat → Value} {d : Nat} {st : List Value} {h : gm_H} {Q : gm_R → gm_H → Prop} {lv : List Value} {b0 : Int32} {a : Nat} {Qc : gm_R → gm_H → Prop} (hs : (st.map fun v => v.category).sum ≤ 8) (hr : gm_kd h a = 0) (hd : 1 ≤ d) (hc : gm_Ca E (d - 1) 66 [.ref a, .int b0] h Qc) (kn : ∀ (v9 : Option Value) (h9 : gm_H), Qc (.inl v9) h9 → gm_W E d 82 151 lv (v9.toList ++ st) h9 Q) (kx : ∀ (x9 : Nat) (h9 : gm_H), Qc (.inr x9) h9 → Q (.inr x9) h9) : gm_W E d 82 148 lv (.int b0 :: .ref a :: st) h Q := gw_call (gn_call m82 f82_148 rfl rfl rfl rfl rfl rfl rfl (gs_virt (bs := [.int b0]) (w := 206) (L := 2) rfl rfl rfl rfl hs (by simp [gm_en1]) hr (by decide)) (by decide)) m82 rfl rfl hd hc kn kx
theorem f82_151 : gm_ft 82 151 = some (.ireturn, 1) := by decide +kernel
theorem r82_151 {E : Nat → Value} {d : Nat} {h : gm_H} {Q : gm_R → gm_H → Prop} {lv : List Value} {x : Int32} : gm_W E d 82 151 lv [.int x] h Q ↔ Q (.inl (some (.int x))) h := gw_ret m82 f82_151 rfl rfl rfl rfl rfl rfl rfl rfl (by unfold gm_rt; dsimp only; rw [if_pos ⟨rfl, rfl⟩])
theorem f82_152 : gm_ft 82 152 = some (.aload_n 0, 1) := by decide +kernel
theorem r82_152 {E : Nat → Value} {d : Nat} {st : List Value} {h : gm_H} {Q : gm_R → gm_H → Prop} {a1 : Value} {x : Nat} : gm_W E d 82 152 [.ref x, a1] st h Q ↔ gm_W E d 82 153 [.ref x, a1] (.ref x :: st) h Q := gw_loc m82 f82_152 rfl rfl
theorem r82_152n {E : Nat → Value} {d : Nat} {st : List Value} {h : gm_H} {Q : gm_R → gm_H → Prop} {a1 : Value}  : gm_W E d 82 152 [.null, a1] st h Q ↔ gm_W E d 82 153 [.null, a1] (.null :: st) h Q := gw_loc m82 f82_152 rfl rfl
theorem f82_153 : gm_ft 82 153 = some (.bipush (-10), 2) := by decide +kernel
theorem r82_153 {E : Nat → Value} {d : Nat} {st : List Value} {h : gm_H} {Q : gm_R → gm_H → Prop} {lv : List Value} : gm_W E d 82 153 lv st h Q ↔ gm_W E d 82 155 lv (.int (-10 : Int32) :: st) h Q := gw_pure m82 f82_153 rfl
theorem f82_155 : gm_ft 82 155 = some (.invokevirtual 160, 3) := by decide +kernel
theorem c82_155 {E : Nat → Value} {d : Nat} {st : List Value} {h : gm_H} {Q : gm_R → gm_H → Prop} {lv : List Value} {b0 : Int32} {a : Nat} {Qc : gm_R → gm_H → Prop} (hs : (st.map fun v => v.category).sum ≤ 8) (hr : gm_kd h a = 0) (hd : 1 ≤ d) (hc : gm_Ca E (d - 1) 66 [.ref a, .int b0] h Qc) (kn : ∀ (v9 : Option Value) (h9 : gm_H), Qc (.inl v9) h9 → gm_W E d 82 158 lv (v9.toList ++ st) h9 Q) (kx : ∀ (x9 : Nat) (h9 : gm_H), Qc (.inr x9) h9 → Q (.inr x9) h9) : gm_W E d 82 155 lv (.int b0 :: .ref a :: st) h Q := gw_call (gn_call m82 f82_155 rfl rfl rfl rfl rfl rfl rfl (gs_virt (bs := [.int b0]) (w := 206) (L := 2) rfl rfl rfl rfl hs (by simp [gm_en1]) hr (by decide)) (by decide)) m82 rfl rfl hd hc kn kx
theorem f82_158 : gm_ft 82 158 = some (.ireturn, 1) := by decide +kernel
theorem r82_158 {E : Nat → Value} {d : Nat} {h : gm_H} {Q : gm_R → gm_H → Prop} {lv : List Value} {x : Int32} : gm_W E d 82 158 lv [.int x] h Q ↔ Q (.inl (some (.int x))) h := gw_ret m82 f82_158 rfl rfl rfl rfl rfl rfl rfl rfl (by unfold gm_rt; dsimp only; rw [if_pos ⟨rfl, rfl⟩])
theorem f82_159 : gm_ft 82 159 = some (.aload_n 0, 1) := by decide +kernel
theorem r82_159 {E : Nat → Value} {d : Nat} {st : List Value} {h : gm_H} {Q : gm_R → gm_H → Prop} {a1 : Value} {x : Nat} : gm_W E d 82 159 [.ref x, a1] st h Q ↔ gm_W E d 82 160 [.ref x, a1] (.ref x :: st) h Q := gw_loc m82 f82_159 rfl rfl
theorem r82_159n {E : Nat → Value} {d : Nat} {st : List Value} {h : gm_H} {Q : gm_R → gm_H → Prop} {a1 : Value}  : gm_W E d 82 159 [.null, a1] st h Q ↔ gm_W E d 82 160 [.null, a1] (.null :: st) h Q := gw_loc m82 f82_159 rfl rfl
theorem f82_160 : gm_ft 82 160 = some (.bipush (-4), 2) := by decide +kernel
theorem r82_160 {E : Nat → Value} {d : Nat} {st : List Value} {h : gm_H} {Q : gm_R → gm_H → Prop} {lv : List Value} : gm_W E d 82 160 lv st h Q ↔ gm_W E d 82 162 lv (.int (-4 : Int32) :: st) h Q := gw_pure m82 f82_160 rfl
theorem f82_162 : gm_ft 82 162 = some (.invokevirtual 160, 3) := by decide +kernel
theorem c82_162 {E : Nat → Value} {d : Nat} {st : List Value} {h : gm_H} {Q : gm_R → gm_H → Prop} {lv : List Value} {b0 : Int32} {a : Nat} {Qc : gm_R → gm_H → Prop} (hs : (st.map fun v => v.category).sum ≤ 8) (hr : gm_kd h a = 0) (hd : 1 ≤ d) (hc : gm_Ca E (d - 1) 66 [.ref a, .int b0] h Qc) (kn : ∀ (v9 : Option Value) (h9 : gm_H), Qc (.inl v9) h9 → gm_W E d 82 165 lv (v9.toList ++ st) h9 Q) (kx : ∀ (x9 : Nat) (h9 : gm_H), Qc (.inr x9) h9 → Q (.inr x9) h9) : gm_W E d 82 162 lv (.int b0 :: .ref a :: st) h Q := gw_call (gn_call m82 f82_162 rfl rfl rfl rfl rfl rfl rfl (gs_virt (bs := [.int b0]) (w := 206) (L := 2) rfl rfl rfl rfl hs (by simp [gm_en1]) hr (by decide)) (by decide)) m82 rfl rfl hd hc kn kx
theorem f82_165 : gm_ft 82 165 = some (.ireturn, 1) := by decide +kernel
theorem r82_165 {E : Nat → Value} {d : Nat} {h : gm_H} {Q : gm_R → gm_H → Prop} {lv : List Value} {x : Int32} : gm_W E d 82 165 lv [.int x] h Q ↔ Q (.inl (some (.int x))) h := gw_ret m82 f82_165 rfl rfl rfl rfl rfl rfl rfl rfl (by unfold gm_rt; dsimp only; rw [if_pos ⟨rfl, rfl⟩])
/-! GraphReader.nextEntry()I -/
theorem m83 : gm_mt[83]? = some (⟨"GraphReader", "nextEntry", "()I"⟩, prog_1_method_33_code, 2, (some .int), [], 0, 1) := rfl
theorem f83_0 : gm_ft 83 0 = some (.aload_n 0, 1) := by decide +kernel
theorem r83_0 {E : Nat → Value} {d : Nat} {st : List Value} {h : gm_H} {Q : gm_R → gm_H → Prop} {a1 : Value} {x : Nat} : gm_W E d 83 0 [.ref x, a1] st h Q ↔ gm_W E d 83 1 [.ref x, a1] (.ref x :: st) h Q := gw_loc m83 f83_0 rfl rfl
theorem r83_0n {E : Nat → Value} {d : Nat} {st : List Value} {h : gm_H} {Q : gm_R → gm_H → Prop} {a1 : Value}  : gm_W E d 83 0 [.null, a1] st h Q ↔ gm_W E d 83 1 [.null, a1] (.null :: st) h Q := gw_loc m83 f83_0 rfl rfl
theorem f83_1 : gm_ft 83 1 = some (.getfield 28, 3) := by decide +kernel
theorem r83_1 {E : Nat → Value} {d : Nat} {st : List Value} {h : gm_H} {Q : gm_R → gm_H → Prop} {lv : List Value} {a : Nat} (hk : gm_kd h a = 0) : gm_W E d 83 1 lv (.ref a :: st) h Q ↔ gm_W E d 83 4 lv (gm_fv h a 10 :: st) h Q := gw_rd m83 f83_1 rfl rfl rfl rfl (gs_get k0_28 hk (by decide))
theorem f83_4 : gm_ft 83 4 = some (.getfield 110, 3) := by decide +kernel
theorem r83_4 {E : Nat → Value} {d : Nat} {st : List Value} {h : gm_H} {Q : gm_R → gm_H → Prop} {lv : List Value} {a : Nat} (hk : gm_kd h a = 2) : gm_W E d 83 4 lv (.ref a :: st) h Q ↔ gm_W E d 83 7 lv (gm_fv h a 2 :: st) h Q := gw_rd m83 f83_4 rfl rfl rfl rfl (gs_get k0_110 hk (by decide))
theorem f83_7 : gm_ft 83 7 = some (.aload_n 0, 1) := by decide +kernel
theorem r83_7 {E : Nat → Value} {d : Nat} {st : List Value} {h : gm_H} {Q : gm_R → gm_H → Prop} {a1 : Value} {x : Nat} : gm_W E d 83 7 [.ref x, a1] st h Q ↔ gm_W E d 83 8 [.ref x, a1] (.ref x :: st) h Q := gw_loc m83 f83_7 rfl rfl
theorem r83_7n {E : Nat → Value} {d : Nat} {st : List Value} {h : gm_H} {Q : gm_R → gm_H → Prop} {a1 : Value}  : gm_W E d 83 7 [.null, a1] st h Q ↔ gm_W E d 83 8 [.null, a1] (.null :: st) h Q := gw_loc m83 f83_7 rfl rfl
theorem f83_8 : gm_ft 83 8 = some (.invokevirtual 179, 3) := by decide +kernel
theorem c83_8 {E : Nat → Value} {d : Nat} {st : List Value} {h : gm_H} {Q : gm_R → gm_H → Prop} {lv : List Value} {a : Nat} {Qc : gm_R → gm_H → Prop} (hs : (st.map fun v => v.category).sum ≤ 8) (hr : gm_kd h a = 0) (hd : 1 ≤ d) (hc : gm_Ca E (d - 1) 70 [.ref a] h Qc) (kn : ∀ (v9 : Option Value) (h9 : gm_H), Qc (.inl v9) h9 → gm_W E d 83 11 lv (v9.toList ++ st) h9 Q) (kx : ∀ (x9 : Nat) (h9 : gm_H), Qc (.inr x9) h9 → Q (.inr x9) h9) : gm_W E d 83 8 lv (.ref a :: st) h Q := gw_call (gn_call m83 f83_8 rfl rfl rfl rfl rfl rfl rfl (gs_virt (bs := []) (w := 290) (L := 1) rfl rfl rfl rfl hs (by simp [gm_en1]) hr (by decide)) (by decide)) m83 rfl rfl hd hc kn kx
theorem f83_11 : gm_ft 83 11 = some (.iadd, 1) := by decide +kernel
theorem r83_11 {E : Nat → Value} {d : Nat} {st : List Value} {h : gm_H} {Q : gm_R → gm_H → Prop} {lv : List Value} {x y : Int32} : gm_W E d 83 11 lv (.int y :: .int x :: st) h Q ↔ gm_W E d 83 12 lv (.int (x + y) :: st) h Q := gw_pure m83 f83_11 rfl
theorem f83_12 : gm_ft 83 12 = some (.ldc 214, 2) := by decide +kernel
theorem r83_12 {E : Nat → Value} {d : Nat} {st : List Value} {h : gm_H} {Q : gm_R → gm_H → Prop} {lv : List Value} : gm_W E d 83 12 lv st h Q ↔ gm_W E d 83 14 lv (.int (8257536 : Int32) :: st) h Q := gw_rd m83 f83_12 rfl rfl rfl rfl rfl
theorem f83_14 : gm_ft 83 14 = some (.isub, 1) := by decide +kernel
theorem r83_14 {E : Nat → Value} {d : Nat} {st : List Value} {h : gm_H} {Q : gm_R → gm_H → Prop} {lv : List Value} {x y : Int32} : gm_W E d 83 14 lv (.int y :: .int x :: st) h Q ↔ gm_W E d 83 15 lv (.int (x - y) :: st) h Q := gw_pure m83 f83_14 rfl
theorem f83_15 : gm_ft 83 15 = some (.istore_n 1, 1) := by decide +kernel
theorem r83_15 {E : Nat → Value} {d : Nat} {st : List Value} {h : gm_H} {Q : gm_R → gm_H → Prop} {a0 a1 : Value} {x : Int32} : gm_W E d 83 15 [a0, a1] (.int x :: st) h Q ↔ gm_W E d 83 16 [gm_k a0, .int x] st h Q := gw_loc m83 f83_15 rfl rfl
theorem f83_16 : gm_ft 83 16 = some (.iload_n 1, 1) := by decide +kernel
theorem r83_16 {E : Nat → Value} {d : Nat} {st : List Value} {h : gm_H} {Q : gm_R → gm_H → Prop} {a0 : Value} {x : Int32} : gm_W E d 83 16 [a0, .int x] st h Q ↔ gm_W E d 83 17 [a0, .int x] (.int x :: st) h Q := gw_loc m83 f83_16 rfl rfl
theorem f83_17 : gm_ft 83 17 = some (.aload_n 0, 1) := by decide +kernel
theorem r83_17 {E : Nat → Value} {d : Nat} {st : List Value} {h : gm_H} {Q : gm_R → gm_H → Prop} {a1 : Value} {x : Nat} : gm_W E d 83 17 [.ref x, a1] st h Q ↔ gm_W E d 83 18 [.ref x, a1] (.ref x :: st) h Q := gw_loc m83 f83_17 rfl rfl
theorem r83_17n {E : Nat → Value} {d : Nat} {st : List Value} {h : gm_H} {Q : gm_R → gm_H → Prop} {a1 : Value}  : gm_W E d 83 17 [.null, a1] st h Q ↔ gm_W E d 83 18 [.null, a1] (.null :: st) h Q := gw_loc m83 f83_17 rfl rfl
theorem f83_18 : gm_ft 83 18 = some (.getfield 28, 3) := by decide +kernel
theorem r83_18 {E : Nat → Value} {d : Nat} {st : List Value} {h : gm_H} {Q : gm_R → gm_H → Prop} {lv : List Value} {a : Nat} (hk : gm_kd h a = 0) : gm_W E d 83 18 lv (.ref a :: st) h Q ↔ gm_W E d 83 21 lv (gm_fv h a 10 :: st) h Q := gw_rd m83 f83_18 rfl rfl rfl rfl (gs_get k0_28 hk (by decide))
theorem f83_21 : gm_ft 83 21 = some (.getfield 110, 3) := by decide +kernel
theorem r83_21 {E : Nat → Value} {d : Nat} {st : List Value} {h : gm_H} {Q : gm_R → gm_H → Prop} {lv : List Value} {a : Nat} (hk : gm_kd h a = 2) : gm_W E d 83 21 lv (.ref a :: st) h Q ↔ gm_W E d 83 24 lv (gm_fv h a 2 :: st) h Q := gw_rd m83 f83_21 rfl rfl rfl rfl (gs_get k0_110 hk (by decide))
theorem f83_24 : gm_ft 83 24 = some (.if_icmp .lt 18, 3) := by decide +kernel
theorem r83_24 {E : Nat → Value} {d : Nat} {st : List Value} {h : gm_H} {Q : gm_R → gm_H → Prop} {lv : List Value} {x y : Int32} : gm_W E d 83 24 lv (.int y :: .int x :: st) h Q ↔ (if x < y then gm_W E d 83 42 lv st h Q else gm_W E d 83 27 lv st h Q) := (gw_br m83 f83_24 rfl rfl rfl rfl).trans gw_if
theorem f83_27 : gm_ft 83 27 = some (.iload_n 1, 1) := by decide +kernel
theorem r83_27 {E : Nat → Value} {d : Nat} {st : List Value} {h : gm_H} {Q : gm_R → gm_H → Prop} {a0 : Value} {x : Int32} : gm_W E d 83 27 [a0, .int x] st h Q ↔ gm_W E d 83 28 [a0, .int x] (.int x :: st) h Q := gw_loc m83 f83_27 rfl rfl
theorem f83_28 : gm_ft 83 28 = some (.aload_n 0, 1) := by decide +kernel
theorem r83_28 {E : Nat → Value} {d : Nat} {st : List Value} {h : gm_H} {Q : gm_R → gm_H → Prop} {a1 : Value} {x : Nat} : gm_W E d 83 28 [.ref x, a1] st h Q ↔ gm_W E d 83 29 [.ref x, a1] (.ref x :: st) h Q := gw_loc m83 f83_28 rfl rfl
theorem r83_28n {E : Nat → Value} {d : Nat} {st : List Value} {h : gm_H} {Q : gm_R → gm_H → Prop} {a1 : Value}  : gm_W E d 83 28 [.null, a1] st h Q ↔ gm_W E d 83 29 [.null, a1] (.null :: st) h Q := gw_loc m83 f83_28 rfl rfl
theorem f83_29 : gm_ft 83 29 = some (.getfield 28, 3) := by decide +kernel
theorem r83_29 {E : Nat → Value} {d : Nat} {st : List Value} {h : gm_H} {Q : gm_R → gm_H → Prop} {lv : List Value} {a : Nat} (hk : gm_kd h a = 0) : gm_W E d 83 29 lv (.ref a :: st) h Q ↔ gm_W E d 83 32 lv (gm_fv h a 10 :: st) h Q := gw_rd m83 f83_29 rfl rfl rfl rfl (gs_get k0_28 hk (by decide))
theorem f83_32 : gm_ft 83 32 = some (.getfield 113, 3) := by decide +kernel
theorem r83_32 {E : Nat → Value} {d : Nat} {st : List Value} {h : gm_H} {Q : gm_R → gm_H → Prop} {lv : List Value} {a : Nat} (hk : gm_kd h a = 2) : gm_W E d 83 32 lv (.ref a :: st) h Q ↔ gm_W E d 83 35 lv (gm_fv h a 3 :: st) h Q := gw_rd m83 f83_32 rfl rfl rfl rfl (gs_get k0_113 hk (by decide))
theorem f83_35 : gm_ft 83 35 = some (.if_icmp .ge 7, 3) := by decide +kernel
theorem r83_35 {E : Nat → Value} {d : Nat} {st : List Value} {h : gm_H} {Q : gm_R → gm_H → Prop} {lv : List Value} {x y : Int32} : gm_W E d 83 35 lv (.int y :: .int x :: st) h Q ↔ (if y ≤ x then gm_W E d 83 42 lv st h Q else gm_W E d 83 38 lv st h Q) := (gw_br m83 f83_35 rfl rfl rfl rfl).trans gw_if
theorem f83_38 : gm_ft 83 38 = some (.iload_n 1, 1) := by decide +kernel
theorem r83_38 {E : Nat → Value} {d : Nat} {st : List Value} {h : gm_H} {Q : gm_R → gm_H → Prop} {a0 : Value} {x : Int32} : gm_W E d 83 38 [a0, .int x] st h Q ↔ gm_W E d 83 39 [a0, .int x] (.int x :: st) h Q := gw_loc m83 f83_38 rfl rfl
theorem f83_39 : gm_ft 83 39 = some (.goto 9, 3) := by decide +kernel
theorem r83_39 {E : Nat → Value} {d : Nat} {st : List Value} {h : gm_H} {Q : gm_R → gm_H → Prop} {lv : List Value} : gm_W E d 83 39 lv st h Q ↔ gm_W E d 83 48 lv st h Q := gw_brT m83 f83_39 rfl rfl rfl rfl
theorem f83_42 : gm_ft 83 42 = some (.aload_n 0, 1) := by decide +kernel
theorem r83_42 {E : Nat → Value} {d : Nat} {st : List Value} {h : gm_H} {Q : gm_R → gm_H → Prop} {a1 : Value} {x : Nat} : gm_W E d 83 42 [.ref x, a1] st h Q ↔ gm_W E d 83 43 [.ref x, a1] (.ref x :: st) h Q := gw_loc m83 f83_42 rfl rfl
theorem r83_42n {E : Nat → Value} {d : Nat} {st : List Value} {h : gm_H} {Q : gm_R → gm_H → Prop} {a1 : Value}  : gm_W E d 83 42 [.null, a1] st h Q ↔ gm_W E d 83 43 [.null, a1] (.null :: st) h Q := gw_loc m83 f83_42 rfl rfl
theorem f83_43 : gm_ft 83 43 = some (.bipush (-4), 2) := by decide +kernel
theorem r83_43 {E : Nat → Value} {d : Nat} {st : List Value} {h : gm_H} {Q : gm_R → gm_H → Prop} {lv : List Value} : gm_W E d 83 43 lv st h Q ↔ gm_W E d 83 45 lv (.int (-4 : Int32) :: st) h Q := gw_pure m83 f83_43 rfl
theorem f83_45 : gm_ft 83 45 = some (.invokevirtual 160, 3) := by decide +kernel
theorem c83_45 {E : Nat → Value} {d : Nat} {st : List Value} {h : gm_H} {Q : gm_R → gm_H → Prop} {lv : List Value} {b0 : Int32} {a : Nat} {Qc : gm_R → gm_H → Prop} (hs : (st.map fun v => v.category).sum ≤ 8) (hr : gm_kd h a = 0) (hd : 1 ≤ d) (hc : gm_Ca E (d - 1) 66 [.ref a, .int b0] h Qc) (kn : ∀ (v9 : Option Value) (h9 : gm_H), Qc (.inl v9) h9 → gm_W E d 83 48 lv (v9.toList ++ st) h9 Q) (kx : ∀ (x9 : Nat) (h9 : gm_H), Qc (.inr x9) h9 → Q (.inr x9) h9) : gm_W E d 83 45 lv (.int b0 :: .ref a :: st) h Q := gw_call (gn_call m83 f83_45 rfl rfl rfl rfl rfl rfl rfl (gs_virt (bs := [.int b0]) (w := 206) (L := 2) rfl rfl rfl rfl hs (by simp [gm_en1]) hr (by decide)) (by decide)) m83 rfl rfl hd hc kn kx
theorem f83_48 : gm_ft 83 48 = some (.ireturn, 1) := by decide +kernel
theorem r83_48 {E : Nat → Value} {d : Nat} {h : gm_H} {Q : gm_R → gm_H → Prop} {lv : List Value} {x : Int32} : gm_W E d 83 48 lv [.int x] h Q ↔ Q (.inl (some (.int x))) h := gw_ret m83 f83_48 rfl rfl rfl rfl rfl rfl rfl rfl (by unfold gm_rt; dsimp only; rw [if_pos ⟨rfl, rfl⟩])
/-! GraphReader.readReference()I -/
theorem m84 : gm_mt[84]? = some (⟨"GraphReader", "readReference", "()I"⟩, prog_1_method_34_code, 2, (some .int), [], 0, 1) := rfl
theorem f84_0 : gm_ft 84 0 = some (.aload_n 0, 1) := by decide +kernel
theorem r84_0 {E : Nat → Value} {d : Nat} {st : List Value} {h : gm_H} {Q : gm_R → gm_H → Prop} {a1 : Value} {x : Nat} : gm_W E d 84 0 [.ref x, a1] st h Q ↔ gm_W E d 84 1 [.ref x, a1] (.ref x :: st) h Q := gw_loc m84 f84_0 rfl rfl
theorem r84_0n {E : Nat → Value} {d : Nat} {st : List Value} {h : gm_H} {Q : gm_R → gm_H → Prop} {a1 : Value}  : gm_W E d 84 0 [.null, a1] st h Q ↔ gm_W E d 84 1 [.null, a1] (.null :: st) h Q := gw_loc m84 f84_0 rfl rfl
theorem f84_1 : gm_ft 84 1 = some (.getfield 28, 3) := by decide +kernel
theorem r84_1 {E : Nat → Value} {d : Nat} {st : List Value} {h : gm_H} {Q : gm_R → gm_H → Prop} {lv : List Value} {a : Nat} (hk : gm_kd h a = 0) : gm_W E d 84 1 lv (.ref a :: st) h Q ↔ gm_W E d 84 4 lv (gm_fv h a 10 :: st) h Q := gw_rd m84 f84_1 rfl rfl rfl rfl (gs_get k0_28 hk (by decide))
theorem f84_4 : gm_ft 84 4 = some (.getfield 215, 3) := by decide +kernel
theorem r84_4 {E : Nat → Value} {d : Nat} {st : List Value} {h : gm_H} {Q : gm_R → gm_H → Prop} {lv : List Value} {a : Nat} (hk : gm_kd h a = 2) : gm_W E d 84 4 lv (.ref a :: st) h Q ↔ gm_W E d 84 7 lv (gm_fv h a 0 :: st) h Q := gw_rd m84 f84_4 rfl rfl rfl rfl (gs_get k0_215 hk (by decide))
theorem f84_7 : gm_ft 84 7 = some (.aload_n 0, 1) := by decide +kernel
theorem r84_7 {E : Nat → Value} {d : Nat} {st : List Value} {h : gm_H} {Q : gm_R → gm_H → Prop} {a1 : Value} {x : Nat} : gm_W E d 84 7 [.ref x, a1] st h Q ↔ gm_W E d 84 8 [.ref x, a1] (.ref x :: st) h Q := gw_loc m84 f84_7 rfl rfl
theorem r84_7n {E : Nat → Value} {d : Nat} {st : List Value} {h : gm_H} {Q : gm_R → gm_H → Prop} {a1 : Value}  : gm_W E d 84 7 [.null, a1] st h Q ↔ gm_W E d 84 8 [.null, a1] (.null :: st) h Q := gw_loc m84 f84_7 rfl rfl
theorem f84_8 : gm_ft 84 8 = some (.invokevirtual 219, 3) := by decide +kernel
theorem c84_8 {E : Nat → Value} {d : Nat} {st : List Value} {h : gm_H} {Q : gm_R → gm_H → Prop} {lv : List Value} {a : Nat} {Qc : gm_R → gm_H → Prop} (hs : (st.map fun v => v.category).sum ≤ 8) (hr : gm_kd h a = 0) (hd : 1 ≤ d) (hc : gm_Ca E (d - 1) 83 [.ref a] h Qc) (kn : ∀ (v9 : Option Value) (h9 : gm_H), Qc (.inl v9) h9 → gm_W E d 84 11 lv (v9.toList ++ st) h9 Q) (kx : ∀ (x9 : Nat) (h9 : gm_H), Qc (.inr x9) h9 → Q (.inr x9) h9) : gm_W E d 84 8 lv (.ref a :: st) h Q := gw_call (gn_call m84 f84_8 rfl rfl rfl rfl rfl rfl rfl (gs_virt (bs := []) (w := 286) (L := 2) rfl rfl rfl rfl hs (by simp [gm_en1]) hr (by decide)) (by decide)) m84 rfl rfl hd hc kn kx
theorem f84_11 : gm_ft 84 11 = some (.iaload, 1) := by decide +kernel
theorem r84_11 {E : Nat → Value} {d : Nat} {st : List Value} {h : gm_H} {Q : gm_R → gm_H → Prop} {lv : List Value} {a j : Nat} (hk : gm_kd h a % 100 = 0 ∧ 100 ≤ gm_kd h a ∧ gm_kd h a < 900) (hj : j < gm_ln h a) (hl : gm_ln h a < 2 ^ 31) : gm_W E d 84 11 lv (.int (nI j) :: .ref a :: st) h Q ↔ gm_W E d 84 12 lv (gm_fv h a j :: st) h Q := gw_rd m84 f84_11 rfl rfl rfl rfl (gs_ld (P := fun t => t == 0) hk.2 (by have := hk.1; simp [this] <;> omega) hj hl)
theorem f84_12 : gm_ft 84 12 = some (.istore_n 1, 1) := by decide +kernel
theorem r84_12 {E : Nat → Value} {d : Nat} {st : List Value} {h : gm_H} {Q : gm_R → gm_H → Prop} {a0 a1 : Value} {x : Int32} : gm_W E d 84 12 [a0, a1] (.int x :: st) h Q ↔ gm_W E d 84 13 [gm_k a0, .int x] st h Q := gw_loc m84 f84_12 rfl rfl
theorem f84_13 : gm_ft 84 13 = some (.iload_n 1, 1) := by decide +kernel
theorem r84_13 {E : Nat → Value} {d : Nat} {st : List Value} {h : gm_H} {Q : gm_R → gm_H → Prop} {a0 : Value} {x : Int32} : gm_W E d 84 13 [a0, .int x] st h Q ↔ gm_W E d 84 14 [a0, .int x] (.int x :: st) h Q := gw_loc m84 f84_13 rfl rfl
theorem f84_14 : gm_ft 84 14 = some (.iconst (-1), 1) := by decide +kernel
theorem r84_14 {E : Nat → Value} {d : Nat} {st : List Value} {h : gm_H} {Q : gm_R → gm_H → Prop} {lv : List Value} : gm_W E d 84 14 lv st h Q ↔ gm_W E d 84 15 lv (.int (-1 : Int32) :: st) h Q := gw_pure m84 f84_14 rfl
theorem f84_15 : gm_ft 84 15 = some (.if_icmp .ne 12, 3) := by decide +kernel
theorem r84_15 {E : Nat → Value} {d : Nat} {st : List Value} {h : gm_H} {Q : gm_R → gm_H → Prop} {lv : List Value} {x y : Int32} : gm_W E d 84 15 lv (.int y :: .int x :: st) h Q ↔ (if x = y then gm_W E d 84 18 lv st h Q else gm_W E d 84 27 lv st h Q) := (gw_br m84 f84_15 rfl rfl rfl rfl).trans gw_ifn
theorem f84_18 : gm_ft 84 18 = some (.aload_n 0, 1) := by decide +kernel
theorem r84_18 {E : Nat → Value} {d : Nat} {st : List Value} {h : gm_H} {Q : gm_R → gm_H → Prop} {a1 : Value} {x : Nat} : gm_W E d 84 18 [.ref x, a1] st h Q ↔ gm_W E d 84 19 [.ref x, a1] (.ref x :: st) h Q := gw_loc m84 f84_18 rfl rfl
theorem r84_18n {E : Nat → Value} {d : Nat} {st : List Value} {h : gm_H} {Q : gm_R → gm_H → Prop} {a1 : Value}  : gm_W E d 84 18 [.null, a1] st h Q ↔ gm_W E d 84 19 [.null, a1] (.null :: st) h Q := gw_loc m84 f84_18 rfl rfl
theorem f84_19 : gm_ft 84 19 = some (.bipush (-4), 2) := by decide +kernel
theorem r84_19 {E : Nat → Value} {d : Nat} {st : List Value} {h : gm_H} {Q : gm_R → gm_H → Prop} {lv : List Value} : gm_W E d 84 19 lv st h Q ↔ gm_W E d 84 21 lv (.int (-4 : Int32) :: st) h Q := gw_pure m84 f84_19 rfl
theorem f84_21 : gm_ft 84 21 = some (.invokevirtual 160, 3) := by decide +kernel
theorem c84_21 {E : Nat → Value} {d : Nat} {st : List Value} {h : gm_H} {Q : gm_R → gm_H → Prop} {lv : List Value} {b0 : Int32} {a : Nat} {Qc : gm_R → gm_H → Prop} (hs : (st.map fun v => v.category).sum ≤ 8) (hr : gm_kd h a = 0) (hd : 1 ≤ d) (hc : gm_Ca E (d - 1) 66 [.ref a, .int b0] h Qc) (kn : ∀ (v9 : Option Value) (h9 : gm_H), Qc (.inl v9) h9 → gm_W E d 84 24 lv (v9.toList ++ st) h9 Q) (kx : ∀ (x9 : Nat) (h9 : gm_H), Qc (.inr x9) h9 → Q (.inr x9) h9) : gm_W E d 84 21 lv (.int b0 :: .ref a :: st) h Q := gw_call (gn_call m84 f84_21 rfl rfl rfl rfl rfl rfl rfl (gs_virt (bs := [.int b0]) (w := 206) (L := 2) rfl rfl rfl rfl hs (by simp [gm_en1]) hr (by decide)) (by decide)) m84 rfl rfl hd hc kn kx
theorem f84_24 : gm_ft 84 24 = some (.goto 4, 3) := by decide +kernel
theorem r84_24 {E : Nat → Value} {d : Nat} {st : List Value} {h : gm_H} {Q : gm_R → gm_H → Prop} {lv : List Value} : gm_W E d 84 24 lv st h Q ↔ gm_W E d 84 28 lv st h Q := gw_brT m84 f84_24 rfl rfl rfl rfl
theorem f84_27 : gm_ft 84 27 = some (.iload_n 1, 1) := by decide +kernel
theorem r84_27 {E : Nat → Value} {d : Nat} {st : List Value} {h : gm_H} {Q : gm_R → gm_H → Prop} {a0 : Value} {x : Int32} : gm_W E d 84 27 [a0, .int x] st h Q ↔ gm_W E d 84 28 [a0, .int x] (.int x :: st) h Q := gw_loc m84 f84_27 rfl rfl
theorem f84_28 : gm_ft 84 28 = some (.ireturn, 1) := by decide +kernel
theorem r84_28 {E : Nat → Value} {d : Nat} {h : gm_H} {Q : gm_R → gm_H → Prop} {lv : List Value} {x : Int32} : gm_W E d 84 28 lv [.int x] h Q ↔ Q (.inl (some (.int x))) h := gw_ret m84 f84_28 rfl rfl rfl rfl rfl rfl rfl rfl (by unfold gm_rt; dsimp only; rw [if_pos ⟨rfl, rfl⟩])
/-! GraphReader.readText()I -/
theorem m85 : gm_mt[85]? = some (⟨"GraphReader", "readText", "()I"⟩, prog_1_method_35_code, 5, (some .int), [], 0, 1) := rfl
theorem f85_0 : gm_ft 85 0 = some (.aload_n 0, 1) := by decide +kernel
theorem r85_0 {E : Nat → Value} {d : Nat} {st : List Value} {h : gm_H} {Q : gm_R → gm_H → Prop} {a1 a2 a3 a4 : Value} {x : Nat} : gm_W E d 85 0 [.ref x, a1, a2, a3, a4] st h Q ↔ gm_W E d 85 1 [.ref x, a1, a2, a3, a4] (.ref x :: st) h Q := gw_loc m85 f85_0 rfl rfl
theorem r85_0n {E : Nat → Value} {d : Nat} {st : List Value} {h : gm_H} {Q : gm_R → gm_H → Prop} {a1 a2 a3 a4 : Value}  : gm_W E d 85 0 [.null, a1, a2, a3, a4] st h Q ↔ gm_W E d 85 1 [.null, a1, a2, a3, a4] (.null :: st) h Q := gw_loc m85 f85_0 rfl rfl
theorem f85_1 : gm_ft 85 1 = some (.iconst (-1), 1) := by decide +kernel
theorem r85_1 {E : Nat → Value} {d : Nat} {st : List Value} {h : gm_H} {Q : gm_R → gm_H → Prop} {lv : List Value} : gm_W E d 85 1 lv st h Q ↔ gm_W E d 85 2 lv (.int (-1 : Int32) :: st) h Q := gw_pure m85 f85_1 rfl
theorem f85_2 : gm_ft 85 2 = some (.invokevirtual 222, 3) := by decide +kernel
theorem c85_2 {E : Nat → Value} {d : Nat} {st : List Value} {h : gm_H} {Q : gm_R → gm_H → Prop} {lv : List Value} {b0 : Int32} {a : Nat} {Qc : gm_R → gm_H → Prop} (hs : (st.map fun v => v.category).sum ≤ 8) (hr : gm_kd h a = 0) (hd : 1 ≤ d) (hc : gm_Ca E (d - 1) 78 [.ref a, .int b0] h Qc) (kn : ∀ (v9 : Option Value) (h9 : gm_H), Qc (.inl v9) h9 → gm_W E d 85 5 lv (v9.toList ++ st) h9 Q) (kx : ∀ (x9 : Nat) (h9 : gm_H), Qc (.inr x9) h9 → Q (.inr x9) h9) : gm_W E d 85 2 lv (.int b0 :: .ref a :: st) h Q := gw_call (gn_call m85 f85_2 rfl rfl rfl rfl rfl rfl rfl (gs_virt (bs := [.int b0]) (w := 348) (L := 2) rfl rfl rfl rfl hs (by simp [gm_en1]) hr (by decide)) (by decide)) m85 rfl rfl hd hc kn kx
theorem f85_5 : gm_ft 85 5 = some (.istore_n 1, 1) := by decide +kernel
theorem r85_5 {E : Nat → Value} {d : Nat} {st : List Value} {h : gm_H} {Q : gm_R → gm_H → Prop} {a0 a1 a2 a3 a4 : Value} {x : Int32} : gm_W E d 85 5 [a0, a1, a2, a3, a4] (.int x :: st) h Q ↔ gm_W E d 85 6 [gm_k a0, .int x, a2, a3, a4] st h Q := gw_loc m85 f85_5 rfl rfl
theorem f85_6 : gm_ft 85 6 = some (.aload_n 0, 1) := by decide +kernel
theorem r85_6 {E : Nat → Value} {d : Nat} {st : List Value} {h : gm_H} {Q : gm_R → gm_H → Prop} {a1 a2 a3 a4 : Value} {x : Nat} : gm_W E d 85 6 [.ref x, a1, a2, a3, a4] st h Q ↔ gm_W E d 85 7 [.ref x, a1, a2, a3, a4] (.ref x :: st) h Q := gw_loc m85 f85_6 rfl rfl
theorem r85_6n {E : Nat → Value} {d : Nat} {st : List Value} {h : gm_H} {Q : gm_R → gm_H → Prop} {a1 a2 a3 a4 : Value}  : gm_W E d 85 6 [.null, a1, a2, a3, a4] st h Q ↔ gm_W E d 85 7 [.null, a1, a2, a3, a4] (.null :: st) h Q := gw_loc m85 f85_6 rfl rfl
theorem f85_7 : gm_ft 85 7 = some (.invokevirtual 225, 3) := by decide +kernel
theorem c85_7 {E : Nat → Value} {d : Nat} {st : List Value} {h : gm_H} {Q : gm_R → gm_H → Prop} {lv : List Value} {a : Nat} {Qc : gm_R → gm_H → Prop} (hs : (st.map fun v => v.category).sum ≤ 8) (hr : gm_kd h a = 0) (hd : 1 ≤ d) (hc : gm_Ca E (d - 1) 71 [.ref a] h Qc) (kn : ∀ (v9 : Option Value) (h9 : gm_H), Qc (.inl v9) h9 → gm_W E d 85 10 lv (v9.toList ++ st) h9 Q) (kx : ∀ (x9 : Nat) (h9 : gm_H), Qc (.inr x9) h9 → Q (.inr x9) h9) : gm_W E d 85 7 lv (.ref a :: st) h Q := gw_call (gn_call m85 f85_7 rfl rfl rfl rfl rfl rfl rfl (gs_virt (bs := []) (w := 299) (L := 4) rfl rfl rfl rfl hs (by simp [gm_en1]) hr (by decide)) (by decide)) m85 rfl rfl hd hc kn kx
theorem f85_10 : gm_ft 85 10 = some (.istore_n 2, 1) := by decide +kernel
theorem r85_10 {E : Nat → Value} {d : Nat} {st : List Value} {h : gm_H} {Q : gm_R → gm_H → Prop} {a0 a1 a2 a3 a4 : Value} {x : Int32} : gm_W E d 85 10 [a0, a1, a2, a3, a4] (.int x :: st) h Q ↔ gm_W E d 85 11 [a0, gm_k a1, .int x, a3, a4] st h Q := gw_loc m85 f85_10 rfl rfl
theorem f85_11 : gm_ft 85 11 = some (.new 19, 3) := by decide +kernel
theorem r85_11 {E : Nat → Value} {d : Nat} {st : List Value} {h : gm_H} {Q : gm_R → gm_H → Prop} {lv : List Value} : gm_W E d 85 11 lv st h Q ↔ gm_W E d 85 14 lv (.ref h.1 :: st) (gm_nw h (4, [.int 0, .null, .null, .int 0, .int 0]) 5) Q := gw_nw m85 f85_11 rfl rfl rfl rfl rfl rfl rfl
theorem f85_14 : gm_ft 85 14 = some (.dup, 1) := by decide +kernel
theorem r85_14 {E : Nat → Value} {d : Nat} {st : List Value} {h : gm_H} {Q : gm_R → gm_H → Prop} {lv : List Value} {a : Nat} : gm_W E d 85 14 lv (.ref a :: st) h Q ↔ gm_W E d 85 15 lv (.ref a :: .ref a :: st) h Q := gw_pure m85 f85_14 rfl
theorem r85_14i {E : Nat → Value} {d : Nat} {st : List Value} {h : gm_H} {Q : gm_R → gm_H → Prop} {lv : List Value} {x : Int32} : gm_W E d 85 14 lv (.int x :: st) h Q ↔ gm_W E d 85 15 lv (.int x :: .int x :: st) h Q := gw_pure m85 f85_14 rfl
theorem f85_15 : gm_ft 85 15 = some (.iconst 1, 1) := by decide +kernel
theorem r85_15 {E : Nat → Value} {d : Nat} {st : List Value} {h : gm_H} {Q : gm_R → gm_H → Prop} {lv : List Value} : gm_W E d 85 15 lv st h Q ↔ gm_W E d 85 16 lv (.int (1 : Int32) :: st) h Q := gw_pure m85 f85_15 rfl
theorem f85_16 : gm_ft 85 16 = some (.aconst_null, 1) := by decide +kernel
theorem r85_16 {E : Nat → Value} {d : Nat} {st : List Value} {h : gm_H} {Q : gm_R → gm_H → Prop} {lv : List Value} : gm_W E d 85 16 lv st h Q ↔ gm_W E d 85 17 lv (.null :: st) h Q := gw_pure m85 f85_16 rfl
theorem f85_17 : gm_ft 85 17 = some (.aload_n 0, 1) := by decide +kernel
theorem r85_17 {E : Nat → Value} {d : Nat} {st : List Value} {h : gm_H} {Q : gm_R → gm_H → Prop} {a1 a2 a3 a4 : Value} {x : Nat} : gm_W E d 85 17 [.ref x, a1, a2, a3, a4] st h Q ↔ gm_W E d 85 18 [.ref x, a1, a2, a3, a4] (.ref x :: st) h Q := gw_loc m85 f85_17 rfl rfl
theorem r85_17n {E : Nat → Value} {d : Nat} {st : List Value} {h : gm_H} {Q : gm_R → gm_H → Prop} {a1 a2 a3 a4 : Value}  : gm_W E d 85 17 [.null, a1, a2, a3, a4] st h Q ↔ gm_W E d 85 18 [.null, a1, a2, a3, a4] (.null :: st) h Q := gw_loc m85 f85_17 rfl rfl
theorem f85_18 : gm_ft 85 18 = some (.getfield 96, 3) := by decide +kernel
theorem r85_18 {E : Nat → Value} {d : Nat} {st : List Value} {h : gm_H} {Q : gm_R → gm_H → Prop} {lv : List Value} {a : Nat} (hk : gm_kd h a = 0) : gm_W E d 85 18 lv (.ref a :: st) h Q ↔ gm_W E d 85 21 lv (gm_fv h a 7 :: st) h Q := gw_rd m85 f85_18 rfl rfl rfl rfl (gs_get k0_96 hk (by decide))
theorem f85_21 : gm_ft 85 21 = some (.iload_n 2, 1) := by decide +kernel
theorem r85_21 {E : Nat → Value} {d : Nat} {st : List Value} {h : gm_H} {Q : gm_R → gm_H → Prop} {a0 a1 a3 a4 : Value} {x : Int32} : gm_W E d 85 21 [a0, a1, .int x, a3, a4] st h Q ↔ gm_W E d 85 22 [a0, a1, .int x, a3, a4] (.int x :: st) h Q := gw_loc m85 f85_21 rfl rfl
theorem f85_22 : gm_ft 85 22 = some (.isub, 1) := by decide +kernel
theorem r85_22 {E : Nat → Value} {d : Nat} {st : List Value} {h : gm_H} {Q : gm_R → gm_H → Prop} {lv : List Value} {x y : Int32} : gm_W E d 85 22 lv (.int y :: .int x :: st) h Q ↔ gm_W E d 85 23 lv (.int (x - y) :: st) h Q := gw_pure m85 f85_22 rfl
theorem f85_23 : gm_ft 85 23 = some (.invokespecial 228, 3) := by decide +kernel
theorem c85_23 {E : Nat → Value} {d : Nat} {st : List Value} {h : gm_H} {Q : gm_R → gm_H → Prop} {lv : List Value} {b0 : Int32} {b1 : Value} {b2 : Int32} {a : Nat} {Qc : gm_R → gm_H → Prop} (hs : (st.map fun v => v.category).sum ≤ 8) (he : (gm_en1 [.ref a, .int b0, b1, .int b2]).length ≤ 4) (hd : 1 ≤ d) (hc : gm_Ca E (d - 1) 123 [.ref a, .int b0, b1, .int b2] h Qc) (kn : ∀ (v9 : Option Value) (h9 : gm_H), Qc (.inl v9) h9 → gm_W E d 85 26 lv (v9.toList ++ st) h9 Q) (kx : ∀ (x9 : Nat) (h9 : gm_H), Qc (.inr x9) h9 → Q (.inr x9) h9) : gm_W E d 85 23 lv (.int b2 :: b1 :: .int b0 :: .ref a :: st) h Q := gw_call (gn_call m85 f85_23 rfl rfl rfl rfl rfl rfl rfl (gc_init (bs := [.int b2, b1, .int b0]) (w := 518) (L := 4) rfl rfl rfl hs he (by decide)) (by decide)) m85 rfl rfl hd hc kn kx
theorem f85_26 : gm_ft 85 26 = some (.astore_n 3, 1) := by decide +kernel
theorem r85_26 {E : Nat → Value} {d : Nat} {st : List Value} {h : gm_H} {Q : gm_R → gm_H → Prop} {a0 a1 a2 a3 a4 : Value} {x : Nat} : gm_W E d 85 26 [a0, a1, a2, a3, a4] (.ref x :: st) h Q ↔ gm_W E d 85 27 [a0, a1, gm_k a2, .ref x, a4] st h Q := gw_loc m85 f85_26 rfl rfl
theorem r85_26n {E : Nat → Value} {d : Nat} {st : List Value} {h : gm_H} {Q : gm_R → gm_H → Prop} {a0 a1 a2 a3 a4 : Value}  : gm_W E d 85 26 [a0, a1, a2, a3, a4] (.null :: st) h Q ↔ gm_W E d 85 27 [a0, a1, gm_k a2, .null, a4] st h Q := gw_loc m85 f85_26 rfl rfl
theorem f85_27 : gm_ft 85 27 = some (.iconst 0, 1) := by decide +kernel
theorem r85_27 {E : Nat → Value} {d : Nat} {st : List Value} {h : gm_H} {Q : gm_R → gm_H → Prop} {lv : List Value} : gm_W E d 85 27 lv st h Q ↔ gm_W E d 85 28 lv (.int (0 : Int32) :: st) h Q := gw_pure m85 f85_27 rfl
theorem f85_28 : gm_ft 85 28 = some (.istore 4, 2) := by decide +kernel
theorem r85_28 {E : Nat → Value} {d : Nat} {st : List Value} {h : gm_H} {Q : gm_R → gm_H → Prop} {a0 a1 a2 a3 a4 : Value} {x : Int32} : gm_W E d 85 28 [a0, a1, a2, a3, a4] (.int x :: st) h Q ↔ gm_W E d 85 30 [a0, a1, a2, gm_k a3, .int x] st h Q := gw_loc m85 f85_28 rfl rfl
theorem f85_30 : gm_ft 85 30 = some (.iload 4, 2) := by decide +kernel
theorem r85_30 {E : Nat → Value} {d : Nat} {st : List Value} {h : gm_H} {Q : gm_R → gm_H → Prop} {a0 a1 a2 a3 : Value} {x : Int32} : gm_W E d 85 30 [a0, a1, a2, a3, .int x] st h Q ↔ gm_W E d 85 32 [a0, a1, a2, a3, .int x] (.int x :: st) h Q := gw_loc m85 f85_30 rfl rfl
theorem f85_32 : gm_ft 85 32 = some (.aload_n 3, 1) := by decide +kernel
theorem r85_32 {E : Nat → Value} {d : Nat} {st : List Value} {h : gm_H} {Q : gm_R → gm_H → Prop} {a0 a1 a2 a4 : Value} {x : Nat} : gm_W E d 85 32 [a0, a1, a2, .ref x, a4] st h Q ↔ gm_W E d 85 33 [a0, a1, a2, .ref x, a4] (.ref x :: st) h Q := gw_loc m85 f85_32 rfl rfl
theorem r85_32n {E : Nat → Value} {d : Nat} {st : List Value} {h : gm_H} {Q : gm_R → gm_H → Prop} {a0 a1 a2 a4 : Value}  : gm_W E d 85 32 [a0, a1, a2, .null, a4] st h Q ↔ gm_W E d 85 33 [a0, a1, a2, .null, a4] (.null :: st) h Q := gw_loc m85 f85_32 rfl rfl
theorem f85_33 : gm_ft 85 33 = some (.getfield 147, 3) := by decide +kernel
theorem r85_33 {E : Nat → Value} {d : Nat} {st : List Value} {h : gm_H} {Q : gm_R → gm_H → Prop} {lv : List Value} {a : Nat} (hk : gm_kd h a = 4) : gm_W E d 85 33 lv (.ref a :: st) h Q ↔ gm_W E d 85 36 lv (gm_fv h a 2 :: st) h Q := gw_rd m85 f85_33 rfl rfl rfl rfl (gs_get k0_147 hk (by decide))
theorem f85_36 : gm_ft 85 36 = some (.arraylength, 1) := by decide +kernel
theorem r85_36 {E : Nat → Value} {d : Nat} {st : List Value} {h : gm_H} {Q : gm_R → gm_H → Prop} {lv : List Value} {a : Nat} (hk : 100 ≤ gm_kd h a ∧ gm_kd h a < 900) : gm_W E d 85 36 lv (.ref a :: st) h Q ↔ gm_W E d 85 37 lv (.int (nI (gm_ln h a)) :: st) h Q := gw_rd m85 f85_36 rfl rfl rfl rfl (gs_len hk)
theorem f85_37 : gm_ft 85 37 = some (.if_icmp .ge 26, 3) := by decide +kernel
theorem r85_37 {E : Nat → Value} {d : Nat} {st : List Value} {h : gm_H} {Q : gm_R → gm_H → Prop} {lv : List Value} {x y : Int32} : gm_W E d 85 37 lv (.int y :: .int x :: st) h Q ↔ (if y ≤ x then gm_W E d 85 63 lv st h Q else gm_W E d 85 40 lv st h Q) := (gw_br m85 f85_37 rfl rfl rfl rfl).trans gw_if
theorem f85_40 : gm_ft 85 40 = some (.aload_n 3, 1) := by decide +kernel
theorem r85_40 {E : Nat → Value} {d : Nat} {st : List Value} {h : gm_H} {Q : gm_R → gm_H → Prop} {a0 a1 a2 a4 : Value} {x : Nat} : gm_W E d 85 40 [a0, a1, a2, .ref x, a4] st h Q ↔ gm_W E d 85 41 [a0, a1, a2, .ref x, a4] (.ref x :: st) h Q := gw_loc m85 f85_40 rfl rfl
theorem r85_40n {E : Nat → Value} {d : Nat} {st : List Value} {h : gm_H} {Q : gm_R → gm_H → Prop} {a0 a1 a2 a4 : Value}  : gm_W E d 85 40 [a0, a1, a2, .null, a4] st h Q ↔ gm_W E d 85 41 [a0, a1, a2, .null, a4] (.null :: st) h Q := gw_loc m85 f85_40 rfl rfl
theorem f85_41 : gm_ft 85 41 = some (.getfield 147, 3) := by decide +kernel
theorem r85_41 {E : Nat → Value} {d : Nat} {st : List Value} {h : gm_H} {Q : gm_R → gm_H → Prop} {lv : List Value} {a : Nat} (hk : gm_kd h a = 4) : gm_W E d 85 41 lv (.ref a :: st) h Q ↔ gm_W E d 85 44 lv (gm_fv h a 2 :: st) h Q := gw_rd m85 f85_41 rfl rfl rfl rfl (gs_get k0_147 hk (by decide))
theorem f85_44 : gm_ft 85 44 = some (.iload 4, 2) := by decide +kernel
theorem r85_44 {E : Nat → Value} {d : Nat} {st : List Value} {h : gm_H} {Q : gm_R → gm_H → Prop} {a0 a1 a2 a3 : Value} {x : Int32} : gm_W E d 85 44 [a0, a1, a2, a3, .int x] st h Q ↔ gm_W E d 85 46 [a0, a1, a2, a3, .int x] (.int x :: st) h Q := gw_loc m85 f85_44 rfl rfl
theorem f85_46 : gm_ft 85 46 = some (.aload_n 0, 1) := by decide +kernel
theorem r85_46 {E : Nat → Value} {d : Nat} {st : List Value} {h : gm_H} {Q : gm_R → gm_H → Prop} {a1 a2 a3 a4 : Value} {x : Nat} : gm_W E d 85 46 [.ref x, a1, a2, a3, a4] st h Q ↔ gm_W E d 85 47 [.ref x, a1, a2, a3, a4] (.ref x :: st) h Q := gw_loc m85 f85_46 rfl rfl
theorem r85_46n {E : Nat → Value} {d : Nat} {st : List Value} {h : gm_H} {Q : gm_R → gm_H → Prop} {a1 a2 a3 a4 : Value}  : gm_W E d 85 46 [.null, a1, a2, a3, a4] st h Q ↔ gm_W E d 85 47 [.null, a1, a2, a3, a4] (.null :: st) h Q := gw_loc m85 f85_46 rfl rfl
theorem f85_47 : gm_ft 85 47 = some (.getfield 15, 3) := by decide +kernel
theorem r85_47 {E : Nat → Value} {d : Nat} {st : List Value} {h : gm_H} {Q : gm_R → gm_H → Prop} {lv : List Value} {a : Nat} (hk : gm_kd h a = 0) : gm_W E d 85 47 lv (.ref a :: st) h Q ↔ gm_W E d 85 50 lv (gm_fv h a 5 :: st) h Q := gw_rd m85 f85_47 rfl rfl rfl rfl (gs_get k0_15 hk (by decide))
theorem f85_50 : gm_ft 85 50 = some (.iload_n 2, 1) := by decide +kernel
theorem r85_50 {E : Nat → Value} {d : Nat} {st : List Value} {h : gm_H} {Q : gm_R → gm_H → Prop} {a0 a1 a3 a4 : Value} {x : Int32} : gm_W E d 85 50 [a0, a1, .int x, a3, a4] st h Q ↔ gm_W E d 85 51 [a0, a1, .int x, a3, a4] (.int x :: st) h Q := gw_loc m85 f85_50 rfl rfl
theorem f85_51 : gm_ft 85 51 = some (.iload 4, 2) := by decide +kernel
theorem r85_51 {E : Nat → Value} {d : Nat} {st : List Value} {h : gm_H} {Q : gm_R → gm_H → Prop} {a0 a1 a2 a3 : Value} {x : Int32} : gm_W E d 85 51 [a0, a1, a2, a3, .int x] st h Q ↔ gm_W E d 85 53 [a0, a1, a2, a3, .int x] (.int x :: st) h Q := gw_loc m85 f85_51 rfl rfl
theorem f85_53 : gm_ft 85 53 = some (.iadd, 1) := by decide +kernel
theorem r85_53 {E : Nat → Value} {d : Nat} {st : List Value} {h : gm_H} {Q : gm_R → gm_H → Prop} {lv : List Value} {x y : Int32} : gm_W E d 85 53 lv (.int y :: .int x :: st) h Q ↔ gm_W E d 85 54 lv (.int (x + y) :: st) h Q := gw_pure m85 f85_53 rfl
theorem f85_54 : gm_ft 85 54 = some (.baload, 1) := by decide +kernel
theorem r85_54 {E : Nat → Value} {d : Nat} {st : List Value} {h : gm_H} {Q : gm_R → gm_H → Prop} {lv : List Value} {a j : Nat} (hk : (gm_kd h a % 100 = 2 ∨ gm_kd h a % 100 = 3) ∧ 100 ≤ gm_kd h a ∧ gm_kd h a < 900) (hj : j < gm_ln h a) (hl : gm_ln h a < 2 ^ 31) : gm_W E d 85 54 lv (.int (nI j) :: .ref a :: st) h Q ↔ gm_W E d 85 55 lv (gm_fv h a j :: st) h Q := gw_rd m85 f85_54 rfl rfl rfl rfl (gs_ld (P := fun t => t == 2 || t == 3) hk.2 (by have := hk.1; simp [this] <;> omega) hj hl)
theorem f85_55 : gm_ft 85 55 = some (.i2l, 1) := by decide +kernel
theorem r85_55 {E : Nat → Value} {d : Nat} {st : List Value} {h : gm_H} {Q : gm_R → gm_H → Prop} {lv : List Value} {x : Int32} : gm_W E d 85 55 lv (.int x :: st) h Q ↔ gm_W E d 85 56 lv (.long (x.toInt64) :: st) h Q := gw_pure m85 f85_55 rfl
theorem f85_56 : gm_ft 85 56 = some (.lastore, 1) := by decide +kernel
theorem r85_56 {E : Nat → Value} {d : Nat} {st : List Value} {h : gm_H} {Q : gm_R → gm_H → Prop} {lv : List Value} {a j : Nat} {x : Int64} (hk : gm_kd h a = 101) (hj : j < gm_ln h a) (hl : gm_ln h a < 2 ^ 31) : gm_W E d 85 56 lv (.long x :: .int (nI j) :: .ref a :: st) h Q ↔ gm_W E d 85 57 lv st (gm_sf h a j (.long x)) Q := gw_wr m85 f85_56 rfl rfl rfl rfl rfl (gs_st hk (by decide) hj hl)
theorem f85_57 : gm_ft 85 57 = some (.iinc 4 1, 3) := by decide +kernel
theorem r85_57 {E : Nat → Value} {d : Nat} {st : List Value} {h : gm_H} {Q : gm_R → gm_H → Prop} {a0 a1 a2 a3 : Value} {x : Int32} : gm_W E d 85 57 [a0, a1, a2, a3, .int x] st h Q ↔ gm_W E d 85 60 [a0, a1, a2, gm_k a3, .int (x + (1 : Int32))] st h Q := gw_loc m85 f85_57 rfl rfl
theorem f85_60 : gm_ft 85 60 = some (.goto (-30), 3) := by decide +kernel
theorem r85_60 {E : Nat → Value} {d : Nat} {st : List Value} {h : gm_H} {Q : gm_R → gm_H → Prop} {lv : List Value} : gm_W E d 85 60 lv st h Q ↔ gm_W E d 85 30 lv st h Q := gw_brT m85 f85_60 rfl rfl rfl rfl
theorem f85_63 : gm_ft 85 63 = some (.aload_n 0, 1) := by decide +kernel
theorem r85_63 {E : Nat → Value} {d : Nat} {st : List Value} {h : gm_H} {Q : gm_R → gm_H → Prop} {a1 a2 a3 a4 : Value} {x : Nat} : gm_W E d 85 63 [.ref x, a1, a2, a3, a4] st h Q ↔ gm_W E d 85 64 [.ref x, a1, a2, a3, a4] (.ref x :: st) h Q := gw_loc m85 f85_63 rfl rfl
theorem r85_63n {E : Nat → Value} {d : Nat} {st : List Value} {h : gm_H} {Q : gm_R → gm_H → Prop} {a1 a2 a3 a4 : Value}  : gm_W E d 85 63 [.null, a1, a2, a3, a4] st h Q ↔ gm_W E d 85 64 [.null, a1, a2, a3, a4] (.null :: st) h Q := gw_loc m85 f85_63 rfl rfl
theorem f85_64 : gm_ft 85 64 = some (.getfield 28, 3) := by decide +kernel
theorem r85_64 {E : Nat → Value} {d : Nat} {st : List Value} {h : gm_H} {Q : gm_R → gm_H → Prop} {lv : List Value} {a : Nat} (hk : gm_kd h a = 0) : gm_W E d 85 64 lv (.ref a :: st) h Q ↔ gm_W E d 85 67 lv (gm_fv h a 10 :: st) h Q := gw_rd m85 f85_64 rfl rfl rfl rfl (gs_get k0_28 hk (by decide))
theorem f85_67 : gm_ft 85 67 = some (.getfield 215, 3) := by decide +kernel
theorem r85_67 {E : Nat → Value} {d : Nat} {st : List Value} {h : gm_H} {Q : gm_R → gm_H → Prop} {lv : List Value} {a : Nat} (hk : gm_kd h a = 2) : gm_W E d 85 67 lv (.ref a :: st) h Q ↔ gm_W E d 85 70 lv (gm_fv h a 0 :: st) h Q := gw_rd m85 f85_67 rfl rfl rfl rfl (gs_get k0_215 hk (by decide))
theorem f85_70 : gm_ft 85 70 = some (.iload_n 1, 1) := by decide +kernel
theorem r85_70 {E : Nat → Value} {d : Nat} {st : List Value} {h : gm_H} {Q : gm_R → gm_H → Prop} {a0 a2 a3 a4 : Value} {x : Int32} : gm_W E d 85 70 [a0, .int x, a2, a3, a4] st h Q ↔ gm_W E d 85 71 [a0, .int x, a2, a3, a4] (.int x :: st) h Q := gw_loc m85 f85_70 rfl rfl
theorem f85_71 : gm_ft 85 71 = some (.aload_n 0, 1) := by decide +kernel
theorem r85_71 {E : Nat → Value} {d : Nat} {st : List Value} {h : gm_H} {Q : gm_R → gm_H → Prop} {a1 a2 a3 a4 : Value} {x : Nat} : gm_W E d 85 71 [.ref x, a1, a2, a3, a4] st h Q ↔ gm_W E d 85 72 [.ref x, a1, a2, a3, a4] (.ref x :: st) h Q := gw_loc m85 f85_71 rfl rfl
theorem r85_71n {E : Nat → Value} {d : Nat} {st : List Value} {h : gm_H} {Q : gm_R → gm_H → Prop} {a1 a2 a3 a4 : Value}  : gm_W E d 85 71 [.null, a1, a2, a3, a4] st h Q ↔ gm_W E d 85 72 [.null, a1, a2, a3, a4] (.null :: st) h Q := gw_loc m85 f85_71 rfl rfl
theorem f85_72 : gm_ft 85 72 = some (.aload_n 3, 1) := by decide +kernel
theorem r85_72 {E : Nat → Value} {d : Nat} {st : List Value} {h : gm_H} {Q : gm_R → gm_H → Prop} {a0 a1 a2 a4 : Value} {x : Nat} : gm_W E d 85 72 [a0, a1, a2, .ref x, a4] st h Q ↔ gm_W E d 85 73 [a0, a1, a2, .ref x, a4] (.ref x :: st) h Q := gw_loc m85 f85_72 rfl rfl
theorem r85_72n {E : Nat → Value} {d : Nat} {st : List Value} {h : gm_H} {Q : gm_R → gm_H → Prop} {a0 a1 a2 a4 : Value}  : gm_W E d 85 72 [a0, a1, a2, .null, a4] st h Q ↔ gm_W E d 85 73 [a0, a1, a2, .null, a4] (.null :: st) h Q := gw_loc m85 f85_72 rfl rfl
theorem f85_73 : gm_ft 85 73 = some (.invokevirtual 231, 3) := by decide +kernel
theorem c85_73 {E : Nat → Value} {d : Nat} {st : List Value} {h : gm_H} {Q : gm_R → gm_H → Prop} {lv : List Value} {b0 : Value} {a : Nat} {Qc : gm_R → gm_H → Prop} (hs : (st.map fun v => v.category).sum ≤ 8) (he : (gm_en1 [.ref a, b0]).length ≤ 2) (hr : gm_kd h a = 0) (hd : 1 ≤ d) (hc : gm_Ca E (d - 1) 77 [.ref a, b0] h Qc) (kn : ∀ (v9 : Option Value) (h9 : gm_H), Qc (.inl v9) h9 → gm_W E d 85 76 lv (v9.toList ++ st) h9 Q) (kx : ∀ (x9 : Nat) (h9 : gm_H), Qc (.inr x9) h9 → Q (.inr x9) h9) : gm_W E d 85 73 lv (b0 :: .ref a :: st) h Q := gw_call (gn_call m85 f85_73 rfl rfl rfl rfl rfl rfl rfl (gs_virt (bs := [b0]) (w := 555) (L := 2) rfl rfl rfl rfl hs he hr (by decide)) (by decide)) m85 rfl rfl hd hc kn kx
theorem f85_76 : gm_ft 85 76 = some (.iastore, 1) := by decide +kernel
theorem r85_76 {E : Nat → Value} {d : Nat} {st : List Value} {h : gm_H} {Q : gm_R → gm_H → Prop} {lv : List Value} {a j : Nat} {x : Int32} (hk : gm_kd h a = 100) (hj : j < gm_ln h a) (hl : gm_ln h a < 2 ^ 31) : gm_W E d 85 76 lv (.int x :: .int (nI j) :: .ref a :: st) h Q ↔ gm_W E d 85 77 lv st (gm_sf h a j (.int x)) Q := gw_wr m85 f85_76 rfl rfl rfl rfl rfl (gs_st hk (by decide) hj hl)
theorem f85_77 : gm_ft 85 77 = some (.aload_n 0, 1) := by decide +kernel
theorem r85_77 {E : Nat → Value} {d : Nat} {st : List Value} {h : gm_H} {Q : gm_R → gm_H → Prop} {a1 a2 a3 a4 : Value} {x : Nat} : gm_W E d 85 77 [.ref x, a1, a2, a3, a4] st h Q ↔ gm_W E d 85 78 [.ref x, a1, a2, a3, a4] (.ref x :: st) h Q := gw_loc m85 f85_77 rfl rfl
theorem r85_77n {E : Nat → Value} {d : Nat} {st : List Value} {h : gm_H} {Q : gm_R → gm_H → Prop} {a1 a2 a3 a4 : Value}  : gm_W E d 85 77 [.null, a1, a2, a3, a4] st h Q ↔ gm_W E d 85 78 [.null, a1, a2, a3, a4] (.null :: st) h Q := gw_loc m85 f85_77 rfl rfl
theorem f85_78 : gm_ft 85 78 = some (.getfield 28, 3) := by decide +kernel
theorem r85_78 {E : Nat → Value} {d : Nat} {st : List Value} {h : gm_H} {Q : gm_R → gm_H → Prop} {lv : List Value} {a : Nat} (hk : gm_kd h a = 0) : gm_W E d 85 78 lv (.ref a :: st) h Q ↔ gm_W E d 85 81 lv (gm_fv h a 10 :: st) h Q := gw_rd m85 f85_78 rfl rfl rfl rfl (gs_get k0_28 hk (by decide))
theorem f85_81 : gm_ft 85 81 = some (.getfield 215, 3) := by decide +kernel
theorem r85_81 {E : Nat → Value} {d : Nat} {st : List Value} {h : gm_H} {Q : gm_R → gm_H → Prop} {lv : List Value} {a : Nat} (hk : gm_kd h a = 2) : gm_W E d 85 81 lv (.ref a :: st) h Q ↔ gm_W E d 85 84 lv (gm_fv h a 0 :: st) h Q := gw_rd m85 f85_81 rfl rfl rfl rfl (gs_get k0_215 hk (by decide))
theorem f85_84 : gm_ft 85 84 = some (.iload_n 1, 1) := by decide +kernel
theorem r85_84 {E : Nat → Value} {d : Nat} {st : List Value} {h : gm_H} {Q : gm_R → gm_H → Prop} {a0 a2 a3 a4 : Value} {x : Int32} : gm_W E d 85 84 [a0, .int x, a2, a3, a4] st h Q ↔ gm_W E d 85 85 [a0, .int x, a2, a3, a4] (.int x :: st) h Q := gw_loc m85 f85_84 rfl rfl
theorem f85_85 : gm_ft 85 85 = some (.iaload, 1) := by decide +kernel
theorem r85_85 {E : Nat → Value} {d : Nat} {st : List Value} {h : gm_H} {Q : gm_R → gm_H → Prop} {lv : List Value} {a j : Nat} (hk : gm_kd h a % 100 = 0 ∧ 100 ≤ gm_kd h a ∧ gm_kd h a < 900) (hj : j < gm_ln h a) (hl : gm_ln h a < 2 ^ 31) : gm_W E d 85 85 lv (.int (nI j) :: .ref a :: st) h Q ↔ gm_W E d 85 86 lv (gm_fv h a j :: st) h Q := gw_rd m85 f85_85 rfl rfl rfl rfl (gs_ld (P := fun t => t == 0) hk.2 (by have := hk.1; simp [this] <;> omega) hj hl)
theorem f85_86 : gm_ft 85 86 = some (.ireturn, 1) := by decide +kernel
theorem r85_86 {E : Nat → Value} {d : Nat} {h : gm_H} {Q : gm_R → gm_H → Prop} {lv : List Value} {x : Int32} : gm_W E d 85 86 lv [.int x] h Q ↔ Q (.inl (some (.int x))) h := gw_ret m85 f85_86 rfl rfl rfl rfl rfl rfl rfl rfl (by unfold gm_rt; dsimp only; rw [if_pos ⟨rfl, rfl⟩])
/-! GraphReader.readArray(I)I -/
theorem m86 : gm_mt[86]? = some (⟨"GraphReader", "readArray", "(I)I"⟩, prog_1_method_36_code, 8, (some .int), [], 0, 1) := rfl
theorem f86_0 : gm_ft 86 0 = some (.aload_n 0, 1) := by decide +kernel
theorem r86_0 {E : Nat → Value} {d : Nat} {st : List Value} {h : gm_H} {Q : gm_R → gm_H → Prop} {a1 a2 a3 a4 a5 a6 a7 : Value} {x : Nat} : gm_W E d 86 0 [.ref x, a1, a2, a3, a4, a5, a6, a7] st h Q ↔ gm_W E d 86 1 [.ref x, a1, a2, a3, a4, a5, a6, a7] (.ref x :: st) h Q := gw_loc m86 f86_0 rfl rfl
theorem r86_0n {E : Nat → Value} {d : Nat} {st : List Value} {h : gm_H} {Q : gm_R → gm_H → Prop} {a1 a2 a3 a4 a5 a6 a7 : Value}  : gm_W E d 86 0 [.null, a1, a2, a3, a4, a5, a6, a7] st h Q ↔ gm_W E d 86 1 [.null, a1, a2, a3, a4, a5, a6, a7] (.null :: st) h Q := gw_loc m86 f86_0 rfl rfl
theorem f86_1 : gm_ft 86 1 = some (.iload_n 1, 1) := by decide +kernel
theorem r86_1 {E : Nat → Value} {d : Nat} {st : List Value} {h : gm_H} {Q : gm_R → gm_H → Prop} {a0 a2 a3 a4 a5 a6 a7 : Value} {x : Int32} : gm_W E d 86 1 [a0, .int x, a2, a3, a4, a5, a6, a7] st h Q ↔ gm_W E d 86 2 [a0, .int x, a2, a3, a4, a5, a6, a7] (.int x :: st) h Q := gw_loc m86 f86_1 rfl rfl
theorem f86_2 : gm_ft 86 2 = some (.invokevirtual 235, 3) := by decide +kernel
theorem c86_2 {E : Nat → Value} {d : Nat} {st : List Value} {h : gm_H} {Q : gm_R → gm_H → Prop} {lv : List Value} {b0 : Int32} {a : Nat} {Qc : gm_R → gm_H → Prop} (hs : (st.map fun v => v.category).sum ≤ 8) (hr : gm_kd h a = 0) (hd : 1 ≤ d) (hc : gm_Ca E (d - 1) 96 [.ref a, .int b0] h Qc) (kn : ∀ (v9 : Option Value) (h9 : gm_H), Qc (.inl v9) h9 → gm_W E d 86 5 lv (v9.toList ++ st) h9 Q) (kx : ∀ (x9 : Nat) (h9 : gm_H), Qc (.inr x9) h9 → Q (.inr x9) h9) : gm_W E d 86 2 lv (.int b0 :: .ref a :: st) h Q := gw_call (gn_call m86 f86_2 rfl rfl rfl rfl rfl rfl rfl (gs_virt (bs := [.int b0]) (w := 505) (L := 3) rfl rfl rfl rfl hs (by simp [gm_en1]) hr (by decide)) (by decide)) m86 rfl rfl hd hc kn kx
theorem f86_5 : gm_ft 86 5 = some (.astore_n 2, 1) := by decide +kernel
theorem r86_5 {E : Nat → Value} {d : Nat} {st : List Value} {h : gm_H} {Q : gm_R → gm_H → Prop} {a0 a1 a2 a3 a4 a5 a6 a7 : Value} {x : Nat} : gm_W E d 86 5 [a0, a1, a2, a3, a4, a5, a6, a7] (.ref x :: st) h Q ↔ gm_W E d 86 6 [a0, gm_k a1, .ref x, a3, a4, a5, a6, a7] st h Q := gw_loc m86 f86_5 rfl rfl
theorem r86_5n {E : Nat → Value} {d : Nat} {st : List Value} {h : gm_H} {Q : gm_R → gm_H → Prop} {a0 a1 a2 a3 a4 a5 a6 a7 : Value}  : gm_W E d 86 5 [a0, a1, a2, a3, a4, a5, a6, a7] (.null :: st) h Q ↔ gm_W E d 86 6 [a0, gm_k a1, .null, a3, a4, a5, a6, a7] st h Q := gw_loc m86 f86_5 rfl rfl
theorem f86_6 : gm_ft 86 6 = some (.aload_n 0, 1) := by decide +kernel
theorem r86_6 {E : Nat → Value} {d : Nat} {st : List Value} {h : gm_H} {Q : gm_R → gm_H → Prop} {a1 a2 a3 a4 a5 a6 a7 : Value} {x : Nat} : gm_W E d 86 6 [.ref x, a1, a2, a3, a4, a5, a6, a7] st h Q ↔ gm_W E d 86 7 [.ref x, a1, a2, a3, a4, a5, a6, a7] (.ref x :: st) h Q := gw_loc m86 f86_6 rfl rfl
theorem r86_6n {E : Nat → Value} {d : Nat} {st : List Value} {h : gm_H} {Q : gm_R → gm_H → Prop} {a1 a2 a3 a4 a5 a6 a7 : Value}  : gm_W E d 86 6 [.null, a1, a2, a3, a4, a5, a6, a7] st h Q ↔ gm_W E d 86 7 [.null, a1, a2, a3, a4, a5, a6, a7] (.null :: st) h Q := gw_loc m86 f86_6 rfl rfl
theorem f86_7 : gm_ft 86 7 = some (.aload_n 2, 1) := by decide +kernel
theorem r86_7 {E : Nat → Value} {d : Nat} {st : List Value} {h : gm_H} {Q : gm_R → gm_H → Prop} {a0 a1 a3 a4 a5 a6 a7 : Value} {x : Nat} : gm_W E d 86 7 [a0, a1, .ref x, a3, a4, a5, a6, a7] st h Q ↔ gm_W E d 86 8 [a0, a1, .ref x, a3, a4, a5, a6, a7] (.ref x :: st) h Q := gw_loc m86 f86_7 rfl rfl
theorem r86_7n {E : Nat → Value} {d : Nat} {st : List Value} {h : gm_H} {Q : gm_R → gm_H → Prop} {a0 a1 a3 a4 a5 a6 a7 : Value}  : gm_W E d 86 7 [a0, a1, .null, a3, a4, a5, a6, a7] st h Q ↔ gm_W E d 86 8 [a0, a1, .null, a3, a4, a5, a6, a7] (.null :: st) h Q := gw_loc m86 f86_7 rfl rfl
theorem f86_8 : gm_ft 86 8 = some (.getfield 239, 3) := by decide +kernel
theorem r86_8 {E : Nat → Value} {d : Nat} {st : List Value} {h : gm_H} {Q : gm_R → gm_H → Prop} {lv : List Value} {a : Nat} (hk : gm_kd h a = 1) : gm_W E d 86 8 lv (.ref a :: st) h Q ↔ gm_W E d 86 11 lv (gm_fv h a 0 :: st) h Q := gw_rd m86 f86_8 rfl rfl rfl rfl (gs_get k0_239 hk (by decide))
theorem f86_11 : gm_ft 86 11 = some (.aload_n 2, 1) := by decide +kernel
theorem r86_11 {E : Nat → Value} {d : Nat} {st : List Value} {h : gm_H} {Q : gm_R → gm_H → Prop} {a0 a1 a3 a4 a5 a6 a7 : Value} {x : Nat} : gm_W E d 86 11 [a0, a1, .ref x, a3, a4, a5, a6, a7] st h Q ↔ gm_W E d 86 12 [a0, a1, .ref x, a3, a4, a5, a6, a7] (.ref x :: st) h Q := gw_loc m86 f86_11 rfl rfl
theorem r86_11n {E : Nat → Value} {d : Nat} {st : List Value} {h : gm_H} {Q : gm_R → gm_H → Prop} {a0 a1 a3 a4 a5 a6 a7 : Value}  : gm_W E d 86 11 [a0, a1, .null, a3, a4, a5, a6, a7] st h Q ↔ gm_W E d 86 12 [a0, a1, .null, a3, a4, a5, a6, a7] (.null :: st) h Q := gw_loc m86 f86_11 rfl rfl
theorem f86_12 : gm_ft 86 12 = some (.getfield 242, 3) := by decide +kernel
theorem r86_12 {E : Nat → Value} {d : Nat} {st : List Value} {h : gm_H} {Q : gm_R → gm_H → Prop} {lv : List Value} {a : Nat} (hk : gm_kd h a = 1) : gm_W E d 86 12 lv (.ref a :: st) h Q ↔ gm_W E d 86 15 lv (gm_fv h a 1 :: st) h Q := gw_rd m86 f86_12 rfl rfl rfl rfl (gs_get k0_242 hk (by decide))
theorem f86_15 : gm_ft 86 15 = some (.ldc 245, 2) := by decide +kernel
theorem r86_15 {E : Nat → Value} {d : Nat} {st : List Value} {h : gm_H} {Q : gm_R → gm_H → Prop} {lv : List Value} : gm_W E d 86 15 lv st h Q ↔ gm_W E d 86 17 lv (E 4 :: st) h Q := gw_rd m86 f86_15 rfl rfl rfl rfl rfl
theorem f86_17 : gm_ft 86 17 = some (.invokevirtual 246, 3) := by decide +kernel
theorem c86_17 {E : Nat → Value} {d : Nat} {st : List Value} {h : gm_H} {Q : gm_R → gm_H → Prop} {lv : List Value} {b0 : Int32} {b1 : Int32} {b2 : Value} {a : Nat} {Qc : gm_R → gm_H → Prop} (hs : (st.map fun v => v.category).sum ≤ 8) (he : (gm_en1 [.ref a, .int b0, .int b1, b2]).length ≤ 5) (hr : gm_kd h a = 0) (hd : 1 ≤ d) (hc : gm_Ca E (d - 1) 72 [.ref a, .int b0, .int b1, b2] h Qc) (kn : ∀ (v9 : Option Value) (h9 : gm_H), Qc (.inl v9) h9 → gm_W E d 86 20 lv (v9.toList ++ st) h9 Q) (kx : ∀ (x9 : Nat) (h9 : gm_H), Qc (.inr x9) h9 → Q (.inr x9) h9) : gm_W E d 86 17 lv (b2 :: .int b1 :: .int b0 :: .ref a :: st) h Q := gw_call (gn_call m86 f86_17 rfl rfl rfl rfl rfl rfl rfl (gs_virt (bs := [b2, .int b1, .int b0]) (w := 602) (L := 5) rfl rfl rfl rfl hs he hr (by decide)) (by decide)) m86 rfl rfl hd hc kn kx
theorem f86_20 : gm_ft 86 20 = some (.istore_n 3, 1) := by decide +kernel
theorem r86_20 {E : Nat → Value} {d : Nat} {st : List Value} {h : gm_H} {Q : gm_R → gm_H → Prop} {a0 a1 a2 a3 a4 a5 a6 a7 : Value} {x : Int32} : gm_W E d 86 20 [a0, a1, a2, a3, a4, a5, a6, a7] (.int x :: st) h Q ↔ gm_W E d 86 21 [a0, a1, gm_k a2, .int x, a4, a5, a6, a7] st h Q := gw_loc m86 f86_20 rfl rfl
theorem f86_21 : gm_ft 86 21 = some (.iload_n 3, 1) := by decide +kernel
theorem r86_21 {E : Nat → Value} {d : Nat} {st : List Value} {h : gm_H} {Q : gm_R → gm_H → Prop} {a0 a1 a2 a4 a5 a6 a7 : Value} {x : Int32} : gm_W E d 86 21 [a0, a1, a2, .int x, a4, a5, a6, a7] st h Q ↔ gm_W E d 86 22 [a0, a1, a2, .int x, a4, a5, a6, a7] (.int x :: st) h Q := gw_loc m86 f86_21 rfl rfl
theorem f86_22 : gm_ft 86 22 = some (.ifCond .ne 27, 3) := by decide +kernel
theorem r86_22 {E : Nat → Value} {d : Nat} {st : List Value} {h : gm_H} {Q : gm_R → gm_H → Prop} {lv : List Value} {x : Int32} : gm_W E d 86 22 lv (.int x :: st) h Q ↔ (if x = 0 then gm_W E d 86 25 lv st h Q else gm_W E d 86 49 lv st h Q) := (gw_br m86 f86_22 rfl rfl rfl rfl).trans gw_ifn
theorem f86_25 : gm_ft 86 25 = some (.aload_n 0, 1) := by decide +kernel
theorem r86_25 {E : Nat → Value} {d : Nat} {st : List Value} {h : gm_H} {Q : gm_R → gm_H → Prop} {a1 a2 a3 a4 a5 a6 a7 : Value} {x : Nat} : gm_W E d 86 25 [.ref x, a1, a2, a3, a4, a5, a6, a7] st h Q ↔ gm_W E d 86 26 [.ref x, a1, a2, a3, a4, a5, a6, a7] (.ref x :: st) h Q := gw_loc m86 f86_25 rfl rfl
theorem r86_25n {E : Nat → Value} {d : Nat} {st : List Value} {h : gm_H} {Q : gm_R → gm_H → Prop} {a1 a2 a3 a4 a5 a6 a7 : Value}  : gm_W E d 86 25 [.null, a1, a2, a3, a4, a5, a6, a7] st h Q ↔ gm_W E d 86 26 [.null, a1, a2, a3, a4, a5, a6, a7] (.null :: st) h Q := gw_loc m86 f86_25 rfl rfl
theorem f86_26 : gm_ft 86 26 = some (.aload_n 2, 1) := by decide +kernel
theorem r86_26 {E : Nat → Value} {d : Nat} {st : List Value} {h : gm_H} {Q : gm_R → gm_H → Prop} {a0 a1 a3 a4 a5 a6 a7 : Value} {x : Nat} : gm_W E d 86 26 [a0, a1, .ref x, a3, a4, a5, a6, a7] st h Q ↔ gm_W E d 86 27 [a0, a1, .ref x, a3, a4, a5, a6, a7] (.ref x :: st) h Q := gw_loc m86 f86_26 rfl rfl
theorem r86_26n {E : Nat → Value} {d : Nat} {st : List Value} {h : gm_H} {Q : gm_R → gm_H → Prop} {a0 a1 a3 a4 a5 a6 a7 : Value}  : gm_W E d 86 26 [a0, a1, .null, a3, a4, a5, a6, a7] st h Q ↔ gm_W E d 86 27 [a0, a1, .null, a3, a4, a5, a6, a7] (.null :: st) h Q := gw_loc m86 f86_26 rfl rfl
theorem f86_27 : gm_ft 86 27 = some (.getfield 239, 3) := by decide +kernel
theorem r86_27 {E : Nat → Value} {d : Nat} {st : List Value} {h : gm_H} {Q : gm_R → gm_H → Prop} {lv : List Value} {a : Nat} (hk : gm_kd h a = 1) : gm_W E d 86 27 lv (.ref a :: st) h Q ↔ gm_W E d 86 30 lv (gm_fv h a 0 :: st) h Q := gw_rd m86 f86_27 rfl rfl rfl rfl (gs_get k0_239 hk (by decide))
theorem f86_30 : gm_ft 86 30 = some (.aload_n 2, 1) := by decide +kernel
theorem r86_30 {E : Nat → Value} {d : Nat} {st : List Value} {h : gm_H} {Q : gm_R → gm_H → Prop} {a0 a1 a3 a4 a5 a6 a7 : Value} {x : Nat} : gm_W E d 86 30 [a0, a1, .ref x, a3, a4, a5, a6, a7] st h Q ↔ gm_W E d 86 31 [a0, a1, .ref x, a3, a4, a5, a6, a7] (.ref x :: st) h Q := gw_loc m86 f86_30 rfl rfl
theorem r86_30n {E : Nat → Value} {d : Nat} {st : List Value} {h : gm_H} {Q : gm_R → gm_H → Prop} {a0 a1 a3 a4 a5 a6 a7 : Value}  : gm_W E d 86 30 [a0, a1, .null, a3, a4, a5, a6, a7] st h Q ↔ gm_W E d 86 31 [a0, a1, .null, a3, a4, a5, a6, a7] (.null :: st) h Q := gw_loc m86 f86_30 rfl rfl
theorem f86_31 : gm_ft 86 31 = some (.getfield 242, 3) := by decide +kernel
theorem r86_31 {E : Nat → Value} {d : Nat} {st : List Value} {h : gm_H} {Q : gm_R → gm_H → Prop} {lv : List Value} {a : Nat} (hk : gm_kd h a = 1) : gm_W E d 86 31 lv (.ref a :: st) h Q ↔ gm_W E d 86 34 lv (gm_fv h a 1 :: st) h Q := gw_rd m86 f86_31 rfl rfl rfl rfl (gs_get k0_242 hk (by decide))
theorem f86_34 : gm_ft 86 34 = some (.ldc 250, 2) := by decide +kernel
theorem r86_34 {E : Nat → Value} {d : Nat} {st : List Value} {h : gm_H} {Q : gm_R → gm_H → Prop} {lv : List Value} : gm_W E d 86 34 lv st h Q ↔ gm_W E d 86 36 lv (E 3 :: st) h Q := gw_rd m86 f86_34 rfl rfl rfl rfl rfl
theorem f86_36 : gm_ft 86 36 = some (.invokevirtual 246, 3) := by decide +kernel
theorem c86_36 {E : Nat → Value} {d : Nat} {st : List Value} {h : gm_H} {Q : gm_R → gm_H → Prop} {lv : List Value} {b0 : Int32} {b1 : Int32} {b2 : Value} {a : Nat} {Qc : gm_R → gm_H → Prop} (hs : (st.map fun v => v.category).sum ≤ 8) (he : (gm_en1 [.ref a, .int b0, .int b1, b2]).length ≤ 5) (hr : gm_kd h a = 0) (hd : 1 ≤ d) (hc : gm_Ca E (d - 1) 72 [.ref a, .int b0, .int b1, b2] h Qc) (kn : ∀ (v9 : Option Value) (h9 : gm_H), Qc (.inl v9) h9 → gm_W E d 86 39 lv (v9.toList ++ st) h9 Q) (kx : ∀ (x9 : Nat) (h9 : gm_H), Qc (.inr x9) h9 → Q (.inr x9) h9) : gm_W E d 86 36 lv (b2 :: .int b1 :: .int b0 :: .ref a :: st) h Q := gw_call (gn_call m86 f86_36 rfl rfl rfl rfl rfl rfl rfl (gs_virt (bs := [b2, .int b1, .int b0]) (w := 602) (L := 5) rfl rfl rfl rfl hs he hr (by decide)) (by decide)) m86 rfl rfl hd hc kn kx
theorem f86_39 : gm_ft 86 39 = some (.ifCond .ne 10, 3) := by decide +kernel
theorem r86_39 {E : Nat → Value} {d : Nat} {st : List Value} {h : gm_H} {Q : gm_R → gm_H → Prop} {lv : List Value} {x : Int32} : gm_W E d 86 39 lv (.int x :: st) h Q ↔ (if x = 0 then gm_W E d 86 42 lv st h Q else gm_W E d 86 49 lv st h Q) := (gw_br m86 f86_39 rfl rfl rfl rfl).trans gw_ifn
theorem f86_42 : gm_ft 86 42 = some (.aload_n 0, 1) := by decide +kernel
theorem r86_42 {E : Nat → Value} {d : Nat} {st : List Value} {h : gm_H} {Q : gm_R → gm_H → Prop} {a1 a2 a3 a4 a5 a6 a7 : Value} {x : Nat} : gm_W E d 86 42 [.ref x, a1, a2, a3, a4, a5, a6, a7] st h Q ↔ gm_W E d 86 43 [.ref x, a1, a2, a3, a4, a5, a6, a7] (.ref x :: st) h Q := gw_loc m86 f86_42 rfl rfl
theorem r86_42n {E : Nat → Value} {d : Nat} {st : List Value} {h : gm_H} {Q : gm_R → gm_H → Prop} {a1 a2 a3 a4 a5 a6 a7 : Value}  : gm_W E d 86 42 [.null, a1, a2, a3, a4, a5, a6, a7] st h Q ↔ gm_W E d 86 43 [.null, a1, a2, a3, a4, a5, a6, a7] (.null :: st) h Q := gw_loc m86 f86_42 rfl rfl
theorem f86_43 : gm_ft 86 43 = some (.bipush (-5), 2) := by decide +kernel
theorem r86_43 {E : Nat → Value} {d : Nat} {st : List Value} {h : gm_H} {Q : gm_R → gm_H → Prop} {lv : List Value} : gm_W E d 86 43 lv st h Q ↔ gm_W E d 86 45 lv (.int (-5 : Int32) :: st) h Q := gw_pure m86 f86_43 rfl
theorem f86_45 : gm_ft 86 45 = some (.invokevirtual 160, 3) := by decide +kernel
theorem c86_45 {E : Nat → Value} {d : Nat} {st : List Value} {h : gm_H} {Q : gm_R → gm_H → Prop} {lv : List Value} {b0 : Int32} {a : Nat} {Qc : gm_R → gm_H → Prop} (hs : (st.map fun v => v.category).sum ≤ 8) (hr : gm_kd h a = 0) (hd : 1 ≤ d) (hc : gm_Ca E (d - 1) 66 [.ref a, .int b0] h Qc) (kn : ∀ (v9 : Option Value) (h9 : gm_H), Qc (.inl v9) h9 → gm_W E d 86 48 lv (v9.toList ++ st) h9 Q) (kx : ∀ (x9 : Nat) (h9 : gm_H), Qc (.inr x9) h9 → Q (.inr x9) h9) : gm_W E d 86 45 lv (.int b0 :: .ref a :: st) h Q := gw_call (gn_call m86 f86_45 rfl rfl rfl rfl rfl rfl rfl (gs_virt (bs := [.int b0]) (w := 206) (L := 2) rfl rfl rfl rfl hs (by simp [gm_en1]) hr (by decide)) (by decide)) m86 rfl rfl hd hc kn kx
theorem f86_48 : gm_ft 86 48 = some (.ireturn, 1) := by decide +kernel
theorem r86_48 {E : Nat → Value} {d : Nat} {h : gm_H} {Q : gm_R → gm_H → Prop} {lv : List Value} {x : Int32} : gm_W E d 86 48 lv [.int x] h Q ↔ Q (.inl (some (.int x))) h := gw_ret m86 f86_48 rfl rfl rfl rfl rfl rfl rfl rfl (by unfold gm_rt; dsimp only; rw [if_pos ⟨rfl, rfl⟩])
theorem f86_49 : gm_ft 86 49 = some (.aload_n 0, 1) := by decide +kernel
theorem r86_49 {E : Nat → Value} {d : Nat} {st : List Value} {h : gm_H} {Q : gm_R → gm_H → Prop} {a1 a2 a3 a4 a5 a6 a7 : Value} {x : Nat} : gm_W E d 86 49 [.ref x, a1, a2, a3, a4, a5, a6, a7] st h Q ↔ gm_W E d 86 50 [.ref x, a1, a2, a3, a4, a5, a6, a7] (.ref x :: st) h Q := gw_loc m86 f86_49 rfl rfl
theorem r86_49n {E : Nat → Value} {d : Nat} {st : List Value} {h : gm_H} {Q : gm_R → gm_H → Prop} {a1 a2 a3 a4 a5 a6 a7 : Value}  : gm_W E d 86 49 [.null, a1, a2, a3, a4, a5, a6, a7] st h Q ↔ gm_W E d 86 50 [.null, a1, a2, a3, a4, a5, a6, a7] (.null :: st) h Q := gw_loc m86 f86_49 rfl rfl
theorem f86_50 : gm_ft 86 50 = some (.invokevirtual 179, 3) := by decide +kernel
theorem c86_50 {E : Nat → Value} {d : Nat} {st : List Value} {h : gm_H} {Q : gm_R → gm_H → Prop} {lv : List Value} {a : Nat} {Qc : gm_R → gm_H → Prop} (hs : (st.map fun v => v.category).sum ≤ 8) (hr : gm_kd h a = 0) (hd : 1 ≤ d) (hc : gm_Ca E (d - 1) 70 [.ref a] h Qc) (kn : ∀ (v9 : Option Value) (h9 : gm_H), Qc (.inl v9) h9 → gm_W E d 86 53 lv (v9.toList ++ st) h9 Q) (kx : ∀ (x9 : Nat) (h9 : gm_H), Qc (.inr x9) h9 → Q (.inr x9) h9) : gm_W E d 86 50 lv (.ref a :: st) h Q := gw_call (gn_call m86 f86_50 rfl rfl rfl rfl rfl rfl rfl (gs_virt (bs := []) (w := 290) (L := 1) rfl rfl rfl rfl hs (by simp [gm_en1]) hr (by decide)) (by decide)) m86 rfl rfl hd hc kn kx
theorem f86_53 : gm_ft 86 53 = some (.istore 4, 2) := by decide +kernel
theorem r86_53 {E : Nat → Value} {d : Nat} {st : List Value} {h : gm_H} {Q : gm_R → gm_H → Prop} {a0 a1 a2 a3 a4 a5 a6 a7 : Value} {x : Int32} : gm_W E d 86 53 [a0, a1, a2, a3, a4, a5, a6, a7] (.int x :: st) h Q ↔ gm_W E d 86 55 [a0, a1, a2, gm_k a3, .int x, a5, a6, a7] st h Q := gw_loc m86 f86_53 rfl rfl
theorem f86_55 : gm_ft 86 55 = some (.iload 4, 2) := by decide +kernel
theorem r86_55 {E : Nat → Value} {d : Nat} {st : List Value} {h : gm_H} {Q : gm_R → gm_H → Prop} {a0 a1 a2 a3 a5 a6 a7 : Value} {x : Int32} : gm_W E d 86 55 [a0, a1, a2, a3, .int x, a5, a6, a7] st h Q ↔ gm_W E d 86 57 [a0, a1, a2, a3, .int x, a5, a6, a7] (.int x :: st) h Q := gw_loc m86 f86_55 rfl rfl
theorem f86_57 : gm_ft 86 57 = some (.ifCond .ge 10, 3) := by decide +kernel
theorem r86_57 {E : Nat → Value} {d : Nat} {st : List Value} {h : gm_H} {Q : gm_R → gm_H → Prop} {lv : List Value} {x : Int32} : gm_W E d 86 57 lv (.int x :: st) h Q ↔ (if 0 ≤ x then gm_W E d 86 67 lv st h Q else gm_W E d 86 60 lv st h Q) := (gw_br m86 f86_57 rfl rfl rfl rfl).trans gw_if
theorem f86_60 : gm_ft 86 60 = some (.aload_n 0, 1) := by decide +kernel
theorem r86_60 {E : Nat → Value} {d : Nat} {st : List Value} {h : gm_H} {Q : gm_R → gm_H → Prop} {a1 a2 a3 a4 a5 a6 a7 : Value} {x : Nat} : gm_W E d 86 60 [.ref x, a1, a2, a3, a4, a5, a6, a7] st h Q ↔ gm_W E d 86 61 [.ref x, a1, a2, a3, a4, a5, a6, a7] (.ref x :: st) h Q := gw_loc m86 f86_60 rfl rfl
theorem r86_60n {E : Nat → Value} {d : Nat} {st : List Value} {h : gm_H} {Q : gm_R → gm_H → Prop} {a1 a2 a3 a4 a5 a6 a7 : Value}  : gm_W E d 86 60 [.null, a1, a2, a3, a4, a5, a6, a7] st h Q ↔ gm_W E d 86 61 [.null, a1, a2, a3, a4, a5, a6, a7] (.null :: st) h Q := gw_loc m86 f86_60 rfl rfl
theorem f86_61 : gm_ft 86 61 = some (.bipush (-6), 2) := by decide +kernel
theorem r86_61 {E : Nat → Value} {d : Nat} {st : List Value} {h : gm_H} {Q : gm_R → gm_H → Prop} {lv : List Value} : gm_W E d 86 61 lv st h Q ↔ gm_W E d 86 63 lv (.int (-6 : Int32) :: st) h Q := gw_pure m86 f86_61 rfl
theorem f86_63 : gm_ft 86 63 = some (.invokevirtual 160, 3) := by decide +kernel
theorem c86_63 {E : Nat → Value} {d : Nat} {st : List Value} {h : gm_H} {Q : gm_R → gm_H → Prop} {lv : List Value} {b0 : Int32} {a : Nat} {Qc : gm_R → gm_H → Prop} (hs : (st.map fun v => v.category).sum ≤ 8) (hr : gm_kd h a = 0) (hd : 1 ≤ d) (hc : gm_Ca E (d - 1) 66 [.ref a, .int b0] h Qc) (kn : ∀ (v9 : Option Value) (h9 : gm_H), Qc (.inl v9) h9 → gm_W E d 86 66 lv (v9.toList ++ st) h9 Q) (kx : ∀ (x9 : Nat) (h9 : gm_H), Qc (.inr x9) h9 → Q (.inr x9) h9) : gm_W E d 86 63 lv (.int b0 :: .ref a :: st) h Q := gw_call (gn_call m86 f86_63 rfl rfl rfl rfl rfl rfl rfl (gs_virt (bs := [.int b0]) (w := 206) (L := 2) rfl rfl rfl rfl hs (by simp [gm_en1]) hr (by decide)) (by decide)) m86 rfl rfl hd hc kn kx
theorem f86_66 : gm_ft 86 66 = some (.ireturn, 1) := by decide +kernel
theorem r86_66 {E : Nat → Value} {d : Nat} {h : gm_H} {Q : gm_R → gm_H → Prop} {lv : List Value} {x : Int32} : gm_W E d 86 66 lv [.int x] h Q ↔ Q (.inl (some (.int x))) h := gw_ret m86 f86_66 rfl rfl rfl rfl rfl rfl rfl rfl (by unfold gm_rt; dsimp only; rw [if_pos ⟨rfl, rfl⟩])
theorem f86_67 : gm_ft 86 67 = some (.aload_n 0, 1) := by decide +kernel
theorem r86_67 {E : Nat → Value} {d : Nat} {st : List Value} {h : gm_H} {Q : gm_R → gm_H → Prop} {a1 a2 a3 a4 a5 a6 a7 : Value} {x : Nat} : gm_W E d 86 67 [.ref x, a1, a2, a3, a4, a5, a6, a7] st h Q ↔ gm_W E d 86 68 [.ref x, a1, a2, a3, a4, a5, a6, a7] (.ref x :: st) h Q := gw_loc m86 f86_67 rfl rfl
theorem r86_67n {E : Nat → Value} {d : Nat} {st : List Value} {h : gm_H} {Q : gm_R → gm_H → Prop} {a1 a2 a3 a4 a5 a6 a7 : Value}  : gm_W E d 86 67 [.null, a1, a2, a3, a4, a5, a6, a7] st h Q ↔ gm_W E d 86 68 [.null, a1, a2, a3, a4, a5, a6, a7] (.null :: st) h Q := gw_loc m86 f86_67 rfl rfl
theorem f86_68 : gm_ft 86 68 = some (.aload_n 2, 1) := by decide +kernel
theorem r86_68 {E : Nat → Value} {d : Nat} {st : List Value} {h : gm_H} {Q : gm_R → gm_H → Prop} {a0 a1 a3 a4 a5 a6 a7 : Value} {x : Nat} : gm_W E d 86 68 [a0, a1, .ref x, a3, a4, a5, a6, a7] st h Q ↔ gm_W E d 86 69 [a0, a1, .ref x, a3, a4, a5, a6, a7] (.ref x :: st) h Q := gw_loc m86 f86_68 rfl rfl
theorem r86_68n {E : Nat → Value} {d : Nat} {st : List Value} {h : gm_H} {Q : gm_R → gm_H → Prop} {a0 a1 a3 a4 a5 a6 a7 : Value}  : gm_W E d 86 68 [a0, a1, .null, a3, a4, a5, a6, a7] st h Q ↔ gm_W E d 86 69 [a0, a1, .null, a3, a4, a5, a6, a7] (.null :: st) h Q := gw_loc m86 f86_68 rfl rfl
theorem f86_69 : gm_ft 86 69 = some (.iload_n 1, 1) := by decide +kernel
theorem r86_69 {E : Nat → Value} {d : Nat} {st : List Value} {h : gm_H} {Q : gm_R → gm_H → Prop} {a0 a2 a3 a4 a5 a6 a7 : Value} {x : Int32} : gm_W E d 86 69 [a0, .int x, a2, a3, a4, a5, a6, a7] st h Q ↔ gm_W E d 86 70 [a0, .int x, a2, a3, a4, a5, a6, a7] (.int x :: st) h Q := gw_loc m86 f86_69 rfl rfl
theorem f86_70 : gm_ft 86 70 = some (.iload 4, 2) := by decide +kernel
theorem r86_70 {E : Nat → Value} {d : Nat} {st : List Value} {h : gm_H} {Q : gm_R → gm_H → Prop} {a0 a1 a2 a3 a5 a6 a7 : Value} {x : Int32} : gm_W E d 86 70 [a0, a1, a2, a3, .int x, a5, a6, a7] st h Q ↔ gm_W E d 86 72 [a0, a1, a2, a3, .int x, a5, a6, a7] (.int x :: st) h Q := gw_loc m86 f86_70 rfl rfl
theorem f86_72 : gm_ft 86 72 = some (.invokevirtual 252, 3) := by decide +kernel
theorem c86_72 {E : Nat → Value} {d : Nat} {st : List Value} {h : gm_H} {Q : gm_R → gm_H → Prop} {lv : List Value} {b0 : Value} {b1 : Int32} {b2 : Int32} {a : Nat} {Qc : gm_R → gm_H → Prop} (hs : (st.map fun v => v.category).sum ≤ 8) (he : (gm_en1 [.ref a, b0, .int b1, .int b2]).length ≤ 5) (hr : gm_kd h a = 0) (hd : 1 ≤ d) (hc : gm_Ca E (d - 1) 80 [.ref a, b0, .int b1, .int b2] h Qc) (kn : ∀ (v9 : Option Value) (h9 : gm_H), Qc (.inl v9) h9 → gm_W E d 86 75 lv (v9.toList ++ st) h9 Q) (kx : ∀ (x9 : Nat) (h9 : gm_H), Qc (.inr x9) h9 → Q (.inr x9) h9) : gm_W E d 86 72 lv (.int b2 :: .int b1 :: b0 :: .ref a :: st) h Q := gw_call (gn_call m86 f86_72 rfl rfl rfl rfl rfl rfl rfl (gs_virt (bs := [.int b2, .int b1, b0]) (w := 509) (L := 5) rfl rfl rfl rfl hs he hr (by decide)) (by decide)) m86 rfl rfl hd hc kn kx
theorem f86_75 : gm_ft 86 75 = some (.new 19, 3) := by decide +kernel
theorem r86_75 {E : Nat → Value} {d : Nat} {st : List Value} {h : gm_H} {Q : gm_R → gm_H → Prop} {lv : List Value} : gm_W E d 86 75 lv st h Q ↔ gm_W E d 86 78 lv (.ref h.1 :: st) (gm_nw h (4, [.int 0, .null, .null, .int 0, .int 0]) 5) Q := gw_nw m86 f86_75 rfl rfl rfl rfl rfl rfl rfl
theorem f86_78 : gm_ft 86 78 = some (.dup, 1) := by decide +kernel
theorem r86_78 {E : Nat → Value} {d : Nat} {st : List Value} {h : gm_H} {Q : gm_R → gm_H → Prop} {lv : List Value} {a : Nat} : gm_W E d 86 78 lv (.ref a :: st) h Q ↔ gm_W E d 86 79 lv (.ref a :: .ref a :: st) h Q := gw_pure m86 f86_78 rfl
theorem r86_78i {E : Nat → Value} {d : Nat} {st : List Value} {h : gm_H} {Q : gm_R → gm_H → Prop} {lv : List Value} {x : Int32} : gm_W E d 86 78 lv (.int x :: st) h Q ↔ gm_W E d 86 79 lv (.int x :: .int x :: st) h Q := gw_pure m86 f86_78 rfl
theorem f86_79 : gm_ft 86 79 = some (.iload_n 3, 1) := by decide +kernel
theorem r86_79 {E : Nat → Value} {d : Nat} {st : List Value} {h : gm_H} {Q : gm_R → gm_H → Prop} {a0 a1 a2 a4 a5 a6 a7 : Value} {x : Int32} : gm_W E d 86 79 [a0, a1, a2, .int x, a4, a5, a6, a7] st h Q ↔ gm_W E d 86 80 [a0, a1, a2, .int x, a4, a5, a6, a7] (.int x :: st) h Q := gw_loc m86 f86_79 rfl rfl
theorem f86_80 : gm_ft 86 80 = some (.ifCond .eq 7, 3) := by decide +kernel
theorem r86_80 {E : Nat → Value} {d : Nat} {st : List Value} {h : gm_H} {Q : gm_R → gm_H → Prop} {lv : List Value} {x : Int32} : gm_W E d 86 80 lv (.int x :: st) h Q ↔ (if x = 0 then gm_W E d 86 87 lv st h Q else gm_W E d 86 83 lv st h Q) := (gw_br m86 f86_80 rfl rfl rfl rfl).trans gw_if
theorem f86_83 : gm_ft 86 83 = some (.iconst 2, 1) := by decide +kernel
theorem r86_83 {E : Nat → Value} {d : Nat} {st : List Value} {h : gm_H} {Q : gm_R → gm_H → Prop} {lv : List Value} : gm_W E d 86 83 lv st h Q ↔ gm_W E d 86 84 lv (.int (2 : Int32) :: st) h Q := gw_pure m86 f86_83 rfl
theorem f86_84 : gm_ft 86 84 = some (.goto 4, 3) := by decide +kernel
theorem r86_84 {E : Nat → Value} {d : Nat} {st : List Value} {h : gm_H} {Q : gm_R → gm_H → Prop} {lv : List Value} : gm_W E d 86 84 lv st h Q ↔ gm_W E d 86 88 lv st h Q := gw_brT m86 f86_84 rfl rfl rfl rfl
theorem f86_87 : gm_ft 86 87 = some (.iconst 3, 1) := by decide +kernel
theorem r86_87 {E : Nat → Value} {d : Nat} {st : List Value} {h : gm_H} {Q : gm_R → gm_H → Prop} {lv : List Value} : gm_W E d 86 87 lv st h Q ↔ gm_W E d 86 88 lv (.int (3 : Int32) :: st) h Q := gw_pure m86 f86_87 rfl
theorem f86_88 : gm_ft 86 88 = some (.aconst_null, 1) := by decide +kernel
theorem r86_88 {E : Nat → Value} {d : Nat} {st : List Value} {h : gm_H} {Q : gm_R → gm_H → Prop} {lv : List Value} : gm_W E d 86 88 lv st h Q ↔ gm_W E d 86 89 lv (.null :: st) h Q := gw_pure m86 f86_88 rfl
theorem f86_89 : gm_ft 86 89 = some (.iload 4, 2) := by decide +kernel
theorem r86_89 {E : Nat → Value} {d : Nat} {st : List Value} {h : gm_H} {Q : gm_R → gm_H → Prop} {a0 a1 a2 a3 a5 a6 a7 : Value} {x : Int32} : gm_W E d 86 89 [a0, a1, a2, a3, .int x, a5, a6, a7] st h Q ↔ gm_W E d 86 91 [a0, a1, a2, a3, .int x, a5, a6, a7] (.int x :: st) h Q := gw_loc m86 f86_89 rfl rfl
theorem f86_91 : gm_ft 86 91 = some (.invokespecial 228, 3) := by decide +kernel
theorem c86_91 {E : Nat → Value} {d : Nat} {st : List Value} {h : gm_H} {Q : gm_R → gm_H → Prop} {lv : List Value} {b0 : Int32} {b1 : Value} {b2 : Int32} {a : Nat} {Qc : gm_R → gm_H → Prop} (hs : (st.map fun v => v.category).sum ≤ 8) (he : (gm_en1 [.ref a, .int b0, b1, .int b2]).length ≤ 4) (hd : 1 ≤ d) (hc : gm_Ca E (d - 1) 123 [.ref a, .int b0, b1, .int b2] h Qc) (kn : ∀ (v9 : Option Value) (h9 : gm_H), Qc (.inl v9) h9 → gm_W E d 86 94 lv (v9.toList ++ st) h9 Q) (kx : ∀ (x9 : Nat) (h9 : gm_H), Qc (.inr x9) h9 → Q (.inr x9) h9) : gm_W E d 86 91 lv (.int b2 :: b1 :: .int b0 :: .ref a :: st) h Q := gw_call (gn_call m86 f86_91 rfl rfl rfl rfl rfl rfl rfl (gc_init (bs := [.int b2, b1, .int b0]) (w := 518) (L := 4) rfl rfl rfl hs he (by decide)) (by decide)) m86 rfl rfl hd hc kn kx
theorem f86_94 : gm_ft 86 94 = some (.astore 5, 2) := by decide +kernel
theorem r86_94 {E : Nat → Value} {d : Nat} {st : List Value} {h : gm_H} {Q : gm_R → gm_H → Prop} {a0 a1 a2 a3 a4 a5 a6 a7 : Value} {x : Nat} : gm_W E d 86 94 [a0, a1, a2, a3, a4, a5, a6, a7] (.ref x :: st) h Q ↔ gm_W E d 86 96 [a0, a1, a2, a3, gm_k a4, .ref x, a6, a7] st h Q := gw_loc m86 f86_94 rfl rfl
theorem r86_94n {E : Nat → Value} {d : Nat} {st : List Value} {h : gm_H} {Q : gm_R → gm_H → Prop} {a0 a1 a2 a3 a4 a5 a6 a7 : Value}  : gm_W E d 86 94 [a0, a1, a2, a3, a4, a5, a6, a7] (.null :: st) h Q ↔ gm_W E d 86 96 [a0, a1, a2, a3, gm_k a4, .null, a6, a7] st h Q := gw_loc m86 f86_94 rfl rfl
theorem f86_96 : gm_ft 86 96 = some (.aload_n 0, 1) := by decide +kernel
theorem r86_96 {E : Nat → Value} {d : Nat} {st : List Value} {h : gm_H} {Q : gm_R → gm_H → Prop} {a1 a2 a3 a4 a5 a6 a7 : Value} {x : Nat} : gm_W E d 86 96 [.ref x, a1, a2, a3, a4, a5, a6, a7] st h Q ↔ gm_W E d 86 97 [.ref x, a1, a2, a3, a4, a5, a6, a7] (.ref x :: st) h Q := gw_loc m86 f86_96 rfl rfl
theorem r86_96n {E : Nat → Value} {d : Nat} {st : List Value} {h : gm_H} {Q : gm_R → gm_H → Prop} {a1 a2 a3 a4 a5 a6 a7 : Value}  : gm_W E d 86 96 [.null, a1, a2, a3, a4, a5, a6, a7] st h Q ↔ gm_W E d 86 97 [.null, a1, a2, a3, a4, a5, a6, a7] (.null :: st) h Q := gw_loc m86 f86_96 rfl rfl
theorem f86_97 : gm_ft 86 97 = some (.aload 5, 2) := by decide +kernel
theorem r86_97 {E : Nat → Value} {d : Nat} {st : List Value} {h : gm_H} {Q : gm_R → gm_H → Prop} {a0 a1 a2 a3 a4 a6 a7 : Value} {x : Nat} : gm_W E d 86 97 [a0, a1, a2, a3, a4, .ref x, a6, a7] st h Q ↔ gm_W E d 86 99 [a0, a1, a2, a3, a4, .ref x, a6, a7] (.ref x :: st) h Q := gw_loc m86 f86_97 rfl rfl
theorem r86_97n {E : Nat → Value} {d : Nat} {st : List Value} {h : gm_H} {Q : gm_R → gm_H → Prop} {a0 a1 a2 a3 a4 a6 a7 : Value}  : gm_W E d 86 97 [a0, a1, a2, a3, a4, .null, a6, a7] st h Q ↔ gm_W E d 86 99 [a0, a1, a2, a3, a4, .null, a6, a7] (.null :: st) h Q := gw_loc m86 f86_97 rfl rfl
theorem f86_99 : gm_ft 86 99 = some (.invokevirtual 231, 3) := by decide +kernel
theorem c86_99 {E : Nat → Value} {d : Nat} {st : List Value} {h : gm_H} {Q : gm_R → gm_H → Prop} {lv : List Value} {b0 : Value} {a : Nat} {Qc : gm_R → gm_H → Prop} (hs : (st.map fun v => v.category).sum ≤ 8) (he : (gm_en1 [.ref a, b0]).length ≤ 2) (hr : gm_kd h a = 0) (hd : 1 ≤ d) (hc : gm_Ca E (d - 1) 77 [.ref a, b0] h Qc) (kn : ∀ (v9 : Option Value) (h9 : gm_H), Qc (.inl v9) h9 → gm_W E d 86 102 lv (v9.toList ++ st) h9 Q) (kx : ∀ (x9 : Nat) (h9 : gm_H), Qc (.inr x9) h9 → Q (.inr x9) h9) : gm_W E d 86 99 lv (b0 :: .ref a :: st) h Q := gw_call (gn_call m86 f86_99 rfl rfl rfl rfl rfl rfl rfl (gs_virt (bs := [b0]) (w := 555) (L := 2) rfl rfl rfl rfl hs he hr (by decide)) (by decide)) m86 rfl rfl hd hc kn kx
theorem f86_102 : gm_ft 86 102 = some (.istore 6, 2) := by decide +kernel
theorem r86_102 {E : Nat → Value} {d : Nat} {st : List Value} {h : gm_H} {Q : gm_R → gm_H → Prop} {a0 a1 a2 a3 a4 a5 a6 a7 : Value} {x : Int32} : gm_W E d 86 102 [a0, a1, a2, a3, a4, a5, a6, a7] (.int x :: st) h Q ↔ gm_W E d 86 104 [a0, a1, a2, a3, a4, gm_k a5, .int x, a7] st h Q := gw_loc m86 f86_102 rfl rfl
theorem f86_104 : gm_ft 86 104 = some (.aload_n 0, 1) := by decide +kernel
theorem r86_104 {E : Nat → Value} {d : Nat} {st : List Value} {h : gm_H} {Q : gm_R → gm_H → Prop} {a1 a2 a3 a4 a5 a6 a7 : Value} {x : Nat} : gm_W E d 86 104 [.ref x, a1, a2, a3, a4, a5, a6, a7] st h Q ↔ gm_W E d 86 105 [.ref x, a1, a2, a3, a4, a5, a6, a7] (.ref x :: st) h Q := gw_loc m86 f86_104 rfl rfl
theorem r86_104n {E : Nat → Value} {d : Nat} {st : List Value} {h : gm_H} {Q : gm_R → gm_H → Prop} {a1 a2 a3 a4 a5 a6 a7 : Value}  : gm_W E d 86 104 [.null, a1, a2, a3, a4, a5, a6, a7] st h Q ↔ gm_W E d 86 105 [.null, a1, a2, a3, a4, a5, a6, a7] (.null :: st) h Q := gw_loc m86 f86_104 rfl rfl
theorem f86_105 : gm_ft 86 105 = some (.iload 6, 2) := by decide +kernel
theorem r86_105 {E : Nat → Value} {d : Nat} {st : List Value} {h : gm_H} {Q : gm_R → gm_H → Prop} {a0 a1 a2 a3 a4 a5 a7 : Value} {x : Int32} : gm_W E d 86 105 [a0, a1, a2, a3, a4, a5, .int x, a7] st h Q ↔ gm_W E d 86 107 [a0, a1, a2, a3, a4, a5, .int x, a7] (.int x :: st) h Q := gw_loc m86 f86_105 rfl rfl
theorem f86_107 : gm_ft 86 107 = some (.invokevirtual 222, 3) := by decide +kernel
theorem c86_107 {E : Nat → Value} {d : Nat} {st : List Value} {h : gm_H} {Q : gm_R → gm_H → Prop} {lv : List Value} {b0 : Int32} {a : Nat} {Qc : gm_R → gm_H → Prop} (hs : (st.map fun v => v.category).sum ≤ 8) (hr : gm_kd h a = 0) (hd : 1 ≤ d) (hc : gm_Ca E (d - 1) 78 [.ref a, .int b0] h Qc) (kn : ∀ (v9 : Option Value) (h9 : gm_H), Qc (.inl v9) h9 → gm_W E d 86 110 lv (v9.toList ++ st) h9 Q) (kx : ∀ (x9 : Nat) (h9 : gm_H), Qc (.inr x9) h9 → Q (.inr x9) h9) : gm_W E d 86 107 lv (.int b0 :: .ref a :: st) h Q := gw_call (gn_call m86 f86_107 rfl rfl rfl rfl rfl rfl rfl (gs_virt (bs := [.int b0]) (w := 348) (L := 2) rfl rfl rfl rfl hs (by simp [gm_en1]) hr (by decide)) (by decide)) m86 rfl rfl hd hc kn kx
theorem f86_110 : gm_ft 86 110 = some (.pop, 1) := by decide +kernel
theorem r86_110 {E : Nat → Value} {d : Nat} {st : List Value} {h : gm_H} {Q : gm_R → gm_H → Prop} {lv : List Value} {x : Int32} : gm_W E d 86 110 lv (.int x :: st) h Q ↔ gm_W E d 86 111 lv st h Q := gw_pure m86 f86_110 rfl
theorem r86_110a {E : Nat → Value} {d : Nat} {st : List Value} {h : gm_H} {Q : gm_R → gm_H → Prop} {lv : List Value} {a : Nat} : gm_W E d 86 110 lv (.ref a :: st) h Q ↔ gm_W E d 86 111 lv st h Q := gw_pure m86 f86_110 rfl
theorem r86_110n {E : Nat → Value} {d : Nat} {st : List Value} {h : gm_H} {Q : gm_R → gm_H → Prop} {lv : List Value} : gm_W E d 86 110 lv (.null :: st) h Q ↔ gm_W E d 86 111 lv st h Q := gw_pure m86 f86_110 rfl
theorem f86_111 : gm_ft 86 111 = some (.iconst 0, 1) := by decide +kernel
theorem r86_111 {E : Nat → Value} {d : Nat} {st : List Value} {h : gm_H} {Q : gm_R → gm_H → Prop} {lv : List Value} : gm_W E d 86 111 lv st h Q ↔ gm_W E d 86 112 lv (.int (0 : Int32) :: st) h Q := gw_pure m86 f86_111 rfl
theorem f86_112 : gm_ft 86 112 = some (.istore 7, 2) := by decide +kernel
theorem r86_112 {E : Nat → Value} {d : Nat} {st : List Value} {h : gm_H} {Q : gm_R → gm_H → Prop} {a0 a1 a2 a3 a4 a5 a6 a7 : Value} {x : Int32} : gm_W E d 86 112 [a0, a1, a2, a3, a4, a5, a6, a7] (.int x :: st) h Q ↔ gm_W E d 86 114 [a0, a1, a2, a3, a4, a5, gm_k a6, .int x] st h Q := gw_loc m86 f86_112 rfl rfl
theorem f86_114 : gm_ft 86 114 = some (.iload 7, 2) := by decide +kernel
theorem r86_114 {E : Nat → Value} {d : Nat} {st : List Value} {h : gm_H} {Q : gm_R → gm_H → Prop} {a0 a1 a2 a3 a4 a5 a6 : Value} {x : Int32} : gm_W E d 86 114 [a0, a1, a2, a3, a4, a5, a6, .int x] st h Q ↔ gm_W E d 86 116 [a0, a1, a2, a3, a4, a5, a6, .int x] (.int x :: st) h Q := gw_loc m86 f86_114 rfl rfl
theorem f86_116 : gm_ft 86 116 = some (.iload 4, 2) := by decide +kernel
theorem r86_116 {E : Nat → Value} {d : Nat} {st : List Value} {h : gm_H} {Q : gm_R → gm_H → Prop} {a0 a1 a2 a3 a5 a6 a7 : Value} {x : Int32} : gm_W E d 86 116 [a0, a1, a2, a3, .int x, a5, a6, a7] st h Q ↔ gm_W E d 86 118 [a0, a1, a2, a3, .int x, a5, a6, a7] (.int x :: st) h Q := gw_loc m86 f86_116 rfl rfl
theorem f86_118 : gm_ft 86 118 = some (.if_icmp .ge 37, 3) := by decide +kernel
theorem r86_118 {E : Nat → Value} {d : Nat} {st : List Value} {h : gm_H} {Q : gm_R → gm_H → Prop} {lv : List Value} {x y : Int32} : gm_W E d 86 118 lv (.int y :: .int x :: st) h Q ↔ (if y ≤ x then gm_W E d 86 155 lv st h Q else gm_W E d 86 121 lv st h Q) := (gw_br m86 f86_118 rfl rfl rfl rfl).trans gw_if
theorem f86_121 : gm_ft 86 121 = some (.aload 5, 2) := by decide +kernel
theorem r86_121 {E : Nat → Value} {d : Nat} {st : List Value} {h : gm_H} {Q : gm_R → gm_H → Prop} {a0 a1 a2 a3 a4 a6 a7 : Value} {x : Nat} : gm_W E d 86 121 [a0, a1, a2, a3, a4, .ref x, a6, a7] st h Q ↔ gm_W E d 86 123 [a0, a1, a2, a3, a4, .ref x, a6, a7] (.ref x :: st) h Q := gw_loc m86 f86_121 rfl rfl
theorem r86_121n {E : Nat → Value} {d : Nat} {st : List Value} {h : gm_H} {Q : gm_R → gm_H → Prop} {a0 a1 a2 a3 a4 a6 a7 : Value}  : gm_W E d 86 121 [a0, a1, a2, a3, a4, .null, a6, a7] st h Q ↔ gm_W E d 86 123 [a0, a1, a2, a3, a4, .null, a6, a7] (.null :: st) h Q := gw_loc m86 f86_121 rfl rfl
theorem f86_123 : gm_ft 86 123 = some (.getfield 147, 3) := by decide +kernel
theorem r86_123 {E : Nat → Value} {d : Nat} {st : List Value} {h : gm_H} {Q : gm_R → gm_H → Prop} {lv : List Value} {a : Nat} (hk : gm_kd h a = 4) : gm_W E d 86 123 lv (.ref a :: st) h Q ↔ gm_W E d 86 126 lv (gm_fv h a 2 :: st) h Q := gw_rd m86 f86_123 rfl rfl rfl rfl (gs_get k0_147 hk (by decide))
theorem f86_126 : gm_ft 86 126 = some (.iload 7, 2) := by decide +kernel
theorem r86_126 {E : Nat → Value} {d : Nat} {st : List Value} {h : gm_H} {Q : gm_R → gm_H → Prop} {a0 a1 a2 a3 a4 a5 a6 : Value} {x : Int32} : gm_W E d 86 126 [a0, a1, a2, a3, a4, a5, a6, .int x] st h Q ↔ gm_W E d 86 128 [a0, a1, a2, a3, a4, a5, a6, .int x] (.int x :: st) h Q := gw_loc m86 f86_126 rfl rfl
theorem f86_128 : gm_ft 86 128 = some (.iload_n 3, 1) := by decide +kernel
theorem r86_128 {E : Nat → Value} {d : Nat} {st : List Value} {h : gm_H} {Q : gm_R → gm_H → Prop} {a0 a1 a2 a4 a5 a6 a7 : Value} {x : Int32} : gm_W E d 86 128 [a0, a1, a2, .int x, a4, a5, a6, a7] st h Q ↔ gm_W E d 86 129 [a0, a1, a2, .int x, a4, a5, a6, a7] (.int x :: st) h Q := gw_loc m86 f86_128 rfl rfl
theorem f86_129 : gm_ft 86 129 = some (.ifCond .eq 11, 3) := by decide +kernel
theorem r86_129 {E : Nat → Value} {d : Nat} {st : List Value} {h : gm_H} {Q : gm_R → gm_H → Prop} {lv : List Value} {x : Int32} : gm_W E d 86 129 lv (.int x :: st) h Q ↔ (if x = 0 then gm_W E d 86 140 lv st h Q else gm_W E d 86 132 lv st h Q) := (gw_br m86 f86_129 rfl rfl rfl rfl).trans gw_if
theorem f86_132 : gm_ft 86 132 = some (.aload_n 0, 1) := by decide +kernel
theorem r86_132 {E : Nat → Value} {d : Nat} {st : List Value} {h : gm_H} {Q : gm_R → gm_H → Prop} {a1 a2 a3 a4 a5 a6 a7 : Value} {x : Nat} : gm_W E d 86 132 [.ref x, a1, a2, a3, a4, a5, a6, a7] st h Q ↔ gm_W E d 86 133 [.ref x, a1, a2, a3, a4, a5, a6, a7] (.ref x :: st) h Q := gw_loc m86 f86_132 rfl rfl
theorem r86_132n {E : Nat → Value} {d : Nat} {st : List Value} {h : gm_H} {Q : gm_R → gm_H → Prop} {a1 a2 a3 a4 a5 a6 a7 : Value}  : gm_W E d 86 132 [.null, a1, a2, a3, a4, a5, a6, a7] st h Q ↔ gm_W E d 86 133 [.null, a1, a2, a3, a4, a5, a6, a7] (.null :: st) h Q := gw_loc m86 f86_132 rfl rfl
theorem f86_133 : gm_ft 86 133 = some (.invokevirtual 179, 3) := by decide +kernel
theorem c86_133 {E : Nat → Value} {d : Nat} {st : List Value} {h : gm_H} {Q : gm_R → gm_H → Prop} {lv : List Value} {a : Nat} {Qc : gm_R → gm_H → Prop} (hs : (st.map fun v => v.category).sum ≤ 8) (hr : gm_kd h a = 0) (hd : 1 ≤ d) (hc : gm_Ca E (d - 1) 70 [.ref a] h Qc) (kn : ∀ (v9 : Option Value) (h9 : gm_H), Qc (.inl v9) h9 → gm_W E d 86 136 lv (v9.toList ++ st) h9 Q) (kx : ∀ (x9 : Nat) (h9 : gm_H), Qc (.inr x9) h9 → Q (.inr x9) h9) : gm_W E d 86 133 lv (.ref a :: st) h Q := gw_call (gn_call m86 f86_133 rfl rfl rfl rfl rfl rfl rfl (gs_virt (bs := []) (w := 290) (L := 1) rfl rfl rfl rfl hs (by simp [gm_en1]) hr (by decide)) (by decide)) m86 rfl rfl hd hc kn kx
theorem f86_136 : gm_ft 86 136 = some (.i2l, 1) := by decide +kernel
theorem r86_136 {E : Nat → Value} {d : Nat} {st : List Value} {h : gm_H} {Q : gm_R → gm_H → Prop} {lv : List Value} {x : Int32} : gm_W E d 86 136 lv (.int x :: st) h Q ↔ gm_W E d 86 137 lv (.long (x.toInt64) :: st) h Q := gw_pure m86 f86_136 rfl
theorem f86_137 : gm_ft 86 137 = some (.goto 11, 3) := by decide +kernel
theorem r86_137 {E : Nat → Value} {d : Nat} {st : List Value} {h : gm_H} {Q : gm_R → gm_H → Prop} {lv : List Value} : gm_W E d 86 137 lv st h Q ↔ gm_W E d 86 148 lv st h Q := gw_brT m86 f86_137 rfl rfl rfl rfl
theorem f86_140 : gm_ft 86 140 = some (.aload_n 0, 1) := by decide +kernel
theorem r86_140 {E : Nat → Value} {d : Nat} {st : List Value} {h : gm_H} {Q : gm_R → gm_H → Prop} {a1 a2 a3 a4 a5 a6 a7 : Value} {x : Nat} : gm_W E d 86 140 [.ref x, a1, a2, a3, a4, a5, a6, a7] st h Q ↔ gm_W E d 86 141 [.ref x, a1, a2, a3, a4, a5, a6, a7] (.ref x :: st) h Q := gw_loc m86 f86_140 rfl rfl
theorem r86_140n {E : Nat → Value} {d : Nat} {st : List Value} {h : gm_H} {Q : gm_R → gm_H → Prop} {a1 a2 a3 a4 a5 a6 a7 : Value}  : gm_W E d 86 140 [.null, a1, a2, a3, a4, a5, a6, a7] st h Q ↔ gm_W E d 86 141 [.null, a1, a2, a3, a4, a5, a6, a7] (.null :: st) h Q := gw_loc m86 f86_140 rfl rfl
theorem f86_141 : gm_ft 86 141 = some (.iload_n 1, 1) := by decide +kernel
theorem r86_141 {E : Nat → Value} {d : Nat} {st : List Value} {h : gm_H} {Q : gm_R → gm_H → Prop} {a0 a2 a3 a4 a5 a6 a7 : Value} {x : Int32} : gm_W E d 86 141 [a0, .int x, a2, a3, a4, a5, a6, a7] st h Q ↔ gm_W E d 86 142 [a0, .int x, a2, a3, a4, a5, a6, a7] (.int x :: st) h Q := gw_loc m86 f86_141 rfl rfl
theorem f86_142 : gm_ft 86 142 = some (.iconst 1, 1) := by decide +kernel
theorem r86_142 {E : Nat → Value} {d : Nat} {st : List Value} {h : gm_H} {Q : gm_R → gm_H → Prop} {lv : List Value} : gm_W E d 86 142 lv st h Q ↔ gm_W E d 86 143 lv (.int (1 : Int32) :: st) h Q := gw_pure m86 f86_142 rfl
theorem f86_143 : gm_ft 86 143 = some (.iadd, 1) := by decide +kernel
theorem r86_143 {E : Nat → Value} {d : Nat} {st : List Value} {h : gm_H} {Q : gm_R → gm_H → Prop} {lv : List Value} {x y : Int32} : gm_W E d 86 143 lv (.int y :: .int x :: st) h Q ↔ gm_W E d 86 144 lv (.int (x + y) :: st) h Q := gw_pure m86 f86_143 rfl
theorem f86_144 : gm_ft 86 144 = some (.invokevirtual 182, 3) := by decide +kernel
theorem c86_144 {E : Nat → Value} {d : Nat} {st : List Value} {h : gm_H} {Q : gm_R → gm_H → Prop} {lv : List Value} {b0 : Int32} {a : Nat} {Qc : gm_R → gm_H → Prop} (hs : (st.map fun v => v.category).sum ≤ 8) (hr : gm_kd h a = 0) (hd : 1 ≤ d) (hc : gm_Ca E (d - 1) 82 [.ref a, .int b0] h Qc) (kn : ∀ (v9 : Option Value) (h9 : gm_H), Qc (.inl v9) h9 → gm_W E d 86 147 lv (v9.toList ++ st) h9 Q) (kx : ∀ (x9 : Nat) (h9 : gm_H), Qc (.inr x9) h9 → Q (.inr x9) h9) : gm_W E d 86 144 lv (.int b0 :: .ref a :: st) h Q := gw_call (gn_call m86 f86_144 rfl rfl rfl rfl rfl rfl rfl (gs_virt (bs := [.int b0]) (w := 270) (L := 2) rfl rfl rfl rfl hs (by simp [gm_en1]) hr (by decide)) (by decide)) m86 rfl rfl hd hc kn kx
theorem f86_147 : gm_ft 86 147 = some (.i2l, 1) := by decide +kernel
theorem r86_147 {E : Nat → Value} {d : Nat} {st : List Value} {h : gm_H} {Q : gm_R → gm_H → Prop} {lv : List Value} {x : Int32} : gm_W E d 86 147 lv (.int x :: st) h Q ↔ gm_W E d 86 148 lv (.long (x.toInt64) :: st) h Q := gw_pure m86 f86_147 rfl
theorem f86_148 : gm_ft 86 148 = some (.lastore, 1) := by decide +kernel
theorem r86_148 {E : Nat → Value} {d : Nat} {st : List Value} {h : gm_H} {Q : gm_R → gm_H → Prop} {lv : List Value} {a j : Nat} {x : Int64} (hk : gm_kd h a = 101) (hj : j < gm_ln h a) (hl : gm_ln h a < 2 ^ 31) : gm_W E d 86 148 lv (.long x :: .int (nI j) :: .ref a :: st) h Q ↔ gm_W E d 86 149 lv st (gm_sf h a j (.long x)) Q := gw_wr m86 f86_148 rfl rfl rfl rfl rfl (gs_st hk (by decide) hj hl)
theorem f86_149 : gm_ft 86 149 = some (.iinc 7 1, 3) := by decide +kernel
theorem r86_149 {E : Nat → Value} {d : Nat} {st : List Value} {h : gm_H} {Q : gm_R → gm_H → Prop} {a0 a1 a2 a3 a4 a5 a6 : Value} {x : Int32} : gm_W E d 86 149 [a0, a1, a2, a3, a4, a5, a6, .int x] st h Q ↔ gm_W E d 86 152 [a0, a1, a2, a3, a4, a5, gm_k a6, .int (x + (1 : Int32))] st h Q := gw_loc m86 f86_149 rfl rfl
theorem f86_152 : gm_ft 86 152 = some (.goto (-38), 3) := by decide +kernel
theorem r86_152 {E : Nat → Value} {d : Nat} {st : List Value} {h : gm_H} {Q : gm_R → gm_H → Prop} {lv : List Value} : gm_W E d 86 152 lv st h Q ↔ gm_W E d 86 114 lv st h Q := gw_brT m86 f86_152 rfl rfl rfl rfl
theorem f86_155 : gm_ft 86 155 = some (.iload 6, 2) := by decide +kernel
theorem r86_155 {E : Nat → Value} {d : Nat} {st : List Value} {h : gm_H} {Q : gm_R → gm_H → Prop} {a0 a1 a2 a3 a4 a5 a7 : Value} {x : Int32} : gm_W E d 86 155 [a0, a1, a2, a3, a4, a5, .int x, a7] st h Q ↔ gm_W E d 86 157 [a0, a1, a2, a3, a4, a5, .int x, a7] (.int x :: st) h Q := gw_loc m86 f86_155 rfl rfl
theorem f86_157 : gm_ft 86 157 = some (.ireturn, 1) := by decide +kernel
theorem r86_157 {E : Nat → Value} {d : Nat} {h : gm_H} {Q : gm_R → gm_H → Prop} {lv : List Value} {x : Int32} : gm_W E d 86 157 lv [.int x] h Q ↔ Q (.inl (some (.int x))) h := gw_ret m86 f86_157 rfl rfl rfl rfl rfl rfl rfl rfl (by unfold gm_rt; dsimp only; rw [if_pos ⟨rfl, rfl⟩])
/-! GraphReader.readConstant(I)I -/
theorem m87 : gm_mt[87]? = some (⟨"GraphReader", "readConstant", "(I)I"⟩, prog_1_method_37_code, 5, (some .int), [], 0, 1) := rfl
theorem f87_0 : gm_ft 87 0 = some (.aload_n 0, 1) := by decide +kernel
theorem r87_0 {E : Nat → Value} {d : Nat} {st : List Value} {h : gm_H} {Q : gm_R → gm_H → Prop} {a1 a2 a3 a4 : Value} {x : Nat} : gm_W E d 87 0 [.ref x, a1, a2, a3, a4] st h Q ↔ gm_W E d 87 1 [.ref x, a1, a2, a3, a4] (.ref x :: st) h Q := gw_loc m87 f87_0 rfl rfl
theorem r87_0n {E : Nat → Value} {d : Nat} {st : List Value} {h : gm_H} {Q : gm_R → gm_H → Prop} {a1 a2 a3 a4 : Value}  : gm_W E d 87 0 [.null, a1, a2, a3, a4] st h Q ↔ gm_W E d 87 1 [.null, a1, a2, a3, a4] (.null :: st) h Q := gw_loc m87 f87_0 rfl rfl
theorem f87_1 : gm_ft 87 1 = some (.iload_n 1, 1) := by decide +kernel
theorem r87_1 {E : Nat → Value} {d : Nat} {st : List Value} {h : gm_H} {Q : gm_R → gm_H → Prop} {a0 a2 a3 a4 : Value} {x : Int32} : gm_W E d 87 1 [a0, .int x, a2, a3, a4] st h Q ↔ gm_W E d 87 2 [a0, .int x, a2, a3, a4] (.int x :: st) h Q := gw_loc m87 f87_1 rfl rfl
theorem f87_2 : gm_ft 87 2 = some (.invokevirtual 235, 3) := by decide +kernel
theorem c87_2 {E : Nat → Value} {d : Nat} {st : List Value} {h : gm_H} {Q : gm_R → gm_H → Prop} {lv : List Value} {b0 : Int32} {a : Nat} {Qc : gm_R → gm_H → Prop} (hs : (st.map fun v => v.category).sum ≤ 8) (hr : gm_kd h a = 0) (hd : 1 ≤ d) (hc : gm_Ca E (d - 1) 96 [.ref a, .int b0] h Qc) (kn : ∀ (v9 : Option Value) (h9 : gm_H), Qc (.inl v9) h9 → gm_W E d 87 5 lv (v9.toList ++ st) h9 Q) (kx : ∀ (x9 : Nat) (h9 : gm_H), Qc (.inr x9) h9 → Q (.inr x9) h9) : gm_W E d 87 2 lv (.int b0 :: .ref a :: st) h Q := gw_call (gn_call m87 f87_2 rfl rfl rfl rfl rfl rfl rfl (gs_virt (bs := [.int b0]) (w := 505) (L := 3) rfl rfl rfl rfl hs (by simp [gm_en1]) hr (by decide)) (by decide)) m87 rfl rfl hd hc kn kx
theorem f87_5 : gm_ft 87 5 = some (.astore_n 2, 1) := by decide +kernel
theorem r87_5 {E : Nat → Value} {d : Nat} {st : List Value} {h : gm_H} {Q : gm_R → gm_H → Prop} {a0 a1 a2 a3 a4 : Value} {x : Nat} : gm_W E d 87 5 [a0, a1, a2, a3, a4] (.ref x :: st) h Q ↔ gm_W E d 87 6 [a0, gm_k a1, .ref x, a3, a4] st h Q := gw_loc m87 f87_5 rfl rfl
theorem r87_5n {E : Nat → Value} {d : Nat} {st : List Value} {h : gm_H} {Q : gm_R → gm_H → Prop} {a0 a1 a2 a3 a4 : Value}  : gm_W E d 87 5 [a0, a1, a2, a3, a4] (.null :: st) h Q ↔ gm_W E d 87 6 [a0, gm_k a1, .null, a3, a4] st h Q := gw_loc m87 f87_5 rfl rfl
theorem f87_6 : gm_ft 87 6 = some (.aload_n 0, 1) := by decide +kernel
theorem r87_6 {E : Nat → Value} {d : Nat} {st : List Value} {h : gm_H} {Q : gm_R → gm_H → Prop} {a1 a2 a3 a4 : Value} {x : Nat} : gm_W E d 87 6 [.ref x, a1, a2, a3, a4] st h Q ↔ gm_W E d 87 7 [.ref x, a1, a2, a3, a4] (.ref x :: st) h Q := gw_loc m87 f87_6 rfl rfl
theorem r87_6n {E : Nat → Value} {d : Nat} {st : List Value} {h : gm_H} {Q : gm_R → gm_H → Prop} {a1 a2 a3 a4 : Value}  : gm_W E d 87 6 [.null, a1, a2, a3, a4] st h Q ↔ gm_W E d 87 7 [.null, a1, a2, a3, a4] (.null :: st) h Q := gw_loc m87 f87_6 rfl rfl
theorem f87_7 : gm_ft 87 7 = some (.aload_n 2, 1) := by decide +kernel
theorem r87_7 {E : Nat → Value} {d : Nat} {st : List Value} {h : gm_H} {Q : gm_R → gm_H → Prop} {a0 a1 a3 a4 : Value} {x : Nat} : gm_W E d 87 7 [a0, a1, .ref x, a3, a4] st h Q ↔ gm_W E d 87 8 [a0, a1, .ref x, a3, a4] (.ref x :: st) h Q := gw_loc m87 f87_7 rfl rfl
theorem r87_7n {E : Nat → Value} {d : Nat} {st : List Value} {h : gm_H} {Q : gm_R → gm_H → Prop} {a0 a1 a3 a4 : Value}  : gm_W E d 87 7 [a0, a1, .null, a3, a4] st h Q ↔ gm_W E d 87 8 [a0, a1, .null, a3, a4] (.null :: st) h Q := gw_loc m87 f87_7 rfl rfl
theorem f87_8 : gm_ft 87 8 = some (.iload_n 1, 1) := by decide +kernel
theorem r87_8 {E : Nat → Value} {d : Nat} {st : List Value} {h : gm_H} {Q : gm_R → gm_H → Prop} {a0 a2 a3 a4 : Value} {x : Int32} : gm_W E d 87 8 [a0, .int x, a2, a3, a4] st h Q ↔ gm_W E d 87 9 [a0, .int x, a2, a3, a4] (.int x :: st) h Q := gw_loc m87 f87_8 rfl rfl
theorem f87_9 : gm_ft 87 9 = some (.iconst 0, 1) := by decide +kernel
theorem r87_9 {E : Nat → Value} {d : Nat} {st : List Value} {h : gm_H} {Q : gm_R → gm_H → Prop} {lv : List Value} : gm_W E d 87 9 lv st h Q ↔ gm_W E d 87 10 lv (.int (0 : Int32) :: st) h Q := gw_pure m87 f87_9 rfl
theorem f87_10 : gm_ft 87 10 = some (.invokevirtual 252, 3) := by decide +kernel
theorem c87_10 {E : Nat → Value} {d : Nat} {st : List Value} {h : gm_H} {Q : gm_R → gm_H → Prop} {lv : List Value} {b0 : Value} {b1 : Int32} {b2 : Int32} {a : Nat} {Qc : gm_R → gm_H → Prop} (hs : (st.map fun v => v.category).sum ≤ 8) (he : (gm_en1 [.ref a, b0, .int b1, .int b2]).length ≤ 5) (hr : gm_kd h a = 0) (hd : 1 ≤ d) (hc : gm_Ca E (d - 1) 80 [.ref a, b0, .int b1, .int b2] h Qc) (kn : ∀ (v9 : Option Value) (h9 : gm_H), Qc (.inl v9) h9 → gm_W E d 87 13 lv (v9.toList ++ st) h9 Q) (kx : ∀ (x9 : Nat) (h9 : gm_H), Qc (.inr x9) h9 → Q (.inr x9) h9) : gm_W E d 87 10 lv (.int b2 :: .int b1 :: b0 :: .ref a :: st) h Q := gw_call (gn_call m87 f87_10 rfl rfl rfl rfl rfl rfl rfl (gs_virt (bs := [.int b2, .int b1, b0]) (w := 509) (L := 5) rfl rfl rfl rfl hs he hr (by decide)) (by decide)) m87 rfl rfl hd hc kn kx
theorem f87_13 : gm_ft 87 13 = some (.aload_n 2, 1) := by decide +kernel
theorem r87_13 {E : Nat → Value} {d : Nat} {st : List Value} {h : gm_H} {Q : gm_R → gm_H → Prop} {a0 a1 a3 a4 : Value} {x : Nat} : gm_W E d 87 13 [a0, a1, .ref x, a3, a4] st h Q ↔ gm_W E d 87 14 [a0, a1, .ref x, a3, a4] (.ref x :: st) h Q := gw_loc m87 f87_13 rfl rfl
theorem r87_13n {E : Nat → Value} {d : Nat} {st : List Value} {h : gm_H} {Q : gm_R → gm_H → Prop} {a0 a1 a3 a4 : Value}  : gm_W E d 87 13 [a0, a1, .null, a3, a4] st h Q ↔ gm_W E d 87 14 [a0, a1, .null, a3, a4] (.null :: st) h Q := gw_loc m87 f87_13 rfl rfl
theorem f87_14 : gm_ft 87 14 = some (.invokevirtual 256, 3) := by decide +kernel
theorem c87_14 {E : Nat → Value} {d : Nat} {st : List Value} {h : gm_H} {Q : gm_R → gm_H → Prop} {lv : List Value} {a : Nat} {Qc : gm_R → gm_H → Prop} (hs : (st.map fun v => v.category).sum ≤ 8) (hr : gm_kd h a = 1) (hd : 1 ≤ d) (hc : gm_Ca E (d - 1) 104 [.ref a] h Qc) (kn : ∀ (v9 : Option Value) (h9 : gm_H), Qc (.inl v9) h9 → gm_W E d 87 17 lv (v9.toList ++ st) h9 Q) (kx : ∀ (x9 : Nat) (h9 : gm_H), Qc (.inr x9) h9 → Q (.inr x9) h9) : gm_W E d 87 14 lv (.ref a :: st) h Q := gw_call (gn_call m87 f87_14 rfl rfl rfl rfl rfl rfl rfl (gs_virt (bs := []) (w := 364) (L := 1) rfl rfl rfl rfl hs (by simp [gm_en1]) hr (by decide)) (by decide)) m87 rfl rfl hd hc kn kx
theorem f87_17 : gm_ft 87 17 = some (.ifCond .ne 10, 3) := by decide +kernel
theorem r87_17 {E : Nat → Value} {d : Nat} {st : List Value} {h : gm_H} {Q : gm_R → gm_H → Prop} {lv : List Value} {x : Int32} : gm_W E d 87 17 lv (.int x :: st) h Q ↔ (if x = 0 then gm_W E d 87 20 lv st h Q else gm_W E d 87 27 lv st h Q) := (gw_br m87 f87_17 rfl rfl rfl rfl).trans gw_ifn
theorem f87_20 : gm_ft 87 20 = some (.aload_n 0, 1) := by decide +kernel
theorem r87_20 {E : Nat → Value} {d : Nat} {st : List Value} {h : gm_H} {Q : gm_R → gm_H → Prop} {a1 a2 a3 a4 : Value} {x : Nat} : gm_W E d 87 20 [.ref x, a1, a2, a3, a4] st h Q ↔ gm_W E d 87 21 [.ref x, a1, a2, a3, a4] (.ref x :: st) h Q := gw_loc m87 f87_20 rfl rfl
theorem r87_20n {E : Nat → Value} {d : Nat} {st : List Value} {h : gm_H} {Q : gm_R → gm_H → Prop} {a1 a2 a3 a4 : Value}  : gm_W E d 87 20 [.null, a1, a2, a3, a4] st h Q ↔ gm_W E d 87 21 [.null, a1, a2, a3, a4] (.null :: st) h Q := gw_loc m87 f87_20 rfl rfl
theorem f87_21 : gm_ft 87 21 = some (.bipush (-5), 2) := by decide +kernel
theorem r87_21 {E : Nat → Value} {d : Nat} {st : List Value} {h : gm_H} {Q : gm_R → gm_H → Prop} {lv : List Value} : gm_W E d 87 21 lv st h Q ↔ gm_W E d 87 23 lv (.int (-5 : Int32) :: st) h Q := gw_pure m87 f87_21 rfl
theorem f87_23 : gm_ft 87 23 = some (.invokevirtual 160, 3) := by decide +kernel
theorem c87_23 {E : Nat → Value} {d : Nat} {st : List Value} {h : gm_H} {Q : gm_R → gm_H → Prop} {lv : List Value} {b0 : Int32} {a : Nat} {Qc : gm_R → gm_H → Prop} (hs : (st.map fun v => v.category).sum ≤ 8) (hr : gm_kd h a = 0) (hd : 1 ≤ d) (hc : gm_Ca E (d - 1) 66 [.ref a, .int b0] h Qc) (kn : ∀ (v9 : Option Value) (h9 : gm_H), Qc (.inl v9) h9 → gm_W E d 87 26 lv (v9.toList ++ st) h9 Q) (kx : ∀ (x9 : Nat) (h9 : gm_H), Qc (.inr x9) h9 → Q (.inr x9) h9) : gm_W E d 87 23 lv (.int b0 :: .ref a :: st) h Q := gw_call (gn_call m87 f87_23 rfl rfl rfl rfl rfl rfl rfl (gs_virt (bs := [.int b0]) (w := 206) (L := 2) rfl rfl rfl rfl hs (by simp [gm_en1]) hr (by decide)) (by decide)) m87 rfl rfl hd hc kn kx
theorem f87_26 : gm_ft 87 26 = some (.ireturn, 1) := by decide +kernel
theorem r87_26 {E : Nat → Value} {d : Nat} {h : gm_H} {Q : gm_R → gm_H → Prop} {lv : List Value} {x : Int32} : gm_W E d 87 26 lv [.int x] h Q ↔ Q (.inl (some (.int x))) h := gw_ret m87 f87_26 rfl rfl rfl rfl rfl rfl rfl rfl (by unfold gm_rt; dsimp only; rw [if_pos ⟨rfl, rfl⟩])
theorem f87_27 : gm_ft 87 27 = some (.aload_n 2, 1) := by decide +kernel
theorem r87_27 {E : Nat → Value} {d : Nat} {st : List Value} {h : gm_H} {Q : gm_R → gm_H → Prop} {a0 a1 a3 a4 : Value} {x : Nat} : gm_W E d 87 27 [a0, a1, .ref x, a3, a4] st h Q ↔ gm_W E d 87 28 [a0, a1, .ref x, a3, a4] (.ref x :: st) h Q := gw_loc m87 f87_27 rfl rfl
theorem r87_27n {E : Nat → Value} {d : Nat} {st : List Value} {h : gm_H} {Q : gm_R → gm_H → Prop} {a0 a1 a3 a4 : Value}  : gm_W E d 87 27 [a0, a1, .null, a3, a4] st h Q ↔ gm_W E d 87 28 [a0, a1, .null, a3, a4] (.null :: st) h Q := gw_loc m87 f87_27 rfl rfl
theorem f87_28 : gm_ft 87 28 = some (.getfield 188, 3) := by decide +kernel
theorem r87_28 {E : Nat → Value} {d : Nat} {st : List Value} {h : gm_H} {Q : gm_R → gm_H → Prop} {lv : List Value} {a : Nat} (hk : gm_kd h a = 1) : gm_W E d 87 28 lv (.ref a :: st) h Q ↔ gm_W E d 87 31 lv (gm_fv h a 9 :: st) h Q := gw_rd m87 f87_28 rfl rfl rfl rfl (gs_get k0_188 hk (by decide))
theorem f87_31 : gm_ft 87 31 = some (.ifnonnull 10, 3) := by decide +kernel
theorem r87_31n {E : Nat → Value} {d : Nat} {st : List Value} {h : gm_H} {Q : gm_R → gm_H → Prop} {lv : List Value} : gm_W E d 87 31 lv (.null :: st) h Q ↔ gm_W E d 87 34 lv st h Q := gw_brF m87 f87_31 rfl rfl rfl rfl
theorem r87_31 {E : Nat → Value} {d : Nat} {st : List Value} {h : gm_H} {Q : gm_R → gm_H → Prop} {lv : List Value} {a : Nat} : gm_W E d 87 31 lv (.ref a :: st) h Q ↔ gm_W E d 87 41 lv st h Q := gw_brT m87 f87_31 rfl rfl rfl rfl
theorem f87_34 : gm_ft 87 34 = some (.aload_n 0, 1) := by decide +kernel
theorem r87_34 {E : Nat → Value} {d : Nat} {st : List Value} {h : gm_H} {Q : gm_R → gm_H → Prop} {a1 a2 a3 a4 : Value} {x : Nat} : gm_W E d 87 34 [.ref x, a1, a2, a3, a4] st h Q ↔ gm_W E d 87 35 [.ref x, a1, a2, a3, a4] (.ref x :: st) h Q := gw_loc m87 f87_34 rfl rfl
theorem r87_34n {E : Nat → Value} {d : Nat} {st : List Value} {h : gm_H} {Q : gm_R → gm_H → Prop} {a1 a2 a3 a4 : Value}  : gm_W E d 87 34 [.null, a1, a2, a3, a4] st h Q ↔ gm_W E d 87 35 [.null, a1, a2, a3, a4] (.null :: st) h Q := gw_loc m87 f87_34 rfl rfl
theorem f87_35 : gm_ft 87 35 = some (.bipush (-9), 2) := by decide +kernel
theorem r87_35 {E : Nat → Value} {d : Nat} {st : List Value} {h : gm_H} {Q : gm_R → gm_H → Prop} {lv : List Value} : gm_W E d 87 35 lv st h Q ↔ gm_W E d 87 37 lv (.int (-9 : Int32) :: st) h Q := gw_pure m87 f87_35 rfl
theorem f87_37 : gm_ft 87 37 = some (.invokevirtual 160, 3) := by decide +kernel
theorem c87_37 {E : Nat → Value} {d : Nat} {st : List Value} {h : gm_H} {Q : gm_R → gm_H → Prop} {lv : List Value} {b0 : Int32} {a : Nat} {Qc : gm_R → gm_H → Prop} (hs : (st.map fun v => v.category).sum ≤ 8) (hr : gm_kd h a = 0) (hd : 1 ≤ d) (hc : gm_Ca E (d - 1) 66 [.ref a, .int b0] h Qc) (kn : ∀ (v9 : Option Value) (h9 : gm_H), Qc (.inl v9) h9 → gm_W E d 87 40 lv (v9.toList ++ st) h9 Q) (kx : ∀ (x9 : Nat) (h9 : gm_H), Qc (.inr x9) h9 → Q (.inr x9) h9) : gm_W E d 87 37 lv (.int b0 :: .ref a :: st) h Q := gw_call (gn_call m87 f87_37 rfl rfl rfl rfl rfl rfl rfl (gs_virt (bs := [.int b0]) (w := 206) (L := 2) rfl rfl rfl rfl hs (by simp [gm_en1]) hr (by decide)) (by decide)) m87 rfl rfl hd hc kn kx
theorem f87_40 : gm_ft 87 40 = some (.ireturn, 1) := by decide +kernel
theorem r87_40 {E : Nat → Value} {d : Nat} {h : gm_H} {Q : gm_R → gm_H → Prop} {lv : List Value} {x : Int32} : gm_W E d 87 40 lv [.int x] h Q ↔ Q (.inl (some (.int x))) h := gw_ret m87 f87_40 rfl rfl rfl rfl rfl rfl rfl rfl (by unfold gm_rt; dsimp only; rw [if_pos ⟨rfl, rfl⟩])
theorem f87_41 : gm_ft 87 41 = some (.aload_n 0, 1) := by decide +kernel
theorem r87_41 {E : Nat → Value} {d : Nat} {st : List Value} {h : gm_H} {Q : gm_R → gm_H → Prop} {a1 a2 a3 a4 : Value} {x : Nat} : gm_W E d 87 41 [.ref x, a1, a2, a3, a4] st h Q ↔ gm_W E d 87 42 [.ref x, a1, a2, a3, a4] (.ref x :: st) h Q := gw_loc m87 f87_41 rfl rfl
theorem r87_41n {E : Nat → Value} {d : Nat} {st : List Value} {h : gm_H} {Q : gm_R → gm_H → Prop} {a1 a2 a3 a4 : Value}  : gm_W E d 87 41 [.null, a1, a2, a3, a4] st h Q ↔ gm_W E d 87 42 [.null, a1, a2, a3, a4] (.null :: st) h Q := gw_loc m87 f87_41 rfl rfl
theorem f87_42 : gm_ft 87 42 = some (.bipush (-2), 2) := by decide +kernel
theorem r87_42 {E : Nat → Value} {d : Nat} {st : List Value} {h : gm_H} {Q : gm_R → gm_H → Prop} {lv : List Value} : gm_W E d 87 42 lv st h Q ↔ gm_W E d 87 44 lv (.int (-2 : Int32) :: st) h Q := gw_pure m87 f87_42 rfl
theorem f87_44 : gm_ft 87 44 = some (.invokevirtual 222, 3) := by decide +kernel
theorem c87_44 {E : Nat → Value} {d : Nat} {st : List Value} {h : gm_H} {Q : gm_R → gm_H → Prop} {lv : List Value} {b0 : Int32} {a : Nat} {Qc : gm_R → gm_H → Prop} (hs : (st.map fun v => v.category).sum ≤ 8) (hr : gm_kd h a = 0) (hd : 1 ≤ d) (hc : gm_Ca E (d - 1) 78 [.ref a, .int b0] h Qc) (kn : ∀ (v9 : Option Value) (h9 : gm_H), Qc (.inl v9) h9 → gm_W E d 87 47 lv (v9.toList ++ st) h9 Q) (kx : ∀ (x9 : Nat) (h9 : gm_H), Qc (.inr x9) h9 → Q (.inr x9) h9) : gm_W E d 87 44 lv (.int b0 :: .ref a :: st) h Q := gw_call (gn_call m87 f87_44 rfl rfl rfl rfl rfl rfl rfl (gs_virt (bs := [.int b0]) (w := 348) (L := 2) rfl rfl rfl rfl hs (by simp [gm_en1]) hr (by decide)) (by decide)) m87 rfl rfl hd hc kn kx
theorem f87_47 : gm_ft 87 47 = some (.istore_n 3, 1) := by decide +kernel
theorem r87_47 {E : Nat → Value} {d : Nat} {st : List Value} {h : gm_H} {Q : gm_R → gm_H → Prop} {a0 a1 a2 a3 a4 : Value} {x : Int32} : gm_W E d 87 47 [a0, a1, a2, a3, a4] (.int x :: st) h Q ↔ gm_W E d 87 48 [a0, a1, gm_k a2, .int x, a4] st h Q := gw_loc m87 f87_47 rfl rfl
theorem f87_48 : gm_ft 87 48 = some (.aload_n 0, 1) := by decide +kernel
theorem r87_48 {E : Nat → Value} {d : Nat} {st : List Value} {h : gm_H} {Q : gm_R → gm_H → Prop} {a1 a2 a3 a4 : Value} {x : Nat} : gm_W E d 87 48 [.ref x, a1, a2, a3, a4] st h Q ↔ gm_W E d 87 49 [.ref x, a1, a2, a3, a4] (.ref x :: st) h Q := gw_loc m87 f87_48 rfl rfl
theorem r87_48n {E : Nat → Value} {d : Nat} {st : List Value} {h : gm_H} {Q : gm_R → gm_H → Prop} {a1 a2 a3 a4 : Value}  : gm_W E d 87 48 [.null, a1, a2, a3, a4] st h Q ↔ gm_W E d 87 49 [.null, a1, a2, a3, a4] (.null :: st) h Q := gw_loc m87 f87_48 rfl rfl
theorem f87_49 : gm_ft 87 49 = some (.aload_n 0, 1) := by decide +kernel
theorem r87_49 {E : Nat → Value} {d : Nat} {st : List Value} {h : gm_H} {Q : gm_R → gm_H → Prop} {a1 a2 a3 a4 : Value} {x : Nat} : gm_W E d 87 49 [.ref x, a1, a2, a3, a4] st h Q ↔ gm_W E d 87 50 [.ref x, a1, a2, a3, a4] (.ref x :: st) h Q := gw_loc m87 f87_49 rfl rfl
theorem r87_49n {E : Nat → Value} {d : Nat} {st : List Value} {h : gm_H} {Q : gm_R → gm_H → Prop} {a1 a2 a3 a4 : Value}  : gm_W E d 87 49 [.null, a1, a2, a3, a4] st h Q ↔ gm_W E d 87 50 [.null, a1, a2, a3, a4] (.null :: st) h Q := gw_loc m87 f87_49 rfl rfl
theorem f87_50 : gm_ft 87 50 = some (.iload_n 1, 1) := by decide +kernel
theorem r87_50 {E : Nat → Value} {d : Nat} {st : List Value} {h : gm_H} {Q : gm_R → gm_H → Prop} {a0 a2 a3 a4 : Value} {x : Int32} : gm_W E d 87 50 [a0, .int x, a2, a3, a4] st h Q ↔ gm_W E d 87 51 [a0, .int x, a2, a3, a4] (.int x :: st) h Q := gw_loc m87 f87_50 rfl rfl
theorem f87_51 : gm_ft 87 51 = some (.iconst 1, 1) := by decide +kernel
theorem r87_51 {E : Nat → Value} {d : Nat} {st : List Value} {h : gm_H} {Q : gm_R → gm_H → Prop} {lv : List Value} : gm_W E d 87 51 lv st h Q ↔ gm_W E d 87 52 lv (.int (1 : Int32) :: st) h Q := gw_pure m87 f87_51 rfl
theorem f87_52 : gm_ft 87 52 = some (.iadd, 1) := by decide +kernel
theorem r87_52 {E : Nat → Value} {d : Nat} {st : List Value} {h : gm_H} {Q : gm_R → gm_H → Prop} {lv : List Value} {x y : Int32} : gm_W E d 87 52 lv (.int y :: .int x :: st) h Q ↔ gm_W E d 87 53 lv (.int (x + y) :: st) h Q := gw_pure m87 f87_52 rfl
theorem f87_53 : gm_ft 87 53 = some (.invokevirtual 182, 3) := by decide +kernel
theorem c87_53 {E : Nat → Value} {d : Nat} {st : List Value} {h : gm_H} {Q : gm_R → gm_H → Prop} {lv : List Value} {b0 : Int32} {a : Nat} {Qc : gm_R → gm_H → Prop} (hs : (st.map fun v => v.category).sum ≤ 8) (hr : gm_kd h a = 0) (hd : 1 ≤ d) (hc : gm_Ca E (d - 1) 82 [.ref a, .int b0] h Qc) (kn : ∀ (v9 : Option Value) (h9 : gm_H), Qc (.inl v9) h9 → gm_W E d 87 56 lv (v9.toList ++ st) h9 Q) (kx : ∀ (x9 : Nat) (h9 : gm_H), Qc (.inr x9) h9 → Q (.inr x9) h9) : gm_W E d 87 53 lv (.int b0 :: .ref a :: st) h Q := gw_call (gn_call m87 f87_53 rfl rfl rfl rfl rfl rfl rfl (gs_virt (bs := [.int b0]) (w := 270) (L := 2) rfl rfl rfl rfl hs (by simp [gm_en1]) hr (by decide)) (by decide)) m87 rfl rfl hd hc kn kx
theorem f87_56 : gm_ft 87 56 = some (.invokevirtual 260, 3) := by decide +kernel
theorem c87_56 {E : Nat → Value} {d : Nat} {st : List Value} {h : gm_H} {Q : gm_R → gm_H → Prop} {lv : List Value} {b0 : Int32} {a : Nat} {Qc : gm_R → gm_H → Prop} (hs : (st.map fun v => v.category).sum ≤ 8) (hr : gm_kd h a = 0) (hd : 1 ≤ d) (hc : gm_Ca E (d - 1) 88 [.ref a, .int b0] h Qc) (kn : ∀ (v9 : Option Value) (h9 : gm_H), Qc (.inl v9) h9 → gm_W E d 87 59 lv (v9.toList ++ st) h9 Q) (kx : ∀ (x9 : Nat) (h9 : gm_H), Qc (.inr x9) h9 → Q (.inr x9) h9) : gm_W E d 87 56 lv (.int b0 :: .ref a :: st) h Q := gw_call (gn_call m87 f87_56 rfl rfl rfl rfl rfl rfl rfl (gs_virt (bs := [.int b0]) (w := 632) (L := 3) rfl rfl rfl rfl hs (by simp [gm_en1]) hr (by decide)) (by decide)) m87 rfl rfl hd hc kn kx
theorem f87_59 : gm_ft 87 59 = some (.istore 4, 2) := by decide +kernel
theorem r87_59 {E : Nat → Value} {d : Nat} {st : List Value} {h : gm_H} {Q : gm_R → gm_H → Prop} {a0 a1 a2 a3 a4 : Value} {x : Int32} : gm_W E d 87 59 [a0, a1, a2, a3, a4] (.int x :: st) h Q ↔ gm_W E d 87 61 [a0, a1, a2, gm_k a3, .int x] st h Q := gw_loc m87 f87_59 rfl rfl
theorem f87_61 : gm_ft 87 61 = some (.iload 4, 2) := by decide +kernel
theorem r87_61 {E : Nat → Value} {d : Nat} {st : List Value} {h : gm_H} {Q : gm_R → gm_H → Prop} {a0 a1 a2 a3 : Value} {x : Int32} : gm_W E d 87 61 [a0, a1, a2, a3, .int x] st h Q ↔ gm_W E d 87 63 [a0, a1, a2, a3, .int x] (.int x :: st) h Q := gw_loc m87 f87_61 rfl rfl
theorem f87_63 : gm_ft 87 63 = some (.invokestatic 68, 3) := by decide +kernel
theorem c87_63 {E : Nat → Value} {d : Nat} {st : List Value} {h : gm_H} {Q : gm_R → gm_H → Prop} {lv : List Value} {b0 : Int32} {Qc : gm_R → gm_H → Prop} (hs : (st.map fun v => v.category).sum ≤ 8) (hd : 1 ≤ d) (hc : gm_Ca E (d - 1) 62 [.int b0] h Qc) (kn : ∀ (v9 : Option Value) (h9 : gm_H), Qc (.inl v9) h9 → gm_W E d 87 66 lv (v9.toList ++ st) h9 Q) (kx : ∀ (x9 : Nat) (h9 : gm_H), Qc (.inr x9) h9 → Q (.inr x9) h9) : gm_W E d 87 63 lv (.int b0 :: st) h Q := gw_call (gn_call m87 f87_63 rfl rfl rfl rfl rfl rfl rfl (gc_stat (bs := [.int b0]) (w := 157) (L := 1) rfl rfl rfl hs (by simp [gm_en1])) (by decide)) m87 rfl rfl hd hc kn kx
theorem f87_66 : gm_ft 87 66 = some (.ifCond .eq 18, 3) := by decide +kernel
theorem r87_66 {E : Nat → Value} {d : Nat} {st : List Value} {h : gm_H} {Q : gm_R → gm_H → Prop} {lv : List Value} {x : Int32} : gm_W E d 87 66 lv (.int x :: st) h Q ↔ (if x = 0 then gm_W E d 87 84 lv st h Q else gm_W E d 87 69 lv st h Q) := (gw_br m87 f87_66 rfl rfl rfl rfl).trans gw_if
theorem f87_69 : gm_ft 87 69 = some (.aload_n 2, 1) := by decide +kernel
theorem r87_69 {E : Nat → Value} {d : Nat} {st : List Value} {h : gm_H} {Q : gm_R → gm_H → Prop} {a0 a1 a3 a4 : Value} {x : Nat} : gm_W E d 87 69 [a0, a1, .ref x, a3, a4] st h Q ↔ gm_W E d 87 70 [a0, a1, .ref x, a3, a4] (.ref x :: st) h Q := gw_loc m87 f87_69 rfl rfl
theorem r87_69n {E : Nat → Value} {d : Nat} {st : List Value} {h : gm_H} {Q : gm_R → gm_H → Prop} {a0 a1 a3 a4 : Value}  : gm_W E d 87 69 [a0, a1, .null, a3, a4] st h Q ↔ gm_W E d 87 70 [a0, a1, .null, a3, a4] (.null :: st) h Q := gw_loc m87 f87_69 rfl rfl
theorem f87_70 : gm_ft 87 70 = some (.getfield 188, 3) := by decide +kernel
theorem r87_70 {E : Nat → Value} {d : Nat} {st : List Value} {h : gm_H} {Q : gm_R → gm_H → Prop} {lv : List Value} {a : Nat} (hk : gm_kd h a = 1) : gm_W E d 87 70 lv (.ref a :: st) h Q ↔ gm_W E d 87 73 lv (gm_fv h a 9 :: st) h Q := gw_rd m87 f87_70 rfl rfl rfl rfl (gs_get k0_188 hk (by decide))
theorem f87_73 : gm_ft 87 73 = some (.getfield 90, 3) := by decide +kernel
theorem r87_73 {E : Nat → Value} {d : Nat} {st : List Value} {h : gm_H} {Q : gm_R → gm_H → Prop} {lv : List Value} {a : Nat} (hk : gm_kd h a = 3) : gm_W E d 87 73 lv (.ref a :: st) h Q ↔ gm_W E d 87 76 lv (gm_fv h a 8 :: st) h Q := gw_rd m87 f87_73 rfl rfl rfl rfl (gs_get k0_90 hk (by decide))
theorem f87_76 : gm_ft 87 76 = some (.iload 4, 2) := by decide +kernel
theorem r87_76 {E : Nat → Value} {d : Nat} {st : List Value} {h : gm_H} {Q : gm_R → gm_H → Prop} {a0 a1 a2 a3 : Value} {x : Int32} : gm_W E d 87 76 [a0, a1, a2, a3, .int x] st h Q ↔ gm_W E d 87 78 [a0, a1, a2, a3, .int x] (.int x :: st) h Q := gw_loc m87 f87_76 rfl rfl
theorem f87_78 : gm_ft 87 78 = some (.ishr, 1) := by decide +kernel
theorem r87_78 {E : Nat → Value} {d : Nat} {st : List Value} {h : gm_H} {Q : gm_R → gm_H → Prop} {lv : List Value} {x y : Int32} : gm_W E d 87 78 lv (.int y :: .int x :: st) h Q ↔ gm_W E d 87 79 lv (.int (x >>> (y &&& 31)) :: st) h Q := gw_pure m87 f87_78 rfl
theorem f87_79 : gm_ft 87 79 = some (.iconst 1, 1) := by decide +kernel
theorem r87_79 {E : Nat → Value} {d : Nat} {st : List Value} {h : gm_H} {Q : gm_R → gm_H → Prop} {lv : List Value} : gm_W E d 87 79 lv st h Q ↔ gm_W E d 87 80 lv (.int (1 : Int32) :: st) h Q := gw_pure m87 f87_79 rfl
theorem f87_80 : gm_ft 87 80 = some (.iand, 1) := by decide +kernel
theorem r87_80 {E : Nat → Value} {d : Nat} {st : List Value} {h : gm_H} {Q : gm_R → gm_H → Prop} {lv : List Value} {x y : Int32} : gm_W E d 87 80 lv (.int y :: .int x :: st) h Q ↔ gm_W E d 87 81 lv (.int (x &&& y) :: st) h Q := gw_pure m87 f87_80 rfl
theorem f87_81 : gm_ft 87 81 = some (.ifCond .ne 10, 3) := by decide +kernel
theorem r87_81 {E : Nat → Value} {d : Nat} {st : List Value} {h : gm_H} {Q : gm_R → gm_H → Prop} {lv : List Value} {x : Int32} : gm_W E d 87 81 lv (.int x :: st) h Q ↔ (if x = 0 then gm_W E d 87 84 lv st h Q else gm_W E d 87 91 lv st h Q) := (gw_br m87 f87_81 rfl rfl rfl rfl).trans gw_ifn
theorem f87_84 : gm_ft 87 84 = some (.aload_n 0, 1) := by decide +kernel
theorem r87_84 {E : Nat → Value} {d : Nat} {st : List Value} {h : gm_H} {Q : gm_R → gm_H → Prop} {a1 a2 a3 a4 : Value} {x : Nat} : gm_W E d 87 84 [.ref x, a1, a2, a3, a4] st h Q ↔ gm_W E d 87 85 [.ref x, a1, a2, a3, a4] (.ref x :: st) h Q := gw_loc m87 f87_84 rfl rfl
theorem r87_84n {E : Nat → Value} {d : Nat} {st : List Value} {h : gm_H} {Q : gm_R → gm_H → Prop} {a1 a2 a3 a4 : Value}  : gm_W E d 87 84 [.null, a1, a2, a3, a4] st h Q ↔ gm_W E d 87 85 [.null, a1, a2, a3, a4] (.null :: st) h Q := gw_loc m87 f87_84 rfl rfl
theorem f87_85 : gm_ft 87 85 = some (.bipush (-6), 2) := by decide +kernel
theorem r87_85 {E : Nat → Value} {d : Nat} {st : List Value} {h : gm_H} {Q : gm_R → gm_H → Prop} {lv : List Value} : gm_W E d 87 85 lv st h Q ↔ gm_W E d 87 87 lv (.int (-6 : Int32) :: st) h Q := gw_pure m87 f87_85 rfl
theorem f87_87 : gm_ft 87 87 = some (.invokevirtual 160, 3) := by decide +kernel
theorem c87_87 {E : Nat → Value} {d : Nat} {st : List Value} {h : gm_H} {Q : gm_R → gm_H → Prop} {lv : List Value} {b0 : Int32} {a : Nat} {Qc : gm_R → gm_H → Prop} (hs : (st.map fun v => v.category).sum ≤ 8) (hr : gm_kd h a = 0) (hd : 1 ≤ d) (hc : gm_Ca E (d - 1) 66 [.ref a, .int b0] h Qc) (kn : ∀ (v9 : Option Value) (h9 : gm_H), Qc (.inl v9) h9 → gm_W E d 87 90 lv (v9.toList ++ st) h9 Q) (kx : ∀ (x9 : Nat) (h9 : gm_H), Qc (.inr x9) h9 → Q (.inr x9) h9) : gm_W E d 87 87 lv (.int b0 :: .ref a :: st) h Q := gw_call (gn_call m87 f87_87 rfl rfl rfl rfl rfl rfl rfl (gs_virt (bs := [.int b0]) (w := 206) (L := 2) rfl rfl rfl rfl hs (by simp [gm_en1]) hr (by decide)) (by decide)) m87 rfl rfl hd hc kn kx
theorem f87_90 : gm_ft 87 90 = some (.ireturn, 1) := by decide +kernel
theorem r87_90 {E : Nat → Value} {d : Nat} {h : gm_H} {Q : gm_R → gm_H → Prop} {lv : List Value} {x : Int32} : gm_W E d 87 90 lv [.int x] h Q ↔ Q (.inl (some (.int x))) h := gw_ret m87 f87_90 rfl rfl rfl rfl rfl rfl rfl rfl (by unfold gm_rt; dsimp only; rw [if_pos ⟨rfl, rfl⟩])
theorem f87_91 : gm_ft 87 91 = some (.aload_n 0, 1) := by decide +kernel
theorem r87_91 {E : Nat → Value} {d : Nat} {st : List Value} {h : gm_H} {Q : gm_R → gm_H → Prop} {a1 a2 a3 a4 : Value} {x : Nat} : gm_W E d 87 91 [.ref x, a1, a2, a3, a4] st h Q ↔ gm_W E d 87 92 [.ref x, a1, a2, a3, a4] (.ref x :: st) h Q := gw_loc m87 f87_91 rfl rfl
theorem r87_91n {E : Nat → Value} {d : Nat} {st : List Value} {h : gm_H} {Q : gm_R → gm_H → Prop} {a1 a2 a3 a4 : Value}  : gm_W E d 87 91 [.null, a1, a2, a3, a4] st h Q ↔ gm_W E d 87 92 [.null, a1, a2, a3, a4] (.null :: st) h Q := gw_loc m87 f87_91 rfl rfl
theorem f87_92 : gm_ft 87 92 = some (.getfield 28, 3) := by decide +kernel
theorem r87_92 {E : Nat → Value} {d : Nat} {st : List Value} {h : gm_H} {Q : gm_R → gm_H → Prop} {lv : List Value} {a : Nat} (hk : gm_kd h a = 0) : gm_W E d 87 92 lv (.ref a :: st) h Q ↔ gm_W E d 87 95 lv (gm_fv h a 10 :: st) h Q := gw_rd m87 f87_92 rfl rfl rfl rfl (gs_get k0_28 hk (by decide))
theorem f87_95 : gm_ft 87 95 = some (.getfield 215, 3) := by decide +kernel
theorem r87_95 {E : Nat → Value} {d : Nat} {st : List Value} {h : gm_H} {Q : gm_R → gm_H → Prop} {lv : List Value} {a : Nat} (hk : gm_kd h a = 2) : gm_W E d 87 95 lv (.ref a :: st) h Q ↔ gm_W E d 87 98 lv (gm_fv h a 0 :: st) h Q := gw_rd m87 f87_95 rfl rfl rfl rfl (gs_get k0_215 hk (by decide))
theorem f87_98 : gm_ft 87 98 = some (.iload_n 3, 1) := by decide +kernel
theorem r87_98 {E : Nat → Value} {d : Nat} {st : List Value} {h : gm_H} {Q : gm_R → gm_H → Prop} {a0 a1 a2 a4 : Value} {x : Int32} : gm_W E d 87 98 [a0, a1, a2, .int x, a4] st h Q ↔ gm_W E d 87 99 [a0, a1, a2, .int x, a4] (.int x :: st) h Q := gw_loc m87 f87_98 rfl rfl
theorem f87_99 : gm_ft 87 99 = some (.aload_n 0, 1) := by decide +kernel
theorem r87_99 {E : Nat → Value} {d : Nat} {st : List Value} {h : gm_H} {Q : gm_R → gm_H → Prop} {a1 a2 a3 a4 : Value} {x : Nat} : gm_W E d 87 99 [.ref x, a1, a2, a3, a4] st h Q ↔ gm_W E d 87 100 [.ref x, a1, a2, a3, a4] (.ref x :: st) h Q := gw_loc m87 f87_99 rfl rfl
theorem r87_99n {E : Nat → Value} {d : Nat} {st : List Value} {h : gm_H} {Q : gm_R → gm_H → Prop} {a1 a2 a3 a4 : Value}  : gm_W E d 87 99 [.null, a1, a2, a3, a4] st h Q ↔ gm_W E d 87 100 [.null, a1, a2, a3, a4] (.null :: st) h Q := gw_loc m87 f87_99 rfl rfl
theorem f87_100 : gm_ft 87 100 = some (.aload_n 2, 1) := by decide +kernel
theorem r87_100 {E : Nat → Value} {d : Nat} {st : List Value} {h : gm_H} {Q : gm_R → gm_H → Prop} {a0 a1 a3 a4 : Value} {x : Nat} : gm_W E d 87 100 [a0, a1, .ref x, a3, a4] st h Q ↔ gm_W E d 87 101 [a0, a1, .ref x, a3, a4] (.ref x :: st) h Q := gw_loc m87 f87_100 rfl rfl
theorem r87_100n {E : Nat → Value} {d : Nat} {st : List Value} {h : gm_H} {Q : gm_R → gm_H → Prop} {a0 a1 a3 a4 : Value}  : gm_W E d 87 100 [a0, a1, .null, a3, a4] st h Q ↔ gm_W E d 87 101 [a0, a1, .null, a3, a4] (.null :: st) h Q := gw_loc m87 f87_100 rfl rfl
theorem f87_101 : gm_ft 87 101 = some (.getfield 188, 3) := by decide +kernel
theorem r87_101 {E : Nat → Value} {d : Nat} {st : List Value} {h : gm_H} {Q : gm_R → gm_H → Prop} {lv : List Value} {a : Nat} (hk : gm_kd h a = 1) : gm_W E d 87 101 lv (.ref a :: st) h Q ↔ gm_W E d 87 104 lv (gm_fv h a 9 :: st) h Q := gw_rd m87 f87_101 rfl rfl rfl rfl (gs_get k0_188 hk (by decide))
theorem f87_104 : gm_ft 87 104 = some (.iload 4, 2) := by decide +kernel
theorem r87_104 {E : Nat → Value} {d : Nat} {st : List Value} {h : gm_H} {Q : gm_R → gm_H → Prop} {a0 a1 a2 a3 : Value} {x : Int32} : gm_W E d 87 104 [a0, a1, a2, a3, .int x] st h Q ↔ gm_W E d 87 106 [a0, a1, a2, a3, .int x] (.int x :: st) h Q := gw_loc m87 f87_104 rfl rfl
theorem f87_106 : gm_ft 87 106 = some (.invokevirtual 263, 3) := by decide +kernel
theorem c87_106 {E : Nat → Value} {d : Nat} {st : List Value} {h : gm_H} {Q : gm_R → gm_H → Prop} {lv : List Value} {b0 : Value} {b1 : Int32} {a : Nat} {Qc : gm_R → gm_H → Prop} (hs : (st.map fun v => v.category).sum ≤ 8) (he : (gm_en1 [.ref a, b0, .int b1]).length ≤ 4) (hr : gm_kd h a = 0) (hd : 1 ≤ d) (hc : gm_Ca E (d - 1) 89 [.ref a, b0, .int b1] h Qc) (kn : ∀ (v9 : Option Value) (h9 : gm_H), Qc (.inl v9) h9 → gm_W E d 87 109 lv (v9.toList ++ st) h9 Q) (kx : ∀ (x9 : Nat) (h9 : gm_H), Qc (.inr x9) h9 → Q (.inr x9) h9) : gm_W E d 87 106 lv (.int b1 :: b0 :: .ref a :: st) h Q := gw_call (gn_call m87 f87_106 rfl rfl rfl rfl rfl rfl rfl (gs_virt (bs := [.int b1, b0]) (w := 636) (L := 4) rfl rfl rfl rfl hs he hr (by decide)) (by decide)) m87 rfl rfl hd hc kn kx
theorem f87_109 : gm_ft 87 109 = some (.iastore, 1) := by decide +kernel
theorem r87_109 {E : Nat → Value} {d : Nat} {st : List Value} {h : gm_H} {Q : gm_R → gm_H → Prop} {lv : List Value} {a j : Nat} {x : Int32} (hk : gm_kd h a = 100) (hj : j < gm_ln h a) (hl : gm_ln h a < 2 ^ 31) : gm_W E d 87 109 lv (.int x :: .int (nI j) :: .ref a :: st) h Q ↔ gm_W E d 87 110 lv st (gm_sf h a j (.int x)) Q := gw_wr m87 f87_109 rfl rfl rfl rfl rfl (gs_st hk (by decide) hj hl)
theorem f87_110 : gm_ft 87 110 = some (.aload_n 0, 1) := by decide +kernel
theorem r87_110 {E : Nat → Value} {d : Nat} {st : List Value} {h : gm_H} {Q : gm_R → gm_H → Prop} {a1 a2 a3 a4 : Value} {x : Nat} : gm_W E d 87 110 [.ref x, a1, a2, a3, a4] st h Q ↔ gm_W E d 87 111 [.ref x, a1, a2, a3, a4] (.ref x :: st) h Q := gw_loc m87 f87_110 rfl rfl
theorem r87_110n {E : Nat → Value} {d : Nat} {st : List Value} {h : gm_H} {Q : gm_R → gm_H → Prop} {a1 a2 a3 a4 : Value}  : gm_W E d 87 110 [.null, a1, a2, a3, a4] st h Q ↔ gm_W E d 87 111 [.null, a1, a2, a3, a4] (.null :: st) h Q := gw_loc m87 f87_110 rfl rfl
theorem f87_111 : gm_ft 87 111 = some (.getfield 28, 3) := by decide +kernel
theorem r87_111 {E : Nat → Value} {d : Nat} {st : List Value} {h : gm_H} {Q : gm_R → gm_H → Prop} {lv : List Value} {a : Nat} (hk : gm_kd h a = 0) : gm_W E d 87 111 lv (.ref a :: st) h Q ↔ gm_W E d 87 114 lv (gm_fv h a 10 :: st) h Q := gw_rd m87 f87_111 rfl rfl rfl rfl (gs_get k0_28 hk (by decide))
theorem f87_114 : gm_ft 87 114 = some (.getfield 215, 3) := by decide +kernel
theorem r87_114 {E : Nat → Value} {d : Nat} {st : List Value} {h : gm_H} {Q : gm_R → gm_H → Prop} {lv : List Value} {a : Nat} (hk : gm_kd h a = 2) : gm_W E d 87 114 lv (.ref a :: st) h Q ↔ gm_W E d 87 117 lv (gm_fv h a 0 :: st) h Q := gw_rd m87 f87_114 rfl rfl rfl rfl (gs_get k0_215 hk (by decide))
theorem f87_117 : gm_ft 87 117 = some (.iload_n 3, 1) := by decide +kernel
theorem r87_117 {E : Nat → Value} {d : Nat} {st : List Value} {h : gm_H} {Q : gm_R → gm_H → Prop} {a0 a1 a2 a4 : Value} {x : Int32} : gm_W E d 87 117 [a0, a1, a2, .int x, a4] st h Q ↔ gm_W E d 87 118 [a0, a1, a2, .int x, a4] (.int x :: st) h Q := gw_loc m87 f87_117 rfl rfl
theorem f87_118 : gm_ft 87 118 = some (.iaload, 1) := by decide +kernel
theorem r87_118 {E : Nat → Value} {d : Nat} {st : List Value} {h : gm_H} {Q : gm_R → gm_H → Prop} {lv : List Value} {a j : Nat} (hk : gm_kd h a % 100 = 0 ∧ 100 ≤ gm_kd h a ∧ gm_kd h a < 900) (hj : j < gm_ln h a) (hl : gm_ln h a < 2 ^ 31) : gm_W E d 87 118 lv (.int (nI j) :: .ref a :: st) h Q ↔ gm_W E d 87 119 lv (gm_fv h a j :: st) h Q := gw_rd m87 f87_118 rfl rfl rfl rfl (gs_ld (P := fun t => t == 0) hk.2 (by have := hk.1; simp [this] <;> omega) hj hl)
theorem f87_119 : gm_ft 87 119 = some (.ireturn, 1) := by decide +kernel
theorem r87_119 {E : Nat → Value} {d : Nat} {h : gm_H} {Q : gm_R → gm_H → Prop} {lv : List Value} {x : Int32} : gm_W E d 87 119 lv [.int x] h Q ↔ Q (.inl (some (.int x))) h := gw_ret m87 f87_119 rfl rfl rfl rfl rfl rfl rfl rfl (by unfold gm_rt; dsimp only; rw [if_pos ⟨rfl, rfl⟩])
/-! GraphReader.constantName(I)I -/
theorem m88 : gm_mt[88]? = some (⟨"GraphReader", "constantName", "(I)I"⟩, prog_1_method_38_code, 3, (some .int), [], 0, 1) := rfl
theorem f88_0 : gm_ft 88 0 = some (.aload_n 0, 1) := by decide +kernel
theorem r88_0 {E : Nat → Value} {d : Nat} {st : List Value} {h : gm_H} {Q : gm_R → gm_H → Prop} {a1 a2 : Value} {x : Nat} : gm_W E d 88 0 [.ref x, a1, a2] st h Q ↔ gm_W E d 88 1 [.ref x, a1, a2] (.ref x :: st) h Q := gw_loc m88 f88_0 rfl rfl
theorem r88_0n {E : Nat → Value} {d : Nat} {st : List Value} {h : gm_H} {Q : gm_R → gm_H → Prop} {a1 a2 : Value}  : gm_W E d 88 0 [.null, a1, a2] st h Q ↔ gm_W E d 88 1 [.null, a1, a2] (.null :: st) h Q := gw_loc m88 f88_0 rfl rfl
theorem f88_1 : gm_ft 88 1 = some (.iload_n 1, 1) := by decide +kernel
theorem r88_1 {E : Nat → Value} {d : Nat} {st : List Value} {h : gm_H} {Q : gm_R → gm_H → Prop} {a0 a2 : Value} {x : Int32} : gm_W E d 88 1 [a0, .int x, a2] st h Q ↔ gm_W E d 88 2 [a0, .int x, a2] (.int x :: st) h Q := gw_loc m88 f88_1 rfl rfl
theorem f88_2 : gm_ft 88 2 = some (.invokevirtual 131, 3) := by decide +kernel
theorem c88_2 {E : Nat → Value} {d : Nat} {st : List Value} {h : gm_H} {Q : gm_R → gm_H → Prop} {lv : List Value} {b0 : Int32} {a : Nat} {Qc : gm_R → gm_H → Prop} (hs : (st.map fun v => v.category).sum ≤ 8) (hr : gm_kd h a = 0) (hd : 1 ≤ d) (hc : gm_Ca E (d - 1) 65 [.ref a, .int b0] h Qc) (kn : ∀ (v9 : Option Value) (h9 : gm_H), Qc (.inl v9) h9 → gm_W E d 88 5 lv (v9.toList ++ st) h9 Q) (kx : ∀ (x9 : Nat) (h9 : gm_H), Qc (.inr x9) h9 → Q (.inr x9) h9) : gm_W E d 88 2 lv (.int b0 :: .ref a :: st) h Q := gw_call (gn_call m88 f88_2 rfl rfl rfl rfl rfl rfl rfl (gs_virt (bs := [.int b0]) (w := 468) (L := 2) rfl rfl rfl rfl hs (by simp [gm_en1]) hr (by decide)) (by decide)) m88 rfl rfl hd hc kn kx
theorem f88_5 : gm_ft 88 5 = some (.ifCond .ne 5, 3) := by decide +kernel
theorem r88_5 {E : Nat → Value} {d : Nat} {st : List Value} {h : gm_H} {Q : gm_R → gm_H → Prop} {lv : List Value} {x : Int32} : gm_W E d 88 5 lv (.int x :: st) h Q ↔ (if x = 0 then gm_W E d 88 8 lv st h Q else gm_W E d 88 10 lv st h Q) := (gw_br m88 f88_5 rfl rfl rfl rfl).trans gw_ifn
theorem f88_8 : gm_ft 88 8 = some (.iconst (-1), 1) := by decide +kernel
theorem r88_8 {E : Nat → Value} {d : Nat} {st : List Value} {h : gm_H} {Q : gm_R → gm_H → Prop} {lv : List Value} : gm_W E d 88 8 lv st h Q ↔ gm_W E d 88 9 lv (.int (-1 : Int32) :: st) h Q := gw_pure m88 f88_8 rfl
theorem f88_9 : gm_ft 88 9 = some (.ireturn, 1) := by decide +kernel
theorem r88_9 {E : Nat → Value} {d : Nat} {h : gm_H} {Q : gm_R → gm_H → Prop} {lv : List Value} {x : Int32} : gm_W E d 88 9 lv [.int x] h Q ↔ Q (.inl (some (.int x))) h := gw_ret m88 f88_9 rfl rfl rfl rfl rfl rfl rfl rfl (by unfold gm_rt; dsimp only; rw [if_pos ⟨rfl, rfl⟩])
theorem f88_10 : gm_ft 88 10 = some (.aload_n 0, 1) := by decide +kernel
theorem r88_10 {E : Nat → Value} {d : Nat} {st : List Value} {h : gm_H} {Q : gm_R → gm_H → Prop} {a1 a2 : Value} {x : Nat} : gm_W E d 88 10 [.ref x, a1, a2] st h Q ↔ gm_W E d 88 11 [.ref x, a1, a2] (.ref x :: st) h Q := gw_loc m88 f88_10 rfl rfl
theorem r88_10n {E : Nat → Value} {d : Nat} {st : List Value} {h : gm_H} {Q : gm_R → gm_H → Prop} {a1 a2 : Value}  : gm_W E d 88 10 [.null, a1, a2] st h Q ↔ gm_W E d 88 11 [.null, a1, a2] (.null :: st) h Q := gw_loc m88 f88_10 rfl rfl
theorem f88_11 : gm_ft 88 11 = some (.getfield 21, 3) := by decide +kernel
theorem r88_11 {E : Nat → Value} {d : Nat} {st : List Value} {h : gm_H} {Q : gm_R → gm_H → Prop} {lv : List Value} {a : Nat} (hk : gm_kd h a = 0) : gm_W E d 88 11 lv (.ref a :: st) h Q ↔ gm_W E d 88 14 lv (gm_fv h a 8 :: st) h Q := gw_rd m88 f88_11 rfl rfl rfl rfl (gs_get k0_21 hk (by decide))
theorem f88_14 : gm_ft 88 14 = some (.iload_n 1, 1) := by decide +kernel
theorem r88_14 {E : Nat → Value} {d : Nat} {st : List Value} {h : gm_H} {Q : gm_R → gm_H → Prop} {a0 a2 : Value} {x : Int32} : gm_W E d 88 14 [a0, .int x, a2] st h Q ↔ gm_W E d 88 15 [a0, .int x, a2] (.int x :: st) h Q := gw_loc m88 f88_14 rfl rfl
theorem f88_15 : gm_ft 88 15 = some (.aaload, 1) := by decide +kernel
theorem r88_15 {E : Nat → Value} {d : Nat} {st : List Value} {h : gm_H} {Q : gm_R → gm_H → Prop} {lv : List Value} {a j : Nat} (hk : (gm_kd h a % 100 = 10 ∨ gm_kd h a % 100 = 11 ∨ gm_kd h a % 100 = 12) ∧ 100 ≤ gm_kd h a ∧ gm_kd h a < 900) (hj : j < gm_ln h a) (hl : gm_ln h a < 2 ^ 31) : gm_W E d 88 15 lv (.int (nI j) :: .ref a :: st) h Q ↔ gm_W E d 88 16 lv (gm_fv h a j :: st) h Q := gw_rd m88 f88_15 rfl rfl rfl rfl (gs_ld (P := fun t => t == 10 || t == 11 || t == 12) hk.2 (by have := hk.1; simp [this] <;> omega) hj hl)
theorem f88_16 : gm_ft 88 16 = some (.astore_n 2, 1) := by decide +kernel
theorem r88_16 {E : Nat → Value} {d : Nat} {st : List Value} {h : gm_H} {Q : gm_R → gm_H → Prop} {a0 a1 a2 : Value} {x : Nat} : gm_W E d 88 16 [a0, a1, a2] (.ref x :: st) h Q ↔ gm_W E d 88 17 [a0, gm_k a1, .ref x] st h Q := gw_loc m88 f88_16 rfl rfl
theorem r88_16n {E : Nat → Value} {d : Nat} {st : List Value} {h : gm_H} {Q : gm_R → gm_H → Prop} {a0 a1 a2 : Value}  : gm_W E d 88 16 [a0, a1, a2] (.null :: st) h Q ↔ gm_W E d 88 17 [a0, gm_k a1, .null] st h Q := gw_loc m88 f88_16 rfl rfl
theorem f88_17 : gm_ft 88 17 = some (.aload_n 2, 1) := by decide +kernel
theorem r88_17 {E : Nat → Value} {d : Nat} {st : List Value} {h : gm_H} {Q : gm_R → gm_H → Prop} {a0 a1 : Value} {x : Nat} : gm_W E d 88 17 [a0, a1, .ref x] st h Q ↔ gm_W E d 88 18 [a0, a1, .ref x] (.ref x :: st) h Q := gw_loc m88 f88_17 rfl rfl
theorem r88_17n {E : Nat → Value} {d : Nat} {st : List Value} {h : gm_H} {Q : gm_R → gm_H → Prop} {a0 a1 : Value}  : gm_W E d 88 17 [a0, a1, .null] st h Q ↔ gm_W E d 88 18 [a0, a1, .null] (.null :: st) h Q := gw_loc m88 f88_17 rfl rfl
theorem f88_18 : gm_ft 88 18 = some (.getfield 134, 3) := by decide +kernel
theorem r88_18 {E : Nat → Value} {d : Nat} {st : List Value} {h : gm_H} {Q : gm_R → gm_H → Prop} {lv : List Value} {a : Nat} (hk : gm_kd h a = 4) : gm_W E d 88 18 lv (.ref a :: st) h Q ↔ gm_W E d 88 21 lv (gm_fv h a 0 :: st) h Q := gw_rd m88 f88_18 rfl rfl rfl rfl (gs_get k0_134 hk (by decide))
theorem f88_21 : gm_ft 88 21 = some (.iconst 1, 1) := by decide +kernel
theorem r88_21 {E : Nat → Value} {d : Nat} {st : List Value} {h : gm_H} {Q : gm_R → gm_H → Prop} {lv : List Value} : gm_W E d 88 21 lv st h Q ↔ gm_W E d 88 22 lv (.int (1 : Int32) :: st) h Q := gw_pure m88 f88_21 rfl
theorem f88_22 : gm_ft 88 22 = some (.if_icmp .ne 25, 3) := by decide +kernel
theorem r88_22 {E : Nat → Value} {d : Nat} {st : List Value} {h : gm_H} {Q : gm_R → gm_H → Prop} {lv : List Value} {x y : Int32} : gm_W E d 88 22 lv (.int y :: .int x :: st) h Q ↔ (if x = y then gm_W E d 88 25 lv st h Q else gm_W E d 88 47 lv st h Q) := (gw_br m88 f88_22 rfl rfl rfl rfl).trans gw_ifn
theorem f88_25 : gm_ft 88 25 = some (.aload_n 2, 1) := by decide +kernel
theorem r88_25 {E : Nat → Value} {d : Nat} {st : List Value} {h : gm_H} {Q : gm_R → gm_H → Prop} {a0 a1 : Value} {x : Nat} : gm_W E d 88 25 [a0, a1, .ref x] st h Q ↔ gm_W E d 88 26 [a0, a1, .ref x] (.ref x :: st) h Q := gw_loc m88 f88_25 rfl rfl
theorem r88_25n {E : Nat → Value} {d : Nat} {st : List Value} {h : gm_H} {Q : gm_R → gm_H → Prop} {a0 a1 : Value}  : gm_W E d 88 25 [a0, a1, .null] st h Q ↔ gm_W E d 88 26 [a0, a1, .null] (.null :: st) h Q := gw_loc m88 f88_25 rfl rfl
theorem f88_26 : gm_ft 88 26 = some (.getfield 147, 3) := by decide +kernel
theorem r88_26 {E : Nat → Value} {d : Nat} {st : List Value} {h : gm_H} {Q : gm_R → gm_H → Prop} {lv : List Value} {a : Nat} (hk : gm_kd h a = 4) : gm_W E d 88 26 lv (.ref a :: st) h Q ↔ gm_W E d 88 29 lv (gm_fv h a 2 :: st) h Q := gw_rd m88 f88_26 rfl rfl rfl rfl (gs_get k0_147 hk (by decide))
theorem f88_29 : gm_ft 88 29 = some (.arraylength, 1) := by decide +kernel
theorem r88_29 {E : Nat → Value} {d : Nat} {st : List Value} {h : gm_H} {Q : gm_R → gm_H → Prop} {lv : List Value} {a : Nat} (hk : 100 ≤ gm_kd h a ∧ gm_kd h a < 900) : gm_W E d 88 29 lv (.ref a :: st) h Q ↔ gm_W E d 88 30 lv (.int (nI (gm_ln h a)) :: st) h Q := gw_rd m88 f88_29 rfl rfl rfl rfl (gs_len hk)
theorem f88_30 : gm_ft 88 30 = some (.iconst 1, 1) := by decide +kernel
theorem r88_30 {E : Nat → Value} {d : Nat} {st : List Value} {h : gm_H} {Q : gm_R → gm_H → Prop} {lv : List Value} : gm_W E d 88 30 lv st h Q ↔ gm_W E d 88 31 lv (.int (1 : Int32) :: st) h Q := gw_pure m88 f88_30 rfl
theorem f88_31 : gm_ft 88 31 = some (.if_icmp .ne 16, 3) := by decide +kernel
theorem r88_31 {E : Nat → Value} {d : Nat} {st : List Value} {h : gm_H} {Q : gm_R → gm_H → Prop} {lv : List Value} {x y : Int32} : gm_W E d 88 31 lv (.int y :: .int x :: st) h Q ↔ (if x = y then gm_W E d 88 34 lv st h Q else gm_W E d 88 47 lv st h Q) := (gw_br m88 f88_31 rfl rfl rfl rfl).trans gw_ifn
theorem f88_34 : gm_ft 88 34 = some (.aload_n 2, 1) := by decide +kernel
theorem r88_34 {E : Nat → Value} {d : Nat} {st : List Value} {h : gm_H} {Q : gm_R → gm_H → Prop} {a0 a1 : Value} {x : Nat} : gm_W E d 88 34 [a0, a1, .ref x] st h Q ↔ gm_W E d 88 35 [a0, a1, .ref x] (.ref x :: st) h Q := gw_loc m88 f88_34 rfl rfl
theorem r88_34n {E : Nat → Value} {d : Nat} {st : List Value} {h : gm_H} {Q : gm_R → gm_H → Prop} {a0 a1 : Value}  : gm_W E d 88 34 [a0, a1, .null] st h Q ↔ gm_W E d 88 35 [a0, a1, .null] (.null :: st) h Q := gw_loc m88 f88_34 rfl rfl
theorem f88_35 : gm_ft 88 35 = some (.getfield 147, 3) := by decide +kernel
theorem r88_35 {E : Nat → Value} {d : Nat} {st : List Value} {h : gm_H} {Q : gm_R → gm_H → Prop} {lv : List Value} {a : Nat} (hk : gm_kd h a = 4) : gm_W E d 88 35 lv (.ref a :: st) h Q ↔ gm_W E d 88 38 lv (gm_fv h a 2 :: st) h Q := gw_rd m88 f88_35 rfl rfl rfl rfl (gs_get k0_147 hk (by decide))
theorem f88_38 : gm_ft 88 38 = some (.iconst 0, 1) := by decide +kernel
theorem r88_38 {E : Nat → Value} {d : Nat} {st : List Value} {h : gm_H} {Q : gm_R → gm_H → Prop} {lv : List Value} : gm_W E d 88 38 lv st h Q ↔ gm_W E d 88 39 lv (.int (0 : Int32) :: st) h Q := gw_pure m88 f88_38 rfl
theorem f88_39 : gm_ft 88 39 = some (.laload, 1) := by decide +kernel
theorem r88_39 {E : Nat → Value} {d : Nat} {st : List Value} {h : gm_H} {Q : gm_R → gm_H → Prop} {lv : List Value} {a j : Nat} (hk : gm_kd h a % 100 = 1 ∧ 100 ≤ gm_kd h a ∧ gm_kd h a < 900) (hj : j < gm_ln h a) (hl : gm_ln h a < 2 ^ 31) : gm_W E d 88 39 lv (.int (nI j) :: .ref a :: st) h Q ↔ gm_W E d 88 40 lv (gm_fv h a j :: st) h Q := gw_rd m88 f88_39 rfl rfl rfl rfl (gs_ld (P := fun t => t == 1) hk.2 (by have := hk.1; simp [this] <;> omega) hj hl)
theorem r88_39k {E : Nat → Value} {d : Nat} {st : List Value} {h : gm_H} {Q : gm_R → gm_H → Prop} {lv : List Value} {a : Nat} (hk : gm_kd h a % 100 = 1 ∧ 100 ≤ gm_kd h a ∧ gm_kd h a < 900) (hj : 0 < gm_ln h a) (hl : gm_ln h a < 2 ^ 31) : gm_W E d 88 39 lv (.int (0 : Int32) :: .ref a :: st) h Q ↔ gm_W E d 88 40 lv (gm_fv h a 0 :: st) h Q := r88_39 (j := 0) hk hj hl
theorem f88_40 : gm_ft 88 40 = some (.l2i, 1) := by decide +kernel
theorem r88_40 {E : Nat → Value} {d : Nat} {st : List Value} {h : gm_H} {Q : gm_R → gm_H → Prop} {lv : List Value} {x : Int64} : gm_W E d 88 40 lv (.long x :: st) h Q ↔ gm_W E d 88 41 lv (.int (x.toInt32) :: st) h Q := gw_pure m88 f88_40 rfl
theorem f88_41 : gm_ft 88 41 = some (.bipush 97, 2) := by decide +kernel
theorem r88_41 {E : Nat → Value} {d : Nat} {st : List Value} {h : gm_H} {Q : gm_R → gm_H → Prop} {lv : List Value} : gm_W E d 88 41 lv st h Q ↔ gm_W E d 88 43 lv (.int (97 : Int32) :: st) h Q := gw_pure m88 f88_41 rfl
theorem f88_43 : gm_ft 88 43 = some (.isub, 1) := by decide +kernel
theorem r88_43 {E : Nat → Value} {d : Nat} {st : List Value} {h : gm_H} {Q : gm_R → gm_H → Prop} {lv : List Value} {x y : Int32} : gm_W E d 88 43 lv (.int y :: .int x :: st) h Q ↔ gm_W E d 88 44 lv (.int (x - y) :: st) h Q := gw_pure m88 f88_43 rfl
theorem f88_44 : gm_ft 88 44 = some (.goto 4, 3) := by decide +kernel
theorem r88_44 {E : Nat → Value} {d : Nat} {st : List Value} {h : gm_H} {Q : gm_R → gm_H → Prop} {lv : List Value} : gm_W E d 88 44 lv st h Q ↔ gm_W E d 88 48 lv st h Q := gw_brT m88 f88_44 rfl rfl rfl rfl
theorem f88_47 : gm_ft 88 47 = some (.iconst (-1), 1) := by decide +kernel
theorem r88_47 {E : Nat → Value} {d : Nat} {st : List Value} {h : gm_H} {Q : gm_R → gm_H → Prop} {lv : List Value} : gm_W E d 88 47 lv st h Q ↔ gm_W E d 88 48 lv (.int (-1 : Int32) :: st) h Q := gw_pure m88 f88_47 rfl
theorem f88_48 : gm_ft 88 48 = some (.ireturn, 1) := by decide +kernel
theorem r88_48 {E : Nat → Value} {d : Nat} {h : gm_H} {Q : gm_R → gm_H → Prop} {lv : List Value} {x : Int32} : gm_W E d 88 48 lv [.int x] h Q ↔ Q (.inl (some (.int x))) h := gw_ret m88 f88_48 rfl rfl rfl rfl rfl rfl rfl rfl (by unfold gm_rt; dsimp only; rw [if_pos ⟨rfl, rfl⟩])
/-! GraphReader.onlyConstant(LGraphReader$LocalClass;I)I -/
theorem m89 : gm_mt[89]? = some (⟨"GraphReader", "onlyConstant", "(LGraphReader$LocalClass;I)I"⟩, prog_1_method_39_code, 4, (some .int), [], 0, 1) := rfl
theorem f89_0 : gm_ft 89 0 = some (.iconst 0, 1) := by decide +kernel
theorem r89_0 {E : Nat → Value} {d : Nat} {st : List Value} {h : gm_H} {Q : gm_R → gm_H → Prop} {lv : List Value} : gm_W E d 89 0 lv st h Q ↔ gm_W E d 89 1 lv (.int (0 : Int32) :: st) h Q := gw_pure m89 f89_0 rfl
theorem f89_1 : gm_ft 89 1 = some (.istore_n 3, 1) := by decide +kernel
theorem r89_1 {E : Nat → Value} {d : Nat} {st : List Value} {h : gm_H} {Q : gm_R → gm_H → Prop} {a0 a1 a2 a3 : Value} {x : Int32} : gm_W E d 89 1 [a0, a1, a2, a3] (.int x :: st) h Q ↔ gm_W E d 89 2 [a0, a1, gm_k a2, .int x] st h Q := gw_loc m89 f89_1 rfl rfl
theorem f89_2 : gm_ft 89 2 = some (.iload_n 3, 1) := by decide +kernel
theorem r89_2 {E : Nat → Value} {d : Nat} {st : List Value} {h : gm_H} {Q : gm_R → gm_H → Prop} {a0 a1 a2 : Value} {x : Int32} : gm_W E d 89 2 [a0, a1, a2, .int x] st h Q ↔ gm_W E d 89 3 [a0, a1, a2, .int x] (.int x :: st) h Q := gw_loc m89 f89_2 rfl rfl
theorem f89_3 : gm_ft 89 3 = some (.aload_n 0, 1) := by decide +kernel
theorem r89_3 {E : Nat → Value} {d : Nat} {st : List Value} {h : gm_H} {Q : gm_R → gm_H → Prop} {a1 a2 a3 : Value} {x : Nat} : gm_W E d 89 3 [.ref x, a1, a2, a3] st h Q ↔ gm_W E d 89 4 [.ref x, a1, a2, a3] (.ref x :: st) h Q := gw_loc m89 f89_3 rfl rfl
theorem r89_3n {E : Nat → Value} {d : Nat} {st : List Value} {h : gm_H} {Q : gm_R → gm_H → Prop} {a1 a2 a3 : Value}  : gm_W E d 89 3 [.null, a1, a2, a3] st h Q ↔ gm_W E d 89 4 [.null, a1, a2, a3] (.null :: st) h Q := gw_loc m89 f89_3 rfl rfl
theorem f89_4 : gm_ft 89 4 = some (.getfield 72, 3) := by decide +kernel
theorem r89_4 {E : Nat → Value} {d : Nat} {st : List Value} {h : gm_H} {Q : gm_R → gm_H → Prop} {lv : List Value} {a : Nat} (hk : gm_kd h a = 0) : gm_W E d 89 4 lv (.ref a :: st) h Q ↔ gm_W E d 89 7 lv (gm_fv h a 9 :: st) h Q := gw_rd m89 f89_4 rfl rfl rfl rfl (gs_get k0_72 hk (by decide))
theorem f89_7 : gm_ft 89 7 = some (.if_icmp .ge 50, 3) := by decide +kernel
theorem r89_7 {E : Nat → Value} {d : Nat} {st : List Value} {h : gm_H} {Q : gm_R → gm_H → Prop} {lv : List Value} {x y : Int32} : gm_W E d 89 7 lv (.int y :: .int x :: st) h Q ↔ (if y ≤ x then gm_W E d 89 57 lv st h Q else gm_W E d 89 10 lv st h Q) := (gw_br m89 f89_7 rfl rfl rfl rfl).trans gw_if
theorem f89_10 : gm_ft 89 10 = some (.aload_n 0, 1) := by decide +kernel
theorem r89_10 {E : Nat → Value} {d : Nat} {st : List Value} {h : gm_H} {Q : gm_R → gm_H → Prop} {a1 a2 a3 : Value} {x : Nat} : gm_W E d 89 10 [.ref x, a1, a2, a3] st h Q ↔ gm_W E d 89 11 [.ref x, a1, a2, a3] (.ref x :: st) h Q := gw_loc m89 f89_10 rfl rfl
theorem r89_10n {E : Nat → Value} {d : Nat} {st : List Value} {h : gm_H} {Q : gm_R → gm_H → Prop} {a1 a2 a3 : Value}  : gm_W E d 89 10 [.null, a1, a2, a3] st h Q ↔ gm_W E d 89 11 [.null, a1, a2, a3] (.null :: st) h Q := gw_loc m89 f89_10 rfl rfl
theorem f89_11 : gm_ft 89 11 = some (.getfield 21, 3) := by decide +kernel
theorem r89_11 {E : Nat → Value} {d : Nat} {st : List Value} {h : gm_H} {Q : gm_R → gm_H → Prop} {lv : List Value} {a : Nat} (hk : gm_kd h a = 0) : gm_W E d 89 11 lv (.ref a :: st) h Q ↔ gm_W E d 89 14 lv (gm_fv h a 8 :: st) h Q := gw_rd m89 f89_11 rfl rfl rfl rfl (gs_get k0_21 hk (by decide))
theorem f89_14 : gm_ft 89 14 = some (.iload_n 3, 1) := by decide +kernel
theorem r89_14 {E : Nat → Value} {d : Nat} {st : List Value} {h : gm_H} {Q : gm_R → gm_H → Prop} {a0 a1 a2 : Value} {x : Int32} : gm_W E d 89 14 [a0, a1, a2, .int x] st h Q ↔ gm_W E d 89 15 [a0, a1, a2, .int x] (.int x :: st) h Q := gw_loc m89 f89_14 rfl rfl
theorem f89_15 : gm_ft 89 15 = some (.aaload, 1) := by decide +kernel
theorem r89_15 {E : Nat → Value} {d : Nat} {st : List Value} {h : gm_H} {Q : gm_R → gm_H → Prop} {lv : List Value} {a j : Nat} (hk : (gm_kd h a % 100 = 10 ∨ gm_kd h a % 100 = 11 ∨ gm_kd h a % 100 = 12) ∧ 100 ≤ gm_kd h a ∧ gm_kd h a < 900) (hj : j < gm_ln h a) (hl : gm_ln h a < 2 ^ 31) : gm_W E d 89 15 lv (.int (nI j) :: .ref a :: st) h Q ↔ gm_W E d 89 16 lv (gm_fv h a j :: st) h Q := gw_rd m89 f89_15 rfl rfl rfl rfl (gs_ld (P := fun t => t == 10 || t == 11 || t == 12) hk.2 (by have := hk.1; simp [this] <;> omega) hj hl)
theorem f89_16 : gm_ft 89 16 = some (.getfield 134, 3) := by decide +kernel
theorem r89_16 {E : Nat → Value} {d : Nat} {st : List Value} {h : gm_H} {Q : gm_R → gm_H → Prop} {lv : List Value} {a : Nat} (hk : gm_kd h a = 4) : gm_W E d 89 16 lv (.ref a :: st) h Q ↔ gm_W E d 89 19 lv (gm_fv h a 0 :: st) h Q := gw_rd m89 f89_16 rfl rfl rfl rfl (gs_get k0_134 hk (by decide))
theorem f89_19 : gm_ft 89 19 = some (.iconst 4, 1) := by decide +kernel
theorem r89_19 {E : Nat → Value} {d : Nat} {st : List Value} {h : gm_H} {Q : gm_R → gm_H → Prop} {lv : List Value} : gm_W E d 89 19 lv st h Q ↔ gm_W E d 89 20 lv (.int (4 : Int32) :: st) h Q := gw_pure m89 f89_19 rfl
theorem f89_20 : gm_ft 89 20 = some (.if_icmp .ne 31, 3) := by decide +kernel
theorem r89_20 {E : Nat → Value} {d : Nat} {st : List Value} {h : gm_H} {Q : gm_R → gm_H → Prop} {lv : List Value} {x y : Int32} : gm_W E d 89 20 lv (.int y :: .int x :: st) h Q ↔ (if x = y then gm_W E d 89 23 lv st h Q else gm_W E d 89 51 lv st h Q) := (gw_br m89 f89_20 rfl rfl rfl rfl).trans gw_ifn
theorem f89_23 : gm_ft 89 23 = some (.aload_n 0, 1) := by decide +kernel
theorem r89_23 {E : Nat → Value} {d : Nat} {st : List Value} {h : gm_H} {Q : gm_R → gm_H → Prop} {a1 a2 a3 : Value} {x : Nat} : gm_W E d 89 23 [.ref x, a1, a2, a3] st h Q ↔ gm_W E d 89 24 [.ref x, a1, a2, a3] (.ref x :: st) h Q := gw_loc m89 f89_23 rfl rfl
theorem r89_23n {E : Nat → Value} {d : Nat} {st : List Value} {h : gm_H} {Q : gm_R → gm_H → Prop} {a1 a2 a3 : Value}  : gm_W E d 89 23 [.null, a1, a2, a3] st h Q ↔ gm_W E d 89 24 [.null, a1, a2, a3] (.null :: st) h Q := gw_loc m89 f89_23 rfl rfl
theorem f89_24 : gm_ft 89 24 = some (.getfield 21, 3) := by decide +kernel
theorem r89_24 {E : Nat → Value} {d : Nat} {st : List Value} {h : gm_H} {Q : gm_R → gm_H → Prop} {lv : List Value} {a : Nat} (hk : gm_kd h a = 0) : gm_W E d 89 24 lv (.ref a :: st) h Q ↔ gm_W E d 89 27 lv (gm_fv h a 8 :: st) h Q := gw_rd m89 f89_24 rfl rfl rfl rfl (gs_get k0_21 hk (by decide))
theorem f89_27 : gm_ft 89 27 = some (.iload_n 3, 1) := by decide +kernel
theorem r89_27 {E : Nat → Value} {d : Nat} {st : List Value} {h : gm_H} {Q : gm_R → gm_H → Prop} {a0 a1 a2 : Value} {x : Int32} : gm_W E d 89 27 [a0, a1, a2, .int x] st h Q ↔ gm_W E d 89 28 [a0, a1, a2, .int x] (.int x :: st) h Q := gw_loc m89 f89_27 rfl rfl
theorem f89_28 : gm_ft 89 28 = some (.aaload, 1) := by decide +kernel
theorem r89_28 {E : Nat → Value} {d : Nat} {st : List Value} {h : gm_H} {Q : gm_R → gm_H → Prop} {lv : List Value} {a j : Nat} (hk : (gm_kd h a % 100 = 10 ∨ gm_kd h a % 100 = 11 ∨ gm_kd h a % 100 = 12) ∧ 100 ≤ gm_kd h a ∧ gm_kd h a < 900) (hj : j < gm_ln h a) (hl : gm_ln h a < 2 ^ 31) : gm_W E d 89 28 lv (.int (nI j) :: .ref a :: st) h Q ↔ gm_W E d 89 29 lv (gm_fv h a j :: st) h Q := gw_rd m89 f89_28 rfl rfl rfl rfl (gs_ld (P := fun t => t == 10 || t == 11 || t == 12) hk.2 (by have := hk.1; simp [this] <;> omega) hj hl)
theorem f89_29 : gm_ft 89 29 = some (.getfield 137, 3) := by decide +kernel
theorem r89_29 {E : Nat → Value} {d : Nat} {st : List Value} {h : gm_H} {Q : gm_R → gm_H → Prop} {lv : List Value} {a : Nat} (hk : gm_kd h a = 4) : gm_W E d 89 29 lv (.ref a :: st) h Q ↔ gm_W E d 89 32 lv (gm_fv h a 1 :: st) h Q := gw_rd m89 f89_29 rfl rfl rfl rfl (gs_get k0_137 hk (by decide))
theorem f89_32 : gm_ft 89 32 = some (.aload_n 1, 1) := by decide +kernel
theorem r89_32 {E : Nat → Value} {d : Nat} {st : List Value} {h : gm_H} {Q : gm_R → gm_H → Prop} {a0 a2 a3 : Value} {x : Nat} : gm_W E d 89 32 [a0, .ref x, a2, a3] st h Q ↔ gm_W E d 89 33 [a0, .ref x, a2, a3] (.ref x :: st) h Q := gw_loc m89 f89_32 rfl rfl
theorem r89_32n {E : Nat → Value} {d : Nat} {st : List Value} {h : gm_H} {Q : gm_R → gm_H → Prop} {a0 a2 a3 : Value}  : gm_W E d 89 32 [a0, .null, a2, a3] st h Q ↔ gm_W E d 89 33 [a0, .null, a2, a3] (.null :: st) h Q := gw_loc m89 f89_32 rfl rfl
theorem f89_33 : gm_ft 89 33 = some (.if_acmp .ne 18, 3) := by decide +kernel
theorem r89_33 {E : Nat → Value} {d : Nat} {st : List Value} {h : gm_H} {Q : gm_R → gm_H → Prop} {lv : List Value} {u v : Nat} : gm_W E d 89 33 lv (.ref v :: .ref u :: st) h Q ↔ (if u = v then gm_W E d 89 36 lv st h Q else gm_W E d 89 51 lv st h Q) := (gw_br m89 f89_33 rfl rfl rfl rfl).trans gw_acn
theorem r89_33n {E : Nat → Value} {d : Nat} {st : List Value} {h : gm_H} {Q : gm_R → gm_H → Prop} {lv : List Value} {u : Nat} : gm_W E d 89 33 lv (.null :: .ref u :: st) h Q ↔ gm_W E d 89 51 lv st h Q := gw_brT (off := 18) m89 f89_33 rfl rfl (by simp [gm_br, gm_rf, gm_ca]) rfl
theorem r89_33m {E : Nat → Value} {d : Nat} {st : List Value} {h : gm_H} {Q : gm_R → gm_H → Prop} {lv : List Value} {u : Nat} : gm_W E d 89 33 lv (.ref u :: .null :: st) h Q ↔ gm_W E d 89 51 lv st h Q := gw_brT (off := 18) m89 f89_33 rfl rfl (by simp [gm_br, gm_rf, gm_ca]) rfl
theorem r89_33o {E : Nat → Value} {d : Nat} {st : List Value} {h : gm_H} {Q : gm_R → gm_H → Prop} {lv : List Value} : gm_W E d 89 33 lv (.null :: .null :: st) h Q ↔ gm_W E d 89 36 lv st h Q := gw_brF (off := 18) m89 f89_33 rfl rfl (by simp [gm_br, gm_rf, gm_ca]) rfl
theorem f89_36 : gm_ft 89 36 = some (.aload_n 0, 1) := by decide +kernel
theorem r89_36 {E : Nat → Value} {d : Nat} {st : List Value} {h : gm_H} {Q : gm_R → gm_H → Prop} {a1 a2 a3 : Value} {x : Nat} : gm_W E d 89 36 [.ref x, a1, a2, a3] st h Q ↔ gm_W E d 89 37 [.ref x, a1, a2, a3] (.ref x :: st) h Q := gw_loc m89 f89_36 rfl rfl
theorem r89_36n {E : Nat → Value} {d : Nat} {st : List Value} {h : gm_H} {Q : gm_R → gm_H → Prop} {a1 a2 a3 : Value}  : gm_W E d 89 36 [.null, a1, a2, a3] st h Q ↔ gm_W E d 89 37 [.null, a1, a2, a3] (.null :: st) h Q := gw_loc m89 f89_36 rfl rfl
theorem f89_37 : gm_ft 89 37 = some (.getfield 21, 3) := by decide +kernel
theorem r89_37 {E : Nat → Value} {d : Nat} {st : List Value} {h : gm_H} {Q : gm_R → gm_H → Prop} {lv : List Value} {a : Nat} (hk : gm_kd h a = 0) : gm_W E d 89 37 lv (.ref a :: st) h Q ↔ gm_W E d 89 40 lv (gm_fv h a 8 :: st) h Q := gw_rd m89 f89_37 rfl rfl rfl rfl (gs_get k0_21 hk (by decide))
theorem f89_40 : gm_ft 89 40 = some (.iload_n 3, 1) := by decide +kernel
theorem r89_40 {E : Nat → Value} {d : Nat} {st : List Value} {h : gm_H} {Q : gm_R → gm_H → Prop} {a0 a1 a2 : Value} {x : Int32} : gm_W E d 89 40 [a0, a1, a2, .int x] st h Q ↔ gm_W E d 89 41 [a0, a1, a2, .int x] (.int x :: st) h Q := gw_loc m89 f89_40 rfl rfl
theorem f89_41 : gm_ft 89 41 = some (.aaload, 1) := by decide +kernel
theorem r89_41 {E : Nat → Value} {d : Nat} {st : List Value} {h : gm_H} {Q : gm_R → gm_H → Prop} {lv : List Value} {a j : Nat} (hk : (gm_kd h a % 100 = 10 ∨ gm_kd h a % 100 = 11 ∨ gm_kd h a % 100 = 12) ∧ 100 ≤ gm_kd h a ∧ gm_kd h a < 900) (hj : j < gm_ln h a) (hl : gm_ln h a < 2 ^ 31) : gm_W E d 89 41 lv (.int (nI j) :: .ref a :: st) h Q ↔ gm_W E d 89 42 lv (gm_fv h a j :: st) h Q := gw_rd m89 f89_41 rfl rfl rfl rfl (gs_ld (P := fun t => t == 10 || t == 11 || t == 12) hk.2 (by have := hk.1; simp [this] <;> omega) hj hl)
theorem f89_42 : gm_ft 89 42 = some (.getfield 144, 3) := by decide +kernel
theorem r89_42 {E : Nat → Value} {d : Nat} {st : List Value} {h : gm_H} {Q : gm_R → gm_H → Prop} {lv : List Value} {a : Nat} (hk : gm_kd h a = 4) : gm_W E d 89 42 lv (.ref a :: st) h Q ↔ gm_W E d 89 45 lv (gm_fv h a 3 :: st) h Q := gw_rd m89 f89_42 rfl rfl rfl rfl (gs_get k0_144 hk (by decide))
theorem f89_45 : gm_ft 89 45 = some (.iload_n 2, 1) := by decide +kernel
theorem r89_45 {E : Nat → Value} {d : Nat} {st : List Value} {h : gm_H} {Q : gm_R → gm_H → Prop} {a0 a1 a3 : Value} {x : Int32} : gm_W E d 89 45 [a0, a1, .int x, a3] st h Q ↔ gm_W E d 89 46 [a0, a1, .int x, a3] (.int x :: st) h Q := gw_loc m89 f89_45 rfl rfl
theorem f89_46 : gm_ft 89 46 = some (.if_icmp .ne 5, 3) := by decide +kernel
theorem r89_46 {E : Nat → Value} {d : Nat} {st : List Value} {h : gm_H} {Q : gm_R → gm_H → Prop} {lv : List Value} {x y : Int32} : gm_W E d 89 46 lv (.int y :: .int x :: st) h Q ↔ (if x = y then gm_W E d 89 49 lv st h Q else gm_W E d 89 51 lv st h Q) := (gw_br m89 f89_46 rfl rfl rfl rfl).trans gw_ifn
theorem f89_49 : gm_ft 89 49 = some (.iload_n 3, 1) := by decide +kernel
theorem r89_49 {E : Nat → Value} {d : Nat} {st : List Value} {h : gm_H} {Q : gm_R → gm_H → Prop} {a0 a1 a2 : Value} {x : Int32} : gm_W E d 89 49 [a0, a1, a2, .int x] st h Q ↔ gm_W E d 89 50 [a0, a1, a2, .int x] (.int x :: st) h Q := gw_loc m89 f89_49 rfl rfl
theorem f89_50 : gm_ft 89 50 = some (.ireturn, 1) := by decide +kernel
theorem r89_50 {E : Nat → Value} {d : Nat} {h : gm_H} {Q : gm_R → gm_H → Prop} {lv : List Value} {x : Int32} : gm_W E d 89 50 lv [.int x] h Q ↔ Q (.inl (some (.int x))) h := gw_ret m89 f89_50 rfl rfl rfl rfl rfl rfl rfl rfl (by unfold gm_rt; dsimp only; rw [if_pos ⟨rfl, rfl⟩])
theorem f89_51 : gm_ft 89 51 = some (.iinc 3 1, 3) := by decide +kernel
theorem r89_51 {E : Nat → Value} {d : Nat} {st : List Value} {h : gm_H} {Q : gm_R → gm_H → Prop} {a0 a1 a2 : Value} {x : Int32} : gm_W E d 89 51 [a0, a1, a2, .int x] st h Q ↔ gm_W E d 89 54 [a0, a1, gm_k a2, .int (x + (1 : Int32))] st h Q := gw_loc m89 f89_51 rfl rfl
theorem f89_54 : gm_ft 89 54 = some (.goto (-52), 3) := by decide +kernel
theorem r89_54 {E : Nat → Value} {d : Nat} {st : List Value} {h : gm_H} {Q : gm_R → gm_H → Prop} {lv : List Value} : gm_W E d 89 54 lv st h Q ↔ gm_W E d 89 2 lv st h Q := gw_brT m89 f89_54 rfl rfl rfl rfl
theorem f89_57 : gm_ft 89 57 = some (.new 19, 3) := by decide +kernel
theorem r89_57 {E : Nat → Value} {d : Nat} {st : List Value} {h : gm_H} {Q : gm_R → gm_H → Prop} {lv : List Value} : gm_W E d 89 57 lv st h Q ↔ gm_W E d 89 60 lv (.ref h.1 :: st) (gm_nw h (4, [.int 0, .null, .null, .int 0, .int 0]) 5) Q := gw_nw m89 f89_57 rfl rfl rfl rfl rfl rfl rfl
theorem f89_60 : gm_ft 89 60 = some (.dup, 1) := by decide +kernel
theorem r89_60 {E : Nat → Value} {d : Nat} {st : List Value} {h : gm_H} {Q : gm_R → gm_H → Prop} {lv : List Value} {a : Nat} : gm_W E d 89 60 lv (.ref a :: st) h Q ↔ gm_W E d 89 61 lv (.ref a :: .ref a :: st) h Q := gw_pure m89 f89_60 rfl
theorem r89_60i {E : Nat → Value} {d : Nat} {st : List Value} {h : gm_H} {Q : gm_R → gm_H → Prop} {lv : List Value} {x : Int32} : gm_W E d 89 60 lv (.int x :: st) h Q ↔ gm_W E d 89 61 lv (.int x :: .int x :: st) h Q := gw_pure m89 f89_60 rfl
theorem f89_61 : gm_ft 89 61 = some (.iconst 4, 1) := by decide +kernel
theorem r89_61 {E : Nat → Value} {d : Nat} {st : List Value} {h : gm_H} {Q : gm_R → gm_H → Prop} {lv : List Value} : gm_W E d 89 61 lv st h Q ↔ gm_W E d 89 62 lv (.int (4 : Int32) :: st) h Q := gw_pure m89 f89_61 rfl
theorem f89_62 : gm_ft 89 62 = some (.aload_n 1, 1) := by decide +kernel
theorem r89_62 {E : Nat → Value} {d : Nat} {st : List Value} {h : gm_H} {Q : gm_R → gm_H → Prop} {a0 a2 a3 : Value} {x : Nat} : gm_W E d 89 62 [a0, .ref x, a2, a3] st h Q ↔ gm_W E d 89 63 [a0, .ref x, a2, a3] (.ref x :: st) h Q := gw_loc m89 f89_62 rfl rfl
theorem r89_62n {E : Nat → Value} {d : Nat} {st : List Value} {h : gm_H} {Q : gm_R → gm_H → Prop} {a0 a2 a3 : Value}  : gm_W E d 89 62 [a0, .null, a2, a3] st h Q ↔ gm_W E d 89 63 [a0, .null, a2, a3] (.null :: st) h Q := gw_loc m89 f89_62 rfl rfl
theorem f89_63 : gm_ft 89 63 = some (.iconst 0, 1) := by decide +kernel
theorem r89_63 {E : Nat → Value} {d : Nat} {st : List Value} {h : gm_H} {Q : gm_R → gm_H → Prop} {lv : List Value} : gm_W E d 89 63 lv st h Q ↔ gm_W E d 89 64 lv (.int (0 : Int32) :: st) h Q := gw_pure m89 f89_63 rfl
theorem f89_64 : gm_ft 89 64 = some (.invokespecial 228, 3) := by decide +kernel
theorem c89_64 {E : Nat → Value} {d : Nat} {st : List Value} {h : gm_H} {Q : gm_R → gm_H → Prop} {lv : List Value} {b0 : Int32} {b1 : Value} {b2 : Int32} {a : Nat} {Qc : gm_R → gm_H → Prop} (hs : (st.map fun v => v.category).sum ≤ 8) (he : (gm_en1 [.ref a, .int b0, b1, .int b2]).length ≤ 4) (hd : 1 ≤ d) (hc : gm_Ca E (d - 1) 123 [.ref a, .int b0, b1, .int b2] h Qc) (kn : ∀ (v9 : Option Value) (h9 : gm_H), Qc (.inl v9) h9 → gm_W E d 89 67 lv (v9.toList ++ st) h9 Q) (kx : ∀ (x9 : Nat) (h9 : gm_H), Qc (.inr x9) h9 → Q (.inr x9) h9) : gm_W E d 89 64 lv (.int b2 :: b1 :: .int b0 :: .ref a :: st) h Q := gw_call (gn_call m89 f89_64 rfl rfl rfl rfl rfl rfl rfl (gc_init (bs := [.int b2, b1, .int b0]) (w := 518) (L := 4) rfl rfl rfl hs he (by decide)) (by decide)) m89 rfl rfl hd hc kn kx
theorem f89_67 : gm_ft 89 67 = some (.astore_n 3, 1) := by decide +kernel
theorem r89_67 {E : Nat → Value} {d : Nat} {st : List Value} {h : gm_H} {Q : gm_R → gm_H → Prop} {a0 a1 a2 a3 : Value} {x : Nat} : gm_W E d 89 67 [a0, a1, a2, a3] (.ref x :: st) h Q ↔ gm_W E d 89 68 [a0, a1, gm_k a2, .ref x] st h Q := gw_loc m89 f89_67 rfl rfl
theorem r89_67n {E : Nat → Value} {d : Nat} {st : List Value} {h : gm_H} {Q : gm_R → gm_H → Prop} {a0 a1 a2 a3 : Value}  : gm_W E d 89 67 [a0, a1, a2, a3] (.null :: st) h Q ↔ gm_W E d 89 68 [a0, a1, gm_k a2, .null] st h Q := gw_loc m89 f89_67 rfl rfl
theorem f89_68 : gm_ft 89 68 = some (.aload_n 3, 1) := by decide +kernel
theorem r89_68 {E : Nat → Value} {d : Nat} {st : List Value} {h : gm_H} {Q : gm_R → gm_H → Prop} {a0 a1 a2 : Value} {x : Nat} : gm_W E d 89 68 [a0, a1, a2, .ref x] st h Q ↔ gm_W E d 89 69 [a0, a1, a2, .ref x] (.ref x :: st) h Q := gw_loc m89 f89_68 rfl rfl
theorem r89_68n {E : Nat → Value} {d : Nat} {st : List Value} {h : gm_H} {Q : gm_R → gm_H → Prop} {a0 a1 a2 : Value}  : gm_W E d 89 68 [a0, a1, a2, .null] st h Q ↔ gm_W E d 89 69 [a0, a1, a2, .null] (.null :: st) h Q := gw_loc m89 f89_68 rfl rfl
theorem f89_69 : gm_ft 89 69 = some (.iload_n 2, 1) := by decide +kernel
theorem r89_69 {E : Nat → Value} {d : Nat} {st : List Value} {h : gm_H} {Q : gm_R → gm_H → Prop} {a0 a1 a3 : Value} {x : Int32} : gm_W E d 89 69 [a0, a1, .int x, a3] st h Q ↔ gm_W E d 89 70 [a0, a1, .int x, a3] (.int x :: st) h Q := gw_loc m89 f89_69 rfl rfl
theorem f89_70 : gm_ft 89 70 = some (.putfield 144, 3) := by decide +kernel
theorem r89_70 {E : Nat → Value} {d : Nat} {st : List Value} {h : gm_H} {Q : gm_R → gm_H → Prop} {lv : List Value} {a : Nat} {x : Int32} (hk : gm_kd h a = 4) : gm_W E d 89 70 lv (.int x :: .ref a :: st) h Q ↔ gm_W E d 89 73 lv st (gm_sf h a 3 (.int x)) Q := gw_wr m89 f89_70 rfl rfl rfl rfl rfl (gs_put k0_144 hk (by decide) (by decide) ⟨rfl, rfl⟩ (by decide))
theorem f89_73 : gm_ft 89 73 = some (.aload_n 0, 1) := by decide +kernel
theorem r89_73 {E : Nat → Value} {d : Nat} {st : List Value} {h : gm_H} {Q : gm_R → gm_H → Prop} {a1 a2 a3 : Value} {x : Nat} : gm_W E d 89 73 [.ref x, a1, a2, a3] st h Q ↔ gm_W E d 89 74 [.ref x, a1, a2, a3] (.ref x :: st) h Q := gw_loc m89 f89_73 rfl rfl
theorem r89_73n {E : Nat → Value} {d : Nat} {st : List Value} {h : gm_H} {Q : gm_R → gm_H → Prop} {a1 a2 a3 : Value}  : gm_W E d 89 73 [.null, a1, a2, a3] st h Q ↔ gm_W E d 89 74 [.null, a1, a2, a3] (.null :: st) h Q := gw_loc m89 f89_73 rfl rfl
theorem f89_74 : gm_ft 89 74 = some (.aload_n 3, 1) := by decide +kernel
theorem r89_74 {E : Nat → Value} {d : Nat} {st : List Value} {h : gm_H} {Q : gm_R → gm_H → Prop} {a0 a1 a2 : Value} {x : Nat} : gm_W E d 89 74 [a0, a1, a2, .ref x] st h Q ↔ gm_W E d 89 75 [a0, a1, a2, .ref x] (.ref x :: st) h Q := gw_loc m89 f89_74 rfl rfl
theorem r89_74n {E : Nat → Value} {d : Nat} {st : List Value} {h : gm_H} {Q : gm_R → gm_H → Prop} {a0 a1 a2 : Value}  : gm_W E d 89 74 [a0, a1, a2, .null] st h Q ↔ gm_W E d 89 75 [a0, a1, a2, .null] (.null :: st) h Q := gw_loc m89 f89_74 rfl rfl
theorem f89_75 : gm_ft 89 75 = some (.invokevirtual 231, 3) := by decide +kernel
theorem c89_75 {E : Nat → Value} {d : Nat} {st : List Value} {h : gm_H} {Q : gm_R → gm_H → Prop} {lv : List Value} {b0 : Value} {a : Nat} {Qc : gm_R → gm_H → Prop} (hs : (st.map fun v => v.category).sum ≤ 8) (he : (gm_en1 [.ref a, b0]).length ≤ 2) (hr : gm_kd h a = 0) (hd : 1 ≤ d) (hc : gm_Ca E (d - 1) 77 [.ref a, b0] h Qc) (kn : ∀ (v9 : Option Value) (h9 : gm_H), Qc (.inl v9) h9 → gm_W E d 89 78 lv (v9.toList ++ st) h9 Q) (kx : ∀ (x9 : Nat) (h9 : gm_H), Qc (.inr x9) h9 → Q (.inr x9) h9) : gm_W E d 89 75 lv (b0 :: .ref a :: st) h Q := gw_call (gn_call m89 f89_75 rfl rfl rfl rfl rfl rfl rfl (gs_virt (bs := [b0]) (w := 555) (L := 2) rfl rfl rfl rfl hs he hr (by decide)) (by decide)) m89 rfl rfl hd hc kn kx
theorem f89_78 : gm_ft 89 78 = some (.ireturn, 1) := by decide +kernel
theorem r89_78 {E : Nat → Value} {d : Nat} {h : gm_H} {Q : gm_R → gm_H → Prop} {lv : List Value} {x : Int32} : gm_W E d 89 78 lv [.int x] h Q ↔ Q (.inl (some (.int x))) h := gw_ret m89 f89_78 rfl rfl rfl rfl rfl rfl rfl rfl (by unfold gm_rt; dsimp only; rw [if_pos ⟨rfl, rfl⟩])
/-! GraphReader.readInstance(I)I -/
theorem m90 : gm_mt[90]? = some (⟨"GraphReader", "readInstance", "(I)I"⟩, prog_1_method_40_code, 8, (some .int), [], 0, 1) := rfl
theorem f90_0 : gm_ft 90 0 = some (.aload_n 0, 1) := by decide +kernel
theorem r90_0 {E : Nat → Value} {d : Nat} {st : List Value} {h : gm_H} {Q : gm_R → gm_H → Prop} {a1 a2 a3 a4 a5 a6 a7 : Value} {x : Nat} : gm_W E d 90 0 [.ref x, a1, a2, a3, a4, a5, a6, a7] st h Q ↔ gm_W E d 90 1 [.ref x, a1, a2, a3, a4, a5, a6, a7] (.ref x :: st) h Q := gw_loc m90 f90_0 rfl rfl
theorem r90_0n {E : Nat → Value} {d : Nat} {st : List Value} {h : gm_H} {Q : gm_R → gm_H → Prop} {a1 a2 a3 a4 a5 a6 a7 : Value}  : gm_W E d 90 0 [.null, a1, a2, a3, a4, a5, a6, a7] st h Q ↔ gm_W E d 90 1 [.null, a1, a2, a3, a4, a5, a6, a7] (.null :: st) h Q := gw_loc m90 f90_0 rfl rfl
theorem f90_1 : gm_ft 90 1 = some (.iload_n 1, 1) := by decide +kernel
theorem r90_1 {E : Nat → Value} {d : Nat} {st : List Value} {h : gm_H} {Q : gm_R → gm_H → Prop} {a0 a2 a3 a4 a5 a6 a7 : Value} {x : Int32} : gm_W E d 90 1 [a0, .int x, a2, a3, a4, a5, a6, a7] st h Q ↔ gm_W E d 90 2 [a0, .int x, a2, a3, a4, a5, a6, a7] (.int x :: st) h Q := gw_loc m90 f90_1 rfl rfl
theorem f90_2 : gm_ft 90 2 = some (.invokevirtual 235, 3) := by decide +kernel
theorem c90_2 {E : Nat → Value} {d : Nat} {st : List Value} {h : gm_H} {Q : gm_R → gm_H → Prop} {lv : List Value} {b0 : Int32} {a : Nat} {Qc : gm_R → gm_H → Prop} (hs : (st.map fun v => v.category).sum ≤ 8) (hr : gm_kd h a = 0) (hd : 1 ≤ d) (hc : gm_Ca E (d - 1) 96 [.ref a, .int b0] h Qc) (kn : ∀ (v9 : Option Value) (h9 : gm_H), Qc (.inl v9) h9 → gm_W E d 90 5 lv (v9.toList ++ st) h9 Q) (kx : ∀ (x9 : Nat) (h9 : gm_H), Qc (.inr x9) h9 → Q (.inr x9) h9) : gm_W E d 90 2 lv (.int b0 :: .ref a :: st) h Q := gw_call (gn_call m90 f90_2 rfl rfl rfl rfl rfl rfl rfl (gs_virt (bs := [.int b0]) (w := 505) (L := 3) rfl rfl rfl rfl hs (by simp [gm_en1]) hr (by decide)) (by decide)) m90 rfl rfl hd hc kn kx
theorem f90_5 : gm_ft 90 5 = some (.astore_n 2, 1) := by decide +kernel
theorem r90_5 {E : Nat → Value} {d : Nat} {st : List Value} {h : gm_H} {Q : gm_R → gm_H → Prop} {a0 a1 a2 a3 a4 a5 a6 a7 : Value} {x : Nat} : gm_W E d 90 5 [a0, a1, a2, a3, a4, a5, a6, a7] (.ref x :: st) h Q ↔ gm_W E d 90 6 [a0, gm_k a1, .ref x, a3, a4, a5, a6, a7] st h Q := gw_loc m90 f90_5 rfl rfl
theorem r90_5n {E : Nat → Value} {d : Nat} {st : List Value} {h : gm_H} {Q : gm_R → gm_H → Prop} {a0 a1 a2 a3 a4 a5 a6 a7 : Value}  : gm_W E d 90 5 [a0, a1, a2, a3, a4, a5, a6, a7] (.null :: st) h Q ↔ gm_W E d 90 6 [a0, gm_k a1, .null, a3, a4, a5, a6, a7] st h Q := gw_loc m90 f90_5 rfl rfl
theorem f90_6 : gm_ft 90 6 = some (.aload_n 0, 1) := by decide +kernel
theorem r90_6 {E : Nat → Value} {d : Nat} {st : List Value} {h : gm_H} {Q : gm_R → gm_H → Prop} {a1 a2 a3 a4 a5 a6 a7 : Value} {x : Nat} : gm_W E d 90 6 [.ref x, a1, a2, a3, a4, a5, a6, a7] st h Q ↔ gm_W E d 90 7 [.ref x, a1, a2, a3, a4, a5, a6, a7] (.ref x :: st) h Q := gw_loc m90 f90_6 rfl rfl
theorem r90_6n {E : Nat → Value} {d : Nat} {st : List Value} {h : gm_H} {Q : gm_R → gm_H → Prop} {a1 a2 a3 a4 a5 a6 a7 : Value}  : gm_W E d 90 6 [.null, a1, a2, a3, a4, a5, a6, a7] st h Q ↔ gm_W E d 90 7 [.null, a1, a2, a3, a4, a5, a6, a7] (.null :: st) h Q := gw_loc m90 f90_6 rfl rfl
theorem f90_7 : gm_ft 90 7 = some (.aload_n 2, 1) := by decide +kernel
theorem r90_7 {E : Nat → Value} {d : Nat} {st : List Value} {h : gm_H} {Q : gm_R → gm_H → Prop} {a0 a1 a3 a4 a5 a6 a7 : Value} {x : Nat} : gm_W E d 90 7 [a0, a1, .ref x, a3, a4, a5, a6, a7] st h Q ↔ gm_W E d 90 8 [a0, a1, .ref x, a3, a4, a5, a6, a7] (.ref x :: st) h Q := gw_loc m90 f90_7 rfl rfl
theorem r90_7n {E : Nat → Value} {d : Nat} {st : List Value} {h : gm_H} {Q : gm_R → gm_H → Prop} {a0 a1 a3 a4 a5 a6 a7 : Value}  : gm_W E d 90 7 [a0, a1, .null, a3, a4, a5, a6, a7] st h Q ↔ gm_W E d 90 8 [a0, a1, .null, a3, a4, a5, a6, a7] (.null :: st) h Q := gw_loc m90 f90_7 rfl rfl
theorem f90_8 : gm_ft 90 8 = some (.iload_n 1, 1) := by decide +kernel
theorem r90_8 {E : Nat → Value} {d : Nat} {st : List Value} {h : gm_H} {Q : gm_R → gm_H → Prop} {a0 a2 a3 a4 a5 a6 a7 : Value} {x : Int32} : gm_W E d 90 8 [a0, .int x, a2, a3, a4, a5, a6, a7] st h Q ↔ gm_W E d 90 9 [a0, .int x, a2, a3, a4, a5, a6, a7] (.int x :: st) h Q := gw_loc m90 f90_8 rfl rfl
theorem f90_9 : gm_ft 90 9 = some (.iconst 0, 1) := by decide +kernel
theorem r90_9 {E : Nat → Value} {d : Nat} {st : List Value} {h : gm_H} {Q : gm_R → gm_H → Prop} {lv : List Value} : gm_W E d 90 9 lv st h Q ↔ gm_W E d 90 10 lv (.int (0 : Int32) :: st) h Q := gw_pure m90 f90_9 rfl
theorem f90_10 : gm_ft 90 10 = some (.invokevirtual 252, 3) := by decide +kernel
theorem c90_10 {E : Nat → Value} {d : Nat} {st : List Value} {h : gm_H} {Q : gm_R → gm_H → Prop} {lv : List Value} {b0 : Value} {b1 : Int32} {b2 : Int32} {a : Nat} {Qc : gm_R → gm_H → Prop} (hs : (st.map fun v => v.category).sum ≤ 8) (he : (gm_en1 [.ref a, b0, .int b1, .int b2]).length ≤ 5) (hr : gm_kd h a = 0) (hd : 1 ≤ d) (hc : gm_Ca E (d - 1) 80 [.ref a, b0, .int b1, .int b2] h Qc) (kn : ∀ (v9 : Option Value) (h9 : gm_H), Qc (.inl v9) h9 → gm_W E d 90 13 lv (v9.toList ++ st) h9 Q) (kx : ∀ (x9 : Nat) (h9 : gm_H), Qc (.inr x9) h9 → Q (.inr x9) h9) : gm_W E d 90 10 lv (.int b2 :: .int b1 :: b0 :: .ref a :: st) h Q := gw_call (gn_call m90 f90_10 rfl rfl rfl rfl rfl rfl rfl (gs_virt (bs := [.int b2, .int b1, b0]) (w := 509) (L := 5) rfl rfl rfl rfl hs he hr (by decide)) (by decide)) m90 rfl rfl hd hc kn kx
theorem f90_13 : gm_ft 90 13 = some (.aload_n 2, 1) := by decide +kernel
theorem r90_13 {E : Nat → Value} {d : Nat} {st : List Value} {h : gm_H} {Q : gm_R → gm_H → Prop} {a0 a1 a3 a4 a5 a6 a7 : Value} {x : Nat} : gm_W E d 90 13 [a0, a1, .ref x, a3, a4, a5, a6, a7] st h Q ↔ gm_W E d 90 14 [a0, a1, .ref x, a3, a4, a5, a6, a7] (.ref x :: st) h Q := gw_loc m90 f90_13 rfl rfl
theorem r90_13n {E : Nat → Value} {d : Nat} {st : List Value} {h : gm_H} {Q : gm_R → gm_H → Prop} {a0 a1 a3 a4 a5 a6 a7 : Value}  : gm_W E d 90 13 [a0, a1, .null, a3, a4, a5, a6, a7] st h Q ↔ gm_W E d 90 14 [a0, a1, .null, a3, a4, a5, a6, a7] (.null :: st) h Q := gw_loc m90 f90_13 rfl rfl
theorem f90_14 : gm_ft 90 14 = some (.invokevirtual 256, 3) := by decide +kernel
theorem c90_14 {E : Nat → Value} {d : Nat} {st : List Value} {h : gm_H} {Q : gm_R → gm_H → Prop} {lv : List Value} {a : Nat} {Qc : gm_R → gm_H → Prop} (hs : (st.map fun v => v.category).sum ≤ 8) (hr : gm_kd h a = 1) (hd : 1 ≤ d) (hc : gm_Ca E (d - 1) 104 [.ref a] h Qc) (kn : ∀ (v9 : Option Value) (h9 : gm_H), Qc (.inl v9) h9 → gm_W E d 90 17 lv (v9.toList ++ st) h9 Q) (kx : ∀ (x9 : Nat) (h9 : gm_H), Qc (.inr x9) h9 → Q (.inr x9) h9) : gm_W E d 90 14 lv (.ref a :: st) h Q := gw_call (gn_call m90 f90_14 rfl rfl rfl rfl rfl rfl rfl (gs_virt (bs := []) (w := 364) (L := 1) rfl rfl rfl rfl hs (by simp [gm_en1]) hr (by decide)) (by decide)) m90 rfl rfl hd hc kn kx
theorem f90_17 : gm_ft 90 17 = some (.ifCond .eq 10, 3) := by decide +kernel
theorem r90_17 {E : Nat → Value} {d : Nat} {st : List Value} {h : gm_H} {Q : gm_R → gm_H → Prop} {lv : List Value} {x : Int32} : gm_W E d 90 17 lv (.int x :: st) h Q ↔ (if x = 0 then gm_W E d 90 27 lv st h Q else gm_W E d 90 20 lv st h Q) := (gw_br m90 f90_17 rfl rfl rfl rfl).trans gw_if
theorem f90_20 : gm_ft 90 20 = some (.aload_n 0, 1) := by decide +kernel
theorem r90_20 {E : Nat → Value} {d : Nat} {st : List Value} {h : gm_H} {Q : gm_R → gm_H → Prop} {a1 a2 a3 a4 a5 a6 a7 : Value} {x : Nat} : gm_W E d 90 20 [.ref x, a1, a2, a3, a4, a5, a6, a7] st h Q ↔ gm_W E d 90 21 [.ref x, a1, a2, a3, a4, a5, a6, a7] (.ref x :: st) h Q := gw_loc m90 f90_20 rfl rfl
theorem r90_20n {E : Nat → Value} {d : Nat} {st : List Value} {h : gm_H} {Q : gm_R → gm_H → Prop} {a1 a2 a3 a4 a5 a6 a7 : Value}  : gm_W E d 90 20 [.null, a1, a2, a3, a4, a5, a6, a7] st h Q ↔ gm_W E d 90 21 [.null, a1, a2, a3, a4, a5, a6, a7] (.null :: st) h Q := gw_loc m90 f90_20 rfl rfl
theorem f90_21 : gm_ft 90 21 = some (.bipush (-5), 2) := by decide +kernel
theorem r90_21 {E : Nat → Value} {d : Nat} {st : List Value} {h : gm_H} {Q : gm_R → gm_H → Prop} {lv : List Value} : gm_W E d 90 21 lv st h Q ↔ gm_W E d 90 23 lv (.int (-5 : Int32) :: st) h Q := gw_pure m90 f90_21 rfl
theorem f90_23 : gm_ft 90 23 = some (.invokevirtual 160, 3) := by decide +kernel
theorem c90_23 {E : Nat → Value} {d : Nat} {st : List Value} {h : gm_H} {Q : gm_R → gm_H → Prop} {lv : List Value} {b0 : Int32} {a : Nat} {Qc : gm_R → gm_H → Prop} (hs : (st.map fun v => v.category).sum ≤ 8) (hr : gm_kd h a = 0) (hd : 1 ≤ d) (hc : gm_Ca E (d - 1) 66 [.ref a, .int b0] h Qc) (kn : ∀ (v9 : Option Value) (h9 : gm_H), Qc (.inl v9) h9 → gm_W E d 90 26 lv (v9.toList ++ st) h9 Q) (kx : ∀ (x9 : Nat) (h9 : gm_H), Qc (.inr x9) h9 → Q (.inr x9) h9) : gm_W E d 90 23 lv (.int b0 :: .ref a :: st) h Q := gw_call (gn_call m90 f90_23 rfl rfl rfl rfl rfl rfl rfl (gs_virt (bs := [.int b0]) (w := 206) (L := 2) rfl rfl rfl rfl hs (by simp [gm_en1]) hr (by decide)) (by decide)) m90 rfl rfl hd hc kn kx
theorem f90_26 : gm_ft 90 26 = some (.ireturn, 1) := by decide +kernel
theorem r90_26 {E : Nat → Value} {d : Nat} {h : gm_H} {Q : gm_R → gm_H → Prop} {lv : List Value} {x : Int32} : gm_W E d 90 26 lv [.int x] h Q ↔ Q (.inl (some (.int x))) h := gw_ret m90 f90_26 rfl rfl rfl rfl rfl rfl rfl rfl (by unfold gm_rt; dsimp only; rw [if_pos ⟨rfl, rfl⟩])
theorem f90_27 : gm_ft 90 27 = some (.aload_n 2, 1) := by decide +kernel
theorem r90_27 {E : Nat → Value} {d : Nat} {st : List Value} {h : gm_H} {Q : gm_R → gm_H → Prop} {a0 a1 a3 a4 a5 a6 a7 : Value} {x : Nat} : gm_W E d 90 27 [a0, a1, .ref x, a3, a4, a5, a6, a7] st h Q ↔ gm_W E d 90 28 [a0, a1, .ref x, a3, a4, a5, a6, a7] (.ref x :: st) h Q := gw_loc m90 f90_27 rfl rfl
theorem r90_27n {E : Nat → Value} {d : Nat} {st : List Value} {h : gm_H} {Q : gm_R → gm_H → Prop} {a0 a1 a3 a4 a5 a6 a7 : Value}  : gm_W E d 90 27 [a0, a1, .null, a3, a4, a5, a6, a7] st h Q ↔ gm_W E d 90 28 [a0, a1, .null, a3, a4, a5, a6, a7] (.null :: st) h Q := gw_loc m90 f90_27 rfl rfl
theorem f90_28 : gm_ft 90 28 = some (.getfield 188, 3) := by decide +kernel
theorem r90_28 {E : Nat → Value} {d : Nat} {st : List Value} {h : gm_H} {Q : gm_R → gm_H → Prop} {lv : List Value} {a : Nat} (hk : gm_kd h a = 1) : gm_W E d 90 28 lv (.ref a :: st) h Q ↔ gm_W E d 90 31 lv (gm_fv h a 9 :: st) h Q := gw_rd m90 f90_28 rfl rfl rfl rfl (gs_get k0_188 hk (by decide))
theorem f90_31 : gm_ft 90 31 = some (.astore_n 3, 1) := by decide +kernel
theorem r90_31 {E : Nat → Value} {d : Nat} {st : List Value} {h : gm_H} {Q : gm_R → gm_H → Prop} {a0 a1 a2 a3 a4 a5 a6 a7 : Value} {x : Nat} : gm_W E d 90 31 [a0, a1, a2, a3, a4, a5, a6, a7] (.ref x :: st) h Q ↔ gm_W E d 90 32 [a0, a1, gm_k a2, .ref x, a4, a5, a6, a7] st h Q := gw_loc m90 f90_31 rfl rfl
theorem r90_31n {E : Nat → Value} {d : Nat} {st : List Value} {h : gm_H} {Q : gm_R → gm_H → Prop} {a0 a1 a2 a3 a4 a5 a6 a7 : Value}  : gm_W E d 90 31 [a0, a1, a2, a3, a4, a5, a6, a7] (.null :: st) h Q ↔ gm_W E d 90 32 [a0, a1, gm_k a2, .null, a4, a5, a6, a7] st h Q := gw_loc m90 f90_31 rfl rfl
theorem f90_32 : gm_ft 90 32 = some (.aload_n 3, 1) := by decide +kernel
theorem r90_32 {E : Nat → Value} {d : Nat} {st : List Value} {h : gm_H} {Q : gm_R → gm_H → Prop} {a0 a1 a2 a4 a5 a6 a7 : Value} {x : Nat} : gm_W E d 90 32 [a0, a1, a2, .ref x, a4, a5, a6, a7] st h Q ↔ gm_W E d 90 33 [a0, a1, a2, .ref x, a4, a5, a6, a7] (.ref x :: st) h Q := gw_loc m90 f90_32 rfl rfl
theorem r90_32n {E : Nat → Value} {d : Nat} {st : List Value} {h : gm_H} {Q : gm_R → gm_H → Prop} {a0 a1 a2 a4 a5 a6 a7 : Value}  : gm_W E d 90 32 [a0, a1, a2, .null, a4, a5, a6, a7] st h Q ↔ gm_W E d 90 33 [a0, a1, a2, .null, a4, a5, a6, a7] (.null :: st) h Q := gw_loc m90 f90_32 rfl rfl
theorem f90_33 : gm_ft 90 33 = some (.ifnonnull 10, 3) := by decide +kernel
theorem r90_33n {E : Nat → Value} {d : Nat} {st : List Value} {h : gm_H} {Q : gm_R → gm_H → Prop} {lv : List Value} : gm_W E d 90 33 lv (.null :: st) h Q ↔ gm_W E d 90 36 lv st h Q := gw_brF m90 f90_33 rfl rfl rfl rfl
theorem r90_33 {E : Nat → Value} {d : Nat} {st : List Value} {h : gm_H} {Q : gm_R → gm_H → Prop} {lv : List Value} {a : Nat} : gm_W E d 90 33 lv (.ref a :: st) h Q ↔ gm_W E d 90 43 lv st h Q := gw_brT m90 f90_33 rfl rfl rfl rfl
theorem f90_36 : gm_ft 90 36 = some (.aload_n 0, 1) := by decide +kernel
theorem r90_36 {E : Nat → Value} {d : Nat} {st : List Value} {h : gm_H} {Q : gm_R → gm_H → Prop} {a1 a2 a3 a4 a5 a6 a7 : Value} {x : Nat} : gm_W E d 90 36 [.ref x, a1, a2, a3, a4, a5, a6, a7] st h Q ↔ gm_W E d 90 37 [.ref x, a1, a2, a3, a4, a5, a6, a7] (.ref x :: st) h Q := gw_loc m90 f90_36 rfl rfl
theorem r90_36n {E : Nat → Value} {d : Nat} {st : List Value} {h : gm_H} {Q : gm_R → gm_H → Prop} {a1 a2 a3 a4 a5 a6 a7 : Value}  : gm_W E d 90 36 [.null, a1, a2, a3, a4, a5, a6, a7] st h Q ↔ gm_W E d 90 37 [.null, a1, a2, a3, a4, a5, a6, a7] (.null :: st) h Q := gw_loc m90 f90_36 rfl rfl
theorem f90_37 : gm_ft 90 37 = some (.bipush (-9), 2) := by decide +kernel
theorem r90_37 {E : Nat → Value} {d : Nat} {st : List Value} {h : gm_H} {Q : gm_R → gm_H → Prop} {lv : List Value} : gm_W E d 90 37 lv st h Q ↔ gm_W E d 90 39 lv (.int (-9 : Int32) :: st) h Q := gw_pure m90 f90_37 rfl
theorem f90_39 : gm_ft 90 39 = some (.invokevirtual 160, 3) := by decide +kernel
theorem c90_39 {E : Nat → Value} {d : Nat} {st : List Value} {h : gm_H} {Q : gm_R → gm_H → Prop} {lv : List Value} {b0 : Int32} {a : Nat} {Qc : gm_R → gm_H → Prop} (hs : (st.map fun v => v.category).sum ≤ 8) (hr : gm_kd h a = 0) (hd : 1 ≤ d) (hc : gm_Ca E (d - 1) 66 [.ref a, .int b0] h Qc) (kn : ∀ (v9 : Option Value) (h9 : gm_H), Qc (.inl v9) h9 → gm_W E d 90 42 lv (v9.toList ++ st) h9 Q) (kx : ∀ (x9 : Nat) (h9 : gm_H), Qc (.inr x9) h9 → Q (.inr x9) h9) : gm_W E d 90 39 lv (.int b0 :: .ref a :: st) h Q := gw_call (gn_call m90 f90_39 rfl rfl rfl rfl rfl rfl rfl (gs_virt (bs := [.int b0]) (w := 206) (L := 2) rfl rfl rfl rfl hs (by simp [gm_en1]) hr (by decide)) (by decide)) m90 rfl rfl hd hc kn kx
theorem f90_42 : gm_ft 90 42 = some (.ireturn, 1) := by decide +kernel
theorem r90_42 {E : Nat → Value} {d : Nat} {h : gm_H} {Q : gm_R → gm_H → Prop} {lv : List Value} {x : Int32} : gm_W E d 90 42 lv [.int x] h Q ↔ Q (.inl (some (.int x))) h := gw_ret m90 f90_42 rfl rfl rfl rfl rfl rfl rfl rfl (by unfold gm_rt; dsimp only; rw [if_pos ⟨rfl, rfl⟩])
theorem f90_43 : gm_ft 90 43 = some (.aload_n 3, 1) := by decide +kernel
theorem r90_43 {E : Nat → Value} {d : Nat} {st : List Value} {h : gm_H} {Q : gm_R → gm_H → Prop} {a0 a1 a2 a4 a5 a6 a7 : Value} {x : Nat} : gm_W E d 90 43 [a0, a1, a2, .ref x, a4, a5, a6, a7] st h Q ↔ gm_W E d 90 44 [a0, a1, a2, .ref x, a4, a5, a6, a7] (.ref x :: st) h Q := gw_loc m90 f90_43 rfl rfl
theorem r90_43n {E : Nat → Value} {d : Nat} {st : List Value} {h : gm_H} {Q : gm_R → gm_H → Prop} {a0 a1 a2 a4 a5 a6 a7 : Value}  : gm_W E d 90 43 [a0, a1, a2, .null, a4, a5, a6, a7] st h Q ↔ gm_W E d 90 44 [a0, a1, a2, .null, a4, a5, a6, a7] (.null :: st) h Q := gw_loc m90 f90_43 rfl rfl
theorem f90_44 : gm_ft 90 44 = some (.getfield 54, 3) := by decide +kernel
theorem r90_44 {E : Nat → Value} {d : Nat} {st : List Value} {h : gm_H} {Q : gm_R → gm_H → Prop} {lv : List Value} {a : Nat} (hk : gm_kd h a = 3) : gm_W E d 90 44 lv (.ref a :: st) h Q ↔ gm_W E d 90 47 lv (gm_fv h a 1 :: st) h Q := gw_rd m90 f90_44 rfl rfl rfl rfl (gs_get k0_54 hk (by decide))
theorem f90_47 : gm_ft 90 47 = some (.ifCond .eq 11, 3) := by decide +kernel
theorem r90_47 {E : Nat → Value} {d : Nat} {st : List Value} {h : gm_H} {Q : gm_R → gm_H → Prop} {lv : List Value} {x : Int32} : gm_W E d 90 47 lv (.int x :: st) h Q ↔ (if x = 0 then gm_W E d 90 58 lv st h Q else gm_W E d 90 50 lv st h Q) := (gw_br m90 f90_47 rfl rfl rfl rfl).trans gw_if
theorem f90_50 : gm_ft 90 50 = some (.aload_n 3, 1) := by decide +kernel
theorem r90_50 {E : Nat → Value} {d : Nat} {st : List Value} {h : gm_H} {Q : gm_R → gm_H → Prop} {a0 a1 a2 a4 a5 a6 a7 : Value} {x : Nat} : gm_W E d 90 50 [a0, a1, a2, .ref x, a4, a5, a6, a7] st h Q ↔ gm_W E d 90 51 [a0, a1, a2, .ref x, a4, a5, a6, a7] (.ref x :: st) h Q := gw_loc m90 f90_50 rfl rfl
theorem r90_50n {E : Nat → Value} {d : Nat} {st : List Value} {h : gm_H} {Q : gm_R → gm_H → Prop} {a0 a1 a2 a4 a5 a6 a7 : Value}  : gm_W E d 90 50 [a0, a1, a2, .null, a4, a5, a6, a7] st h Q ↔ gm_W E d 90 51 [a0, a1, a2, .null, a4, a5, a6, a7] (.null :: st) h Q := gw_loc m90 f90_50 rfl rfl
theorem f90_51 : gm_ft 90 51 = some (.getfield 54, 3) := by decide +kernel
theorem r90_51 {E : Nat → Value} {d : Nat} {st : List Value} {h : gm_H} {Q : gm_R → gm_H → Prop} {lv : List Value} {a : Nat} (hk : gm_kd h a = 3) : gm_W E d 90 51 lv (.ref a :: st) h Q ↔ gm_W E d 90 54 lv (gm_fv h a 1 :: st) h Q := gw_rd m90 f90_51 rfl rfl rfl rfl (gs_get k0_54 hk (by decide))
theorem f90_54 : gm_ft 90 54 = some (.iconst 3, 1) := by decide +kernel
theorem r90_54 {E : Nat → Value} {d : Nat} {st : List Value} {h : gm_H} {Q : gm_R → gm_H → Prop} {lv : List Value} : gm_W E d 90 54 lv st h Q ↔ gm_W E d 90 55 lv (.int (3 : Int32) :: st) h Q := gw_pure m90 f90_54 rfl
theorem f90_55 : gm_ft 90 55 = some (.if_icmp .ne 10, 3) := by decide +kernel
theorem r90_55 {E : Nat → Value} {d : Nat} {st : List Value} {h : gm_H} {Q : gm_R → gm_H → Prop} {lv : List Value} {x y : Int32} : gm_W E d 90 55 lv (.int y :: .int x :: st) h Q ↔ (if x = y then gm_W E d 90 58 lv st h Q else gm_W E d 90 65 lv st h Q) := (gw_br m90 f90_55 rfl rfl rfl rfl).trans gw_ifn
theorem f90_58 : gm_ft 90 58 = some (.aload_n 0, 1) := by decide +kernel
theorem r90_58 {E : Nat → Value} {d : Nat} {st : List Value} {h : gm_H} {Q : gm_R → gm_H → Prop} {a1 a2 a3 a4 a5 a6 a7 : Value} {x : Nat} : gm_W E d 90 58 [.ref x, a1, a2, a3, a4, a5, a6, a7] st h Q ↔ gm_W E d 90 59 [.ref x, a1, a2, a3, a4, a5, a6, a7] (.ref x :: st) h Q := gw_loc m90 f90_58 rfl rfl
theorem r90_58n {E : Nat → Value} {d : Nat} {st : List Value} {h : gm_H} {Q : gm_R → gm_H → Prop} {a1 a2 a3 a4 a5 a6 a7 : Value}  : gm_W E d 90 58 [.null, a1, a2, a3, a4, a5, a6, a7] st h Q ↔ gm_W E d 90 59 [.null, a1, a2, a3, a4, a5, a6, a7] (.null :: st) h Q := gw_loc m90 f90_58 rfl rfl
theorem f90_59 : gm_ft 90 59 = some (.bipush (-5), 2) := by decide +kernel
theorem r90_59 {E : Nat → Value} {d : Nat} {st : List Value} {h : gm_H} {Q : gm_R → gm_H → Prop} {lv : List Value} : gm_W E d 90 59 lv st h Q ↔ gm_W E d 90 61 lv (.int (-5 : Int32) :: st) h Q := gw_pure m90 f90_59 rfl
theorem f90_61 : gm_ft 90 61 = some (.invokevirtual 160, 3) := by decide +kernel
theorem c90_61 {E : Nat → Value} {d : Nat} {st : List Value} {h : gm_H} {Q : gm_R → gm_H → Prop} {lv : List Value} {b0 : Int32} {a : Nat} {Qc : gm_R → gm_H → Prop} (hs : (st.map fun v => v.category).sum ≤ 8) (hr : gm_kd h a = 0) (hd : 1 ≤ d) (hc : gm_Ca E (d - 1) 66 [.ref a, .int b0] h Qc) (kn : ∀ (v9 : Option Value) (h9 : gm_H), Qc (.inl v9) h9 → gm_W E d 90 64 lv (v9.toList ++ st) h9 Q) (kx : ∀ (x9 : Nat) (h9 : gm_H), Qc (.inr x9) h9 → Q (.inr x9) h9) : gm_W E d 90 61 lv (.int b0 :: .ref a :: st) h Q := gw_call (gn_call m90 f90_61 rfl rfl rfl rfl rfl rfl rfl (gs_virt (bs := [.int b0]) (w := 206) (L := 2) rfl rfl rfl rfl hs (by simp [gm_en1]) hr (by decide)) (by decide)) m90 rfl rfl hd hc kn kx
theorem f90_64 : gm_ft 90 64 = some (.ireturn, 1) := by decide +kernel
theorem r90_64 {E : Nat → Value} {d : Nat} {h : gm_H} {Q : gm_R → gm_H → Prop} {lv : List Value} {x : Int32} : gm_W E d 90 64 lv [.int x] h Q ↔ Q (.inl (some (.int x))) h := gw_ret m90 f90_64 rfl rfl rfl rfl rfl rfl rfl rfl (by unfold gm_rt; dsimp only; rw [if_pos ⟨rfl, rfl⟩])
theorem f90_65 : gm_ft 90 65 = some (.new 19, 3) := by decide +kernel
theorem r90_65 {E : Nat → Value} {d : Nat} {st : List Value} {h : gm_H} {Q : gm_R → gm_H → Prop} {lv : List Value} : gm_W E d 90 65 lv st h Q ↔ gm_W E d 90 68 lv (.ref h.1 :: st) (gm_nw h (4, [.int 0, .null, .null, .int 0, .int 0]) 5) Q := gw_nw m90 f90_65 rfl rfl rfl rfl rfl rfl rfl
theorem f90_68 : gm_ft 90 68 = some (.dup, 1) := by decide +kernel
theorem r90_68 {E : Nat → Value} {d : Nat} {st : List Value} {h : gm_H} {Q : gm_R → gm_H → Prop} {lv : List Value} {a : Nat} : gm_W E d 90 68 lv (.ref a :: st) h Q ↔ gm_W E d 90 69 lv (.ref a :: .ref a :: st) h Q := gw_pure m90 f90_68 rfl
theorem r90_68i {E : Nat → Value} {d : Nat} {st : List Value} {h : gm_H} {Q : gm_R → gm_H → Prop} {lv : List Value} {x : Int32} : gm_W E d 90 68 lv (.int x :: st) h Q ↔ gm_W E d 90 69 lv (.int x :: .int x :: st) h Q := gw_pure m90 f90_68 rfl
theorem f90_69 : gm_ft 90 69 = some (.iconst 0, 1) := by decide +kernel
theorem r90_69 {E : Nat → Value} {d : Nat} {st : List Value} {h : gm_H} {Q : gm_R → gm_H → Prop} {lv : List Value} : gm_W E d 90 69 lv st h Q ↔ gm_W E d 90 70 lv (.int (0 : Int32) :: st) h Q := gw_pure m90 f90_69 rfl
theorem f90_70 : gm_ft 90 70 = some (.aload_n 3, 1) := by decide +kernel
theorem r90_70 {E : Nat → Value} {d : Nat} {st : List Value} {h : gm_H} {Q : gm_R → gm_H → Prop} {a0 a1 a2 a4 a5 a6 a7 : Value} {x : Nat} : gm_W E d 90 70 [a0, a1, a2, .ref x, a4, a5, a6, a7] st h Q ↔ gm_W E d 90 71 [a0, a1, a2, .ref x, a4, a5, a6, a7] (.ref x :: st) h Q := gw_loc m90 f90_70 rfl rfl
theorem r90_70n {E : Nat → Value} {d : Nat} {st : List Value} {h : gm_H} {Q : gm_R → gm_H → Prop} {a0 a1 a2 a4 a5 a6 a7 : Value}  : gm_W E d 90 70 [a0, a1, a2, .null, a4, a5, a6, a7] st h Q ↔ gm_W E d 90 71 [a0, a1, a2, .null, a4, a5, a6, a7] (.null :: st) h Q := gw_loc m90 f90_70 rfl rfl
theorem f90_71 : gm_ft 90 71 = some (.aload_n 3, 1) := by decide +kernel
theorem r90_71 {E : Nat → Value} {d : Nat} {st : List Value} {h : gm_H} {Q : gm_R → gm_H → Prop} {a0 a1 a2 a4 a5 a6 a7 : Value} {x : Nat} : gm_W E d 90 71 [a0, a1, a2, .ref x, a4, a5, a6, a7] st h Q ↔ gm_W E d 90 72 [a0, a1, a2, .ref x, a4, a5, a6, a7] (.ref x :: st) h Q := gw_loc m90 f90_71 rfl rfl
theorem r90_71n {E : Nat → Value} {d : Nat} {st : List Value} {h : gm_H} {Q : gm_R → gm_H → Prop} {a0 a1 a2 a4 a5 a6 a7 : Value}  : gm_W E d 90 71 [a0, a1, a2, .null, a4, a5, a6, a7] st h Q ↔ gm_W E d 90 72 [a0, a1, a2, .null, a4, a5, a6, a7] (.null :: st) h Q := gw_loc m90 f90_71 rfl rfl
theorem f90_72 : gm_ft 90 72 = some (.invokevirtual 267, 3) := by decide +kernel
theorem c90_72 {E : Nat → Value} {d : Nat} {st : List Value} {h : gm_H} {Q : gm_R → gm_H → Prop} {lv : List Value} {a : Nat} {Qc : gm_R → gm_H → Prop} (hs : (st.map fun v => v.category).sum ≤ 8) (hr : gm_kd h a = 3) (hd : 1 ≤ d) (hc : gm_Ca E (d - 1) 119 [.ref a] h Qc) (kn : ∀ (v9 : Option Value) (h9 : gm_H), Qc (.inl v9) h9 → gm_W E d 90 75 lv (v9.toList ++ st) h9 Q) (kx : ∀ (x9 : Nat) (h9 : gm_H), Qc (.inr x9) h9 → Q (.inr x9) h9) : gm_W E d 90 72 lv (.ref a :: st) h Q := gw_call (gn_call m90 f90_72 rfl rfl rfl rfl rfl rfl rfl (gs_virt (bs := []) (w := 514) (L := 3) rfl rfl rfl rfl hs (by simp [gm_en1]) hr (by decide)) (by decide)) m90 rfl rfl hd hc kn kx
theorem f90_75 : gm_ft 90 75 = some (.invokespecial 228, 3) := by decide +kernel
theorem c90_75 {E : Nat → Value} {d : Nat} {st : List Value} {h : gm_H} {Q : gm_R → gm_H → Prop} {lv : List Value} {b0 : Int32} {b1 : Value} {b2 : Int32} {a : Nat} {Qc : gm_R → gm_H → Prop} (hs : (st.map fun v => v.category).sum ≤ 8) (he : (gm_en1 [.ref a, .int b0, b1, .int b2]).length ≤ 4) (hd : 1 ≤ d) (hc : gm_Ca E (d - 1) 123 [.ref a, .int b0, b1, .int b2] h Qc) (kn : ∀ (v9 : Option Value) (h9 : gm_H), Qc (.inl v9) h9 → gm_W E d 90 78 lv (v9.toList ++ st) h9 Q) (kx : ∀ (x9 : Nat) (h9 : gm_H), Qc (.inr x9) h9 → Q (.inr x9) h9) : gm_W E d 90 75 lv (.int b2 :: b1 :: .int b0 :: .ref a :: st) h Q := gw_call (gn_call m90 f90_75 rfl rfl rfl rfl rfl rfl rfl (gc_init (bs := [.int b2, b1, .int b0]) (w := 518) (L := 4) rfl rfl rfl hs he (by decide)) (by decide)) m90 rfl rfl hd hc kn kx
theorem f90_78 : gm_ft 90 78 = some (.astore 4, 2) := by decide +kernel
theorem r90_78 {E : Nat → Value} {d : Nat} {st : List Value} {h : gm_H} {Q : gm_R → gm_H → Prop} {a0 a1 a2 a3 a4 a5 a6 a7 : Value} {x : Nat} : gm_W E d 90 78 [a0, a1, a2, a3, a4, a5, a6, a7] (.ref x :: st) h Q ↔ gm_W E d 90 80 [a0, a1, a2, gm_k a3, .ref x, a5, a6, a7] st h Q := gw_loc m90 f90_78 rfl rfl
theorem r90_78n {E : Nat → Value} {d : Nat} {st : List Value} {h : gm_H} {Q : gm_R → gm_H → Prop} {a0 a1 a2 a3 a4 a5 a6 a7 : Value}  : gm_W E d 90 78 [a0, a1, a2, a3, a4, a5, a6, a7] (.null :: st) h Q ↔ gm_W E d 90 80 [a0, a1, a2, gm_k a3, .null, a5, a6, a7] st h Q := gw_loc m90 f90_78 rfl rfl
theorem f90_80 : gm_ft 90 80 = some (.aload_n 3, 1) := by decide +kernel
theorem r90_80 {E : Nat → Value} {d : Nat} {st : List Value} {h : gm_H} {Q : gm_R → gm_H → Prop} {a0 a1 a2 a4 a5 a6 a7 : Value} {x : Nat} : gm_W E d 90 80 [a0, a1, a2, .ref x, a4, a5, a6, a7] st h Q ↔ gm_W E d 90 81 [a0, a1, a2, .ref x, a4, a5, a6, a7] (.ref x :: st) h Q := gw_loc m90 f90_80 rfl rfl
theorem r90_80n {E : Nat → Value} {d : Nat} {st : List Value} {h : gm_H} {Q : gm_R → gm_H → Prop} {a0 a1 a2 a4 a5 a6 a7 : Value}  : gm_W E d 90 80 [a0, a1, a2, .null, a4, a5, a6, a7] st h Q ↔ gm_W E d 90 81 [a0, a1, a2, .null, a4, a5, a6, a7] (.null :: st) h Q := gw_loc m90 f90_80 rfl rfl
theorem f90_81 : gm_ft 90 81 = some (.aload 4, 2) := by decide +kernel
theorem r90_81 {E : Nat → Value} {d : Nat} {st : List Value} {h : gm_H} {Q : gm_R → gm_H → Prop} {a0 a1 a2 a3 a5 a6 a7 : Value} {x : Nat} : gm_W E d 90 81 [a0, a1, a2, a3, .ref x, a5, a6, a7] st h Q ↔ gm_W E d 90 83 [a0, a1, a2, a3, .ref x, a5, a6, a7] (.ref x :: st) h Q := gw_loc m90 f90_81 rfl rfl
theorem r90_81n {E : Nat → Value} {d : Nat} {st : List Value} {h : gm_H} {Q : gm_R → gm_H → Prop} {a0 a1 a2 a3 a5 a6 a7 : Value}  : gm_W E d 90 81 [a0, a1, a2, a3, .null, a5, a6, a7] st h Q ↔ gm_W E d 90 83 [a0, a1, a2, a3, .null, a5, a6, a7] (.null :: st) h Q := gw_loc m90 f90_81 rfl rfl
theorem f90_83 : gm_ft 90 83 = some (.getfield 147, 3) := by decide +kernel
theorem r90_83 {E : Nat → Value} {d : Nat} {st : List Value} {h : gm_H} {Q : gm_R → gm_H → Prop} {lv : List Value} {a : Nat} (hk : gm_kd h a = 4) : gm_W E d 90 83 lv (.ref a :: st) h Q ↔ gm_W E d 90 86 lv (gm_fv h a 2 :: st) h Q := gw_rd m90 f90_83 rfl rfl rfl rfl (gs_get k0_147 hk (by decide))
theorem f90_86 : gm_ft 90 86 = some (.invokevirtual 270, 3) := by decide +kernel
theorem c90_86 {E : Nat → Value} {d : Nat} {st : List Value} {h : gm_H} {Q : gm_R → gm_H → Prop} {lv : List Value} {b0 : Value} {a : Nat} {Qc : gm_R → gm_H → Prop} (hs : (st.map fun v => v.category).sum ≤ 8) (he : (gm_en1 [.ref a, b0]).length ≤ 5) (hr : gm_kd h a = 3) (hd : 1 ≤ d) (hc : gm_Ca E (d - 1) 121 [.ref a, b0] h Qc) (kn : ∀ (v9 : Option Value) (h9 : gm_H), Qc (.inl v9) h9 → gm_W E d 90 89 lv (v9.toList ++ st) h9 Q) (kx : ∀ (x9 : Nat) (h9 : gm_H), Qc (.inr x9) h9 → Q (.inr x9) h9) : gm_W E d 90 86 lv (b0 :: .ref a :: st) h Q := gw_call (gn_call m90 f90_86 rfl rfl rfl rfl rfl rfl rfl (gs_virt (bs := [b0]) (w := 542) (L := 5) rfl rfl rfl rfl hs he hr (by decide)) (by decide)) m90 rfl rfl hd hc kn kx
theorem f90_89 : gm_ft 90 89 = some (.aload_n 0, 1) := by decide +kernel
theorem r90_89 {E : Nat → Value} {d : Nat} {st : List Value} {h : gm_H} {Q : gm_R → gm_H → Prop} {a1 a2 a3 a4 a5 a6 a7 : Value} {x : Nat} : gm_W E d 90 89 [.ref x, a1, a2, a3, a4, a5, a6, a7] st h Q ↔ gm_W E d 90 90 [.ref x, a1, a2, a3, a4, a5, a6, a7] (.ref x :: st) h Q := gw_loc m90 f90_89 rfl rfl
theorem r90_89n {E : Nat → Value} {d : Nat} {st : List Value} {h : gm_H} {Q : gm_R → gm_H → Prop} {a1 a2 a3 a4 a5 a6 a7 : Value}  : gm_W E d 90 89 [.null, a1, a2, a3, a4, a5, a6, a7] st h Q ↔ gm_W E d 90 90 [.null, a1, a2, a3, a4, a5, a6, a7] (.null :: st) h Q := gw_loc m90 f90_89 rfl rfl
theorem f90_90 : gm_ft 90 90 = some (.aload 4, 2) := by decide +kernel
theorem r90_90 {E : Nat → Value} {d : Nat} {st : List Value} {h : gm_H} {Q : gm_R → gm_H → Prop} {a0 a1 a2 a3 a5 a6 a7 : Value} {x : Nat} : gm_W E d 90 90 [a0, a1, a2, a3, .ref x, a5, a6, a7] st h Q ↔ gm_W E d 90 92 [a0, a1, a2, a3, .ref x, a5, a6, a7] (.ref x :: st) h Q := gw_loc m90 f90_90 rfl rfl
theorem r90_90n {E : Nat → Value} {d : Nat} {st : List Value} {h : gm_H} {Q : gm_R → gm_H → Prop} {a0 a1 a2 a3 a5 a6 a7 : Value}  : gm_W E d 90 90 [a0, a1, a2, a3, .null, a5, a6, a7] st h Q ↔ gm_W E d 90 92 [a0, a1, a2, a3, .null, a5, a6, a7] (.null :: st) h Q := gw_loc m90 f90_90 rfl rfl
theorem f90_92 : gm_ft 90 92 = some (.invokevirtual 231, 3) := by decide +kernel
theorem c90_92 {E : Nat → Value} {d : Nat} {st : List Value} {h : gm_H} {Q : gm_R → gm_H → Prop} {lv : List Value} {b0 : Value} {a : Nat} {Qc : gm_R → gm_H → Prop} (hs : (st.map fun v => v.category).sum ≤ 8) (he : (gm_en1 [.ref a, b0]).length ≤ 2) (hr : gm_kd h a = 0) (hd : 1 ≤ d) (hc : gm_Ca E (d - 1) 77 [.ref a, b0] h Qc) (kn : ∀ (v9 : Option Value) (h9 : gm_H), Qc (.inl v9) h9 → gm_W E d 90 95 lv (v9.toList ++ st) h9 Q) (kx : ∀ (x9 : Nat) (h9 : gm_H), Qc (.inr x9) h9 → Q (.inr x9) h9) : gm_W E d 90 92 lv (b0 :: .ref a :: st) h Q := gw_call (gn_call m90 f90_92 rfl rfl rfl rfl rfl rfl rfl (gs_virt (bs := [b0]) (w := 555) (L := 2) rfl rfl rfl rfl hs he hr (by decide)) (by decide)) m90 rfl rfl hd hc kn kx
theorem f90_95 : gm_ft 90 95 = some (.istore 5, 2) := by decide +kernel
theorem r90_95 {E : Nat → Value} {d : Nat} {st : List Value} {h : gm_H} {Q : gm_R → gm_H → Prop} {a0 a1 a2 a3 a4 a5 a6 a7 : Value} {x : Int32} : gm_W E d 90 95 [a0, a1, a2, a3, a4, a5, a6, a7] (.int x :: st) h Q ↔ gm_W E d 90 97 [a0, a1, a2, a3, gm_k a4, .int x, a6, a7] st h Q := gw_loc m90 f90_95 rfl rfl
theorem f90_97 : gm_ft 90 97 = some (.aload_n 0, 1) := by decide +kernel
theorem r90_97 {E : Nat → Value} {d : Nat} {st : List Value} {h : gm_H} {Q : gm_R → gm_H → Prop} {a1 a2 a3 a4 a5 a6 a7 : Value} {x : Nat} : gm_W E d 90 97 [.ref x, a1, a2, a3, a4, a5, a6, a7] st h Q ↔ gm_W E d 90 98 [.ref x, a1, a2, a3, a4, a5, a6, a7] (.ref x :: st) h Q := gw_loc m90 f90_97 rfl rfl
theorem r90_97n {E : Nat → Value} {d : Nat} {st : List Value} {h : gm_H} {Q : gm_R → gm_H → Prop} {a1 a2 a3 a4 a5 a6 a7 : Value}  : gm_W E d 90 97 [.null, a1, a2, a3, a4, a5, a6, a7] st h Q ↔ gm_W E d 90 98 [.null, a1, a2, a3, a4, a5, a6, a7] (.null :: st) h Q := gw_loc m90 f90_97 rfl rfl
theorem f90_98 : gm_ft 90 98 = some (.aload_n 3, 1) := by decide +kernel
theorem r90_98 {E : Nat → Value} {d : Nat} {st : List Value} {h : gm_H} {Q : gm_R → gm_H → Prop} {a0 a1 a2 a4 a5 a6 a7 : Value} {x : Nat} : gm_W E d 90 98 [a0, a1, a2, .ref x, a4, a5, a6, a7] st h Q ↔ gm_W E d 90 99 [a0, a1, a2, .ref x, a4, a5, a6, a7] (.ref x :: st) h Q := gw_loc m90 f90_98 rfl rfl
theorem r90_98n {E : Nat → Value} {d : Nat} {st : List Value} {h : gm_H} {Q : gm_R → gm_H → Prop} {a0 a1 a2 a4 a5 a6 a7 : Value}  : gm_W E d 90 98 [a0, a1, a2, .null, a4, a5, a6, a7] st h Q ↔ gm_W E d 90 99 [a0, a1, a2, .null, a4, a5, a6, a7] (.null :: st) h Q := gw_loc m90 f90_98 rfl rfl
theorem f90_99 : gm_ft 90 99 = some (.getfield 54, 3) := by decide +kernel
theorem r90_99 {E : Nat → Value} {d : Nat} {st : List Value} {h : gm_H} {Q : gm_R → gm_H → Prop} {lv : List Value} {a : Nat} (hk : gm_kd h a = 3) : gm_W E d 90 99 lv (.ref a :: st) h Q ↔ gm_W E d 90 102 lv (gm_fv h a 1 :: st) h Q := gw_rd m90 f90_99 rfl rfl rfl rfl (gs_get k0_54 hk (by decide))
theorem f90_102 : gm_ft 90 102 = some (.iconst 4, 1) := by decide +kernel
theorem r90_102 {E : Nat → Value} {d : Nat} {st : List Value} {h : gm_H} {Q : gm_R → gm_H → Prop} {lv : List Value} : gm_W E d 90 102 lv st h Q ↔ gm_W E d 90 103 lv (.int (4 : Int32) :: st) h Q := gw_pure m90 f90_102 rfl
theorem f90_103 : gm_ft 90 103 = some (.if_icmp .ne 8, 3) := by decide +kernel
theorem r90_103 {E : Nat → Value} {d : Nat} {st : List Value} {h : gm_H} {Q : gm_R → gm_H → Prop} {lv : List Value} {x y : Int32} : gm_W E d 90 103 lv (.int y :: .int x :: st) h Q ↔ (if x = y then gm_W E d 90 106 lv st h Q else gm_W E d 90 111 lv st h Q) := (gw_br m90 f90_103 rfl rfl rfl rfl).trans gw_ifn
theorem f90_106 : gm_ft 90 106 = some (.bipush (-2), 2) := by decide +kernel
theorem r90_106 {E : Nat → Value} {d : Nat} {st : List Value} {h : gm_H} {Q : gm_R → gm_H → Prop} {lv : List Value} : gm_W E d 90 106 lv st h Q ↔ gm_W E d 90 108 lv (.int (-2 : Int32) :: st) h Q := gw_pure m90 f90_106 rfl
theorem f90_108 : gm_ft 90 108 = some (.goto 5, 3) := by decide +kernel
theorem r90_108 {E : Nat → Value} {d : Nat} {st : List Value} {h : gm_H} {Q : gm_R → gm_H → Prop} {lv : List Value} : gm_W E d 90 108 lv st h Q ↔ gm_W E d 90 113 lv st h Q := gw_brT m90 f90_108 rfl rfl rfl rfl
theorem f90_111 : gm_ft 90 111 = some (.iload 5, 2) := by decide +kernel
theorem r90_111 {E : Nat → Value} {d : Nat} {st : List Value} {h : gm_H} {Q : gm_R → gm_H → Prop} {a0 a1 a2 a3 a4 a6 a7 : Value} {x : Int32} : gm_W E d 90 111 [a0, a1, a2, a3, a4, .int x, a6, a7] st h Q ↔ gm_W E d 90 113 [a0, a1, a2, a3, a4, .int x, a6, a7] (.int x :: st) h Q := gw_loc m90 f90_111 rfl rfl
theorem f90_113 : gm_ft 90 113 = some (.invokevirtual 222, 3) := by decide +kernel
theorem c90_113 {E : Nat → Value} {d : Nat} {st : List Value} {h : gm_H} {Q : gm_R → gm_H → Prop} {lv : List Value} {b0 : Int32} {a : Nat} {Qc : gm_R → gm_H → Prop} (hs : (st.map fun v => v.category).sum ≤ 8) (hr : gm_kd h a = 0) (hd : 1 ≤ d) (hc : gm_Ca E (d - 1) 78 [.ref a, .int b0] h Qc) (kn : ∀ (v9 : Option Value) (h9 : gm_H), Qc (.inl v9) h9 → gm_W E d 90 116 lv (v9.toList ++ st) h9 Q) (kx : ∀ (x9 : Nat) (h9 : gm_H), Qc (.inr x9) h9 → Q (.inr x9) h9) : gm_W E d 90 113 lv (.int b0 :: .ref a :: st) h Q := gw_call (gn_call m90 f90_113 rfl rfl rfl rfl rfl rfl rfl (gs_virt (bs := [.int b0]) (w := 348) (L := 2) rfl rfl rfl rfl hs (by simp [gm_en1]) hr (by decide)) (by decide)) m90 rfl rfl hd hc kn kx
theorem f90_116 : gm_ft 90 116 = some (.istore 6, 2) := by decide +kernel
theorem r90_116 {E : Nat → Value} {d : Nat} {st : List Value} {h : gm_H} {Q : gm_R → gm_H → Prop} {a0 a1 a2 a3 a4 a5 a6 a7 : Value} {x : Int32} : gm_W E d 90 116 [a0, a1, a2, a3, a4, a5, a6, a7] (.int x :: st) h Q ↔ gm_W E d 90 118 [a0, a1, a2, a3, a4, gm_k a5, .int x, a7] st h Q := gw_loc m90 f90_116 rfl rfl
theorem f90_118 : gm_ft 90 118 = some (.aload_n 2, 1) := by decide +kernel
theorem r90_118 {E : Nat → Value} {d : Nat} {st : List Value} {h : gm_H} {Q : gm_R → gm_H → Prop} {a0 a1 a3 a4 a5 a6 a7 : Value} {x : Nat} : gm_W E d 90 118 [a0, a1, .ref x, a3, a4, a5, a6, a7] st h Q ↔ gm_W E d 90 119 [a0, a1, .ref x, a3, a4, a5, a6, a7] (.ref x :: st) h Q := gw_loc m90 f90_118 rfl rfl
theorem r90_118n {E : Nat → Value} {d : Nat} {st : List Value} {h : gm_H} {Q : gm_R → gm_H → Prop} {a0 a1 a3 a4 a5 a6 a7 : Value}  : gm_W E d 90 118 [a0, a1, .null, a3, a4, a5, a6, a7] st h Q ↔ gm_W E d 90 119 [a0, a1, .null, a3, a4, a5, a6, a7] (.null :: st) h Q := gw_loc m90 f90_118 rfl rfl
theorem f90_119 : gm_ft 90 119 = some (.getfield 274, 3) := by decide +kernel
theorem r90_119 {E : Nat → Value} {d : Nat} {st : List Value} {h : gm_H} {Q : gm_R → gm_H → Prop} {lv : List Value} {a : Nat} (hk : gm_kd h a = 1) : gm_W E d 90 119 lv (.ref a :: st) h Q ↔ gm_W E d 90 122 lv (gm_fv h a 8 :: st) h Q := gw_rd m90 f90_119 rfl rfl rfl rfl (gs_get k0_274 hk (by decide))
theorem f90_122 : gm_ft 90 122 = some (.istore 7, 2) := by decide +kernel
theorem r90_122 {E : Nat → Value} {d : Nat} {st : List Value} {h : gm_H} {Q : gm_R → gm_H → Prop} {a0 a1 a2 a3 a4 a5 a6 a7 : Value} {x : Int32} : gm_W E d 90 122 [a0, a1, a2, a3, a4, a5, a6, a7] (.int x :: st) h Q ↔ gm_W E d 90 124 [a0, a1, a2, a3, a4, a5, gm_k a6, .int x] st h Q := gw_loc m90 f90_122 rfl rfl
theorem f90_124 : gm_ft 90 124 = some (.iload 7, 2) := by decide +kernel
theorem r90_124 {E : Nat → Value} {d : Nat} {st : List Value} {h : gm_H} {Q : gm_R → gm_H → Prop} {a0 a1 a2 a3 a4 a5 a6 : Value} {x : Int32} : gm_W E d 90 124 [a0, a1, a2, a3, a4, a5, a6, .int x] st h Q ↔ gm_W E d 90 126 [a0, a1, a2, a3, a4, a5, a6, .int x] (.int x :: st) h Q := gw_loc m90 f90_124 rfl rfl
theorem f90_126 : gm_ft 90 126 = some (.ifCond .lt 22, 3) := by decide +kernel
theorem r90_126 {E : Nat → Value} {d : Nat} {st : List Value} {h : gm_H} {Q : gm_R → gm_H → Prop} {lv : List Value} {x : Int32} : gm_W E d 90 126 lv (.int x :: st) h Q ↔ (if x < 0 then gm_W E d 90 148 lv st h Q else gm_W E d 90 129 lv st h Q) := (gw_br m90 f90_126 rfl rfl rfl rfl).trans gw_if
theorem f90_129 : gm_ft 90 129 = some (.aload_n 0, 1) := by decide +kernel
theorem r90_129 {E : Nat → Value} {d : Nat} {st : List Value} {h : gm_H} {Q : gm_R → gm_H → Prop} {a1 a2 a3 a4 a5 a6 a7 : Value} {x : Nat} : gm_W E d 90 129 [.ref x, a1, a2, a3, a4, a5, a6, a7] st h Q ↔ gm_W E d 90 130 [.ref x, a1, a2, a3, a4, a5, a6, a7] (.ref x :: st) h Q := gw_loc m90 f90_129 rfl rfl
theorem r90_129n {E : Nat → Value} {d : Nat} {st : List Value} {h : gm_H} {Q : gm_R → gm_H → Prop} {a1 a2 a3 a4 a5 a6 a7 : Value}  : gm_W E d 90 129 [.null, a1, a2, a3, a4, a5, a6, a7] st h Q ↔ gm_W E d 90 130 [.null, a1, a2, a3, a4, a5, a6, a7] (.null :: st) h Q := gw_loc m90 f90_129 rfl rfl
theorem f90_130 : gm_ft 90 130 = some (.aload_n 2, 1) := by decide +kernel
theorem r90_130 {E : Nat → Value} {d : Nat} {st : List Value} {h : gm_H} {Q : gm_R → gm_H → Prop} {a0 a1 a3 a4 a5 a6 a7 : Value} {x : Nat} : gm_W E d 90 130 [a0, a1, .ref x, a3, a4, a5, a6, a7] st h Q ↔ gm_W E d 90 131 [a0, a1, .ref x, a3, a4, a5, a6, a7] (.ref x :: st) h Q := gw_loc m90 f90_130 rfl rfl
theorem r90_130n {E : Nat → Value} {d : Nat} {st : List Value} {h : gm_H} {Q : gm_R → gm_H → Prop} {a0 a1 a3 a4 a5 a6 a7 : Value}  : gm_W E d 90 130 [a0, a1, .null, a3, a4, a5, a6, a7] st h Q ↔ gm_W E d 90 131 [a0, a1, .null, a3, a4, a5, a6, a7] (.null :: st) h Q := gw_loc m90 f90_130 rfl rfl
theorem f90_131 : gm_ft 90 131 = some (.iload 7, 2) := by decide +kernel
theorem r90_131 {E : Nat → Value} {d : Nat} {st : List Value} {h : gm_H} {Q : gm_R → gm_H → Prop} {a0 a1 a2 a3 a4 a5 a6 : Value} {x : Int32} : gm_W E d 90 131 [a0, a1, a2, a3, a4, a5, a6, .int x] st h Q ↔ gm_W E d 90 133 [a0, a1, a2, a3, a4, a5, a6, .int x] (.int x :: st) h Q := gw_loc m90 f90_131 rfl rfl
theorem f90_133 : gm_ft 90 133 = some (.invokevirtual 277, 3) := by decide +kernel
theorem c90_133 {E : Nat → Value} {d : Nat} {st : List Value} {h : gm_H} {Q : gm_R → gm_H → Prop} {lv : List Value} {b0 : Int32} {a : Nat} {Qc : gm_R → gm_H → Prop} (hs : (st.map fun v => v.category).sum ≤ 8) (hr : gm_kd h a = 1) (hd : 1 ≤ d) (hc : gm_Ca E (d - 1) 107 [.ref a, .int b0] h Qc) (kn : ∀ (v9 : Option Value) (h9 : gm_H), Qc (.inl v9) h9 → gm_W E d 90 136 lv (v9.toList ++ st) h9 Q) (kx : ∀ (x9 : Nat) (h9 : gm_H), Qc (.inr x9) h9 → Q (.inr x9) h9) : gm_W E d 90 133 lv (.int b0 :: .ref a :: st) h Q := gw_call (gn_call m90 f90_133 rfl rfl rfl rfl rfl rfl rfl (gs_virt (bs := [.int b0]) (w := 559) (L := 4) rfl rfl rfl rfl hs (by simp [gm_en1]) hr (by decide)) (by decide)) m90 rfl rfl hd hc kn kx
theorem f90_136 : gm_ft 90 136 = some (.aload 4, 2) := by decide +kernel
theorem r90_136 {E : Nat → Value} {d : Nat} {st : List Value} {h : gm_H} {Q : gm_R → gm_H → Prop} {a0 a1 a2 a3 a5 a6 a7 : Value} {x : Nat} : gm_W E d 90 136 [a0, a1, a2, a3, .ref x, a5, a6, a7] st h Q ↔ gm_W E d 90 138 [a0, a1, a2, a3, .ref x, a5, a6, a7] (.ref x :: st) h Q := gw_loc m90 f90_136 rfl rfl
theorem r90_136n {E : Nat → Value} {d : Nat} {st : List Value} {h : gm_H} {Q : gm_R → gm_H → Prop} {a0 a1 a2 a3 a5 a6 a7 : Value}  : gm_W E d 90 136 [a0, a1, a2, a3, .null, a5, a6, a7] st h Q ↔ gm_W E d 90 138 [a0, a1, a2, a3, .null, a5, a6, a7] (.null :: st) h Q := gw_loc m90 f90_136 rfl rfl
theorem f90_138 : gm_ft 90 138 = some (.iload_n 1, 1) := by decide +kernel
theorem r90_138 {E : Nat → Value} {d : Nat} {st : List Value} {h : gm_H} {Q : gm_R → gm_H → Prop} {a0 a2 a3 a4 a5 a6 a7 : Value} {x : Int32} : gm_W E d 90 138 [a0, .int x, a2, a3, a4, a5, a6, a7] st h Q ↔ gm_W E d 90 139 [a0, .int x, a2, a3, a4, a5, a6, a7] (.int x :: st) h Q := gw_loc m90 f90_138 rfl rfl
theorem f90_139 : gm_ft 90 139 = some (.invokevirtual 280, 3) := by decide +kernel
theorem c90_139 {E : Nat → Value} {d : Nat} {st : List Value} {h : gm_H} {Q : gm_R → gm_H → Prop} {lv : List Value} {b0 : Value} {b1 : Value} {b2 : Int32} {a : Nat} {Qc : gm_R → gm_H → Prop} (hs : (st.map fun v => v.category).sum ≤ 8) (he : (gm_en1 [.ref a, b0, b1, .int b2]).length ≤ 10) (hr : gm_kd h a = 0) (hd : 1 ≤ d) (hc : gm_Ca E (d - 1) 92 [.ref a, b0, b1, .int b2] h Qc) (kn : ∀ (v9 : Option Value) (h9 : gm_H), Qc (.inl v9) h9 → gm_W E d 90 142 lv (v9.toList ++ st) h9 Q) (kx : ∀ (x9 : Nat) (h9 : gm_H), Qc (.inr x9) h9 → Q (.inr x9) h9) : gm_W E d 90 139 lv (.int b2 :: b1 :: b0 :: .ref a :: st) h Q := gw_call (gn_call m90 f90_139 rfl rfl rfl rfl rfl rfl rfl (gs_virt (bs := [.int b2, b1, b0]) (w := 563) (L := 10) rfl rfl rfl rfl hs he hr (by decide)) (by decide)) m90 rfl rfl hd hc kn kx
theorem f90_142 : gm_ft 90 142 = some (.iinc 7 (-1), 3) := by decide +kernel
theorem r90_142 {E : Nat → Value} {d : Nat} {st : List Value} {h : gm_H} {Q : gm_R → gm_H → Prop} {a0 a1 a2 a3 a4 a5 a6 : Value} {x : Int32} : gm_W E d 90 142 [a0, a1, a2, a3, a4, a5, a6, .int x] st h Q ↔ gm_W E d 90 145 [a0, a1, a2, a3, a4, a5, gm_k a6, .int (x + (-1 : Int32))] st h Q := gw_loc m90 f90_142 rfl rfl
theorem f90_145 : gm_ft 90 145 = some (.goto (-21), 3) := by decide +kernel
theorem r90_145 {E : Nat → Value} {d : Nat} {st : List Value} {h : gm_H} {Q : gm_R → gm_H → Prop} {lv : List Value} : gm_W E d 90 145 lv st h Q ↔ gm_W E d 90 124 lv st h Q := gw_brT m90 f90_145 rfl rfl rfl rfl
theorem f90_148 : gm_ft 90 148 = some (.aload_n 3, 1) := by decide +kernel
theorem r90_148 {E : Nat → Value} {d : Nat} {st : List Value} {h : gm_H} {Q : gm_R → gm_H → Prop} {a0 a1 a2 a4 a5 a6 a7 : Value} {x : Nat} : gm_W E d 90 148 [a0, a1, a2, .ref x, a4, a5, a6, a7] st h Q ↔ gm_W E d 90 149 [a0, a1, a2, .ref x, a4, a5, a6, a7] (.ref x :: st) h Q := gw_loc m90 f90_148 rfl rfl
theorem r90_148n {E : Nat → Value} {d : Nat} {st : List Value} {h : gm_H} {Q : gm_R → gm_H → Prop} {a0 a1 a2 a4 a5 a6 a7 : Value}  : gm_W E d 90 148 [a0, a1, a2, .null, a4, a5, a6, a7] st h Q ↔ gm_W E d 90 149 [a0, a1, a2, .null, a4, a5, a6, a7] (.null :: st) h Q := gw_loc m90 f90_148 rfl rfl
theorem f90_149 : gm_ft 90 149 = some (.getfield 54, 3) := by decide +kernel
theorem r90_149 {E : Nat → Value} {d : Nat} {st : List Value} {h : gm_H} {Q : gm_R → gm_H → Prop} {lv : List Value} {a : Nat} (hk : gm_kd h a = 3) : gm_W E d 90 149 lv (.ref a :: st) h Q ↔ gm_W E d 90 152 lv (gm_fv h a 1 :: st) h Q := gw_rd m90 f90_149 rfl rfl rfl rfl (gs_get k0_54 hk (by decide))
theorem f90_152 : gm_ft 90 152 = some (.iconst 4, 1) := by decide +kernel
theorem r90_152 {E : Nat → Value} {d : Nat} {st : List Value} {h : gm_H} {Q : gm_R → gm_H → Prop} {lv : List Value} : gm_W E d 90 152 lv st h Q ↔ gm_W E d 90 153 lv (.int (4 : Int32) :: st) h Q := gw_pure m90 f90_152 rfl
theorem f90_153 : gm_ft 90 153 = some (.if_icmp .ne 18, 3) := by decide +kernel
theorem r90_153 {E : Nat → Value} {d : Nat} {st : List Value} {h : gm_H} {Q : gm_R → gm_H → Prop} {lv : List Value} {x y : Int32} : gm_W E d 90 153 lv (.int y :: .int x :: st) h Q ↔ (if x = y then gm_W E d 90 156 lv st h Q else gm_W E d 90 171 lv st h Q) := (gw_br m90 f90_153 rfl rfl rfl rfl).trans gw_ifn
theorem f90_156 : gm_ft 90 156 = some (.aload 4, 2) := by decide +kernel
theorem r90_156 {E : Nat → Value} {d : Nat} {st : List Value} {h : gm_H} {Q : gm_R → gm_H → Prop} {a0 a1 a2 a3 a5 a6 a7 : Value} {x : Nat} : gm_W E d 90 156 [a0, a1, a2, a3, .ref x, a5, a6, a7] st h Q ↔ gm_W E d 90 158 [a0, a1, a2, a3, .ref x, a5, a6, a7] (.ref x :: st) h Q := gw_loc m90 f90_156 rfl rfl
theorem r90_156n {E : Nat → Value} {d : Nat} {st : List Value} {h : gm_H} {Q : gm_R → gm_H → Prop} {a0 a1 a2 a3 a5 a6 a7 : Value}  : gm_W E d 90 156 [a0, a1, a2, a3, .null, a5, a6, a7] st h Q ↔ gm_W E d 90 158 [a0, a1, a2, a3, .null, a5, a6, a7] (.null :: st) h Q := gw_loc m90 f90_156 rfl rfl
theorem f90_158 : gm_ft 90 158 = some (.invokestatic 284, 3) := by decide +kernel
theorem c90_158 {E : Nat → Value} {d : Nat} {st : List Value} {h : gm_H} {Q : gm_R → gm_H → Prop} {lv : List Value} {b0 : Value} {Qc : gm_R → gm_H → Prop} (hs : (st.map fun v => v.category).sum ≤ 8) (he : (gm_en1 [b0]).length ≤ 1) (hd : 1 ≤ d) (hc : gm_Ca E (d - 1) 91 [b0] h Qc) (kn : ∀ (v9 : Option Value) (h9 : gm_H), Qc (.inl v9) h9 → gm_W E d 90 161 lv (v9.toList ++ st) h9 Q) (kx : ∀ (x9 : Nat) (h9 : gm_H), Qc (.inr x9) h9 → Q (.inr x9) h9) : gm_W E d 90 158 lv (b0 :: st) h Q := gw_call (gn_call m90 f90_158 rfl rfl rfl rfl rfl rfl rfl (gc_stat (bs := [b0]) (w := 590) (L := 1) rfl rfl rfl hs he) (by decide)) m90 rfl rfl hd hc kn kx
theorem f90_161 : gm_ft 90 161 = some (.ifCond .ne 10, 3) := by decide +kernel
theorem r90_161 {E : Nat → Value} {d : Nat} {st : List Value} {h : gm_H} {Q : gm_R → gm_H → Prop} {lv : List Value} {x : Int32} : gm_W E d 90 161 lv (.int x :: st) h Q ↔ (if x = 0 then gm_W E d 90 164 lv st h Q else gm_W E d 90 171 lv st h Q) := (gw_br m90 f90_161 rfl rfl rfl rfl).trans gw_ifn
theorem f90_164 : gm_ft 90 164 = some (.aload_n 0, 1) := by decide +kernel
theorem r90_164 {E : Nat → Value} {d : Nat} {st : List Value} {h : gm_H} {Q : gm_R → gm_H → Prop} {a1 a2 a3 a4 a5 a6 a7 : Value} {x : Nat} : gm_W E d 90 164 [.ref x, a1, a2, a3, a4, a5, a6, a7] st h Q ↔ gm_W E d 90 165 [.ref x, a1, a2, a3, a4, a5, a6, a7] (.ref x :: st) h Q := gw_loc m90 f90_164 rfl rfl
theorem r90_164n {E : Nat → Value} {d : Nat} {st : List Value} {h : gm_H} {Q : gm_R → gm_H → Prop} {a1 a2 a3 a4 a5 a6 a7 : Value}  : gm_W E d 90 164 [.null, a1, a2, a3, a4, a5, a6, a7] st h Q ↔ gm_W E d 90 165 [.null, a1, a2, a3, a4, a5, a6, a7] (.null :: st) h Q := gw_loc m90 f90_164 rfl rfl
theorem f90_165 : gm_ft 90 165 = some (.bipush (-6), 2) := by decide +kernel
theorem r90_165 {E : Nat → Value} {d : Nat} {st : List Value} {h : gm_H} {Q : gm_R → gm_H → Prop} {lv : List Value} : gm_W E d 90 165 lv st h Q ↔ gm_W E d 90 167 lv (.int (-6 : Int32) :: st) h Q := gw_pure m90 f90_165 rfl
theorem f90_167 : gm_ft 90 167 = some (.invokevirtual 160, 3) := by decide +kernel
theorem c90_167 {E : Nat → Value} {d : Nat} {st : List Value} {h : gm_H} {Q : gm_R → gm_H → Prop} {lv : List Value} {b0 : Int32} {a : Nat} {Qc : gm_R → gm_H → Prop} (hs : (st.map fun v => v.category).sum ≤ 8) (hr : gm_kd h a = 0) (hd : 1 ≤ d) (hc : gm_Ca E (d - 1) 66 [.ref a, .int b0] h Qc) (kn : ∀ (v9 : Option Value) (h9 : gm_H), Qc (.inl v9) h9 → gm_W E d 90 170 lv (v9.toList ++ st) h9 Q) (kx : ∀ (x9 : Nat) (h9 : gm_H), Qc (.inr x9) h9 → Q (.inr x9) h9) : gm_W E d 90 167 lv (.int b0 :: .ref a :: st) h Q := gw_call (gn_call m90 f90_167 rfl rfl rfl rfl rfl rfl rfl (gs_virt (bs := [.int b0]) (w := 206) (L := 2) rfl rfl rfl rfl hs (by simp [gm_en1]) hr (by decide)) (by decide)) m90 rfl rfl hd hc kn kx
theorem f90_170 : gm_ft 90 170 = some (.ireturn, 1) := by decide +kernel
theorem r90_170 {E : Nat → Value} {d : Nat} {h : gm_H} {Q : gm_R → gm_H → Prop} {lv : List Value} {x : Int32} : gm_W E d 90 170 lv [.int x] h Q ↔ Q (.inl (some (.int x))) h := gw_ret m90 f90_170 rfl rfl rfl rfl rfl rfl rfl rfl (by unfold gm_rt; dsimp only; rw [if_pos ⟨rfl, rfl⟩])
theorem f90_171 : gm_ft 90 171 = some (.aload_n 0, 1) := by decide +kernel
theorem r90_171 {E : Nat → Value} {d : Nat} {st : List Value} {h : gm_H} {Q : gm_R → gm_H → Prop} {a1 a2 a3 a4 a5 a6 a7 : Value} {x : Nat} : gm_W E d 90 171 [.ref x, a1, a2, a3, a4, a5, a6, a7] st h Q ↔ gm_W E d 90 172 [.ref x, a1, a2, a3, a4, a5, a6, a7] (.ref x :: st) h Q := gw_loc m90 f90_171 rfl rfl
theorem r90_171n {E : Nat → Value} {d : Nat} {st : List Value} {h : gm_H} {Q : gm_R → gm_H → Prop} {a1 a2 a3 a4 a5 a6 a7 : Value}  : gm_W E d 90 171 [.null, a1, a2, a3, a4, a5, a6, a7] st h Q ↔ gm_W E d 90 172 [.null, a1, a2, a3, a4, a5, a6, a7] (.null :: st) h Q := gw_loc m90 f90_171 rfl rfl
theorem f90_172 : gm_ft 90 172 = some (.getfield 28, 3) := by decide +kernel
theorem r90_172 {E : Nat → Value} {d : Nat} {st : List Value} {h : gm_H} {Q : gm_R → gm_H → Prop} {lv : List Value} {a : Nat} (hk : gm_kd h a = 0) : gm_W E d 90 172 lv (.ref a :: st) h Q ↔ gm_W E d 90 175 lv (gm_fv h a 10 :: st) h Q := gw_rd m90 f90_172 rfl rfl rfl rfl (gs_get k0_28 hk (by decide))
theorem f90_175 : gm_ft 90 175 = some (.getfield 215, 3) := by decide +kernel
theorem r90_175 {E : Nat → Value} {d : Nat} {st : List Value} {h : gm_H} {Q : gm_R → gm_H → Prop} {lv : List Value} {a : Nat} (hk : gm_kd h a = 2) : gm_W E d 90 175 lv (.ref a :: st) h Q ↔ gm_W E d 90 178 lv (gm_fv h a 0 :: st) h Q := gw_rd m90 f90_175 rfl rfl rfl rfl (gs_get k0_215 hk (by decide))
theorem f90_178 : gm_ft 90 178 = some (.iload 6, 2) := by decide +kernel
theorem r90_178 {E : Nat → Value} {d : Nat} {st : List Value} {h : gm_H} {Q : gm_R → gm_H → Prop} {a0 a1 a2 a3 a4 a5 a7 : Value} {x : Int32} : gm_W E d 90 178 [a0, a1, a2, a3, a4, a5, .int x, a7] st h Q ↔ gm_W E d 90 180 [a0, a1, a2, a3, a4, a5, .int x, a7] (.int x :: st) h Q := gw_loc m90 f90_178 rfl rfl
theorem f90_180 : gm_ft 90 180 = some (.iload 5, 2) := by decide +kernel
theorem r90_180 {E : Nat → Value} {d : Nat} {st : List Value} {h : gm_H} {Q : gm_R → gm_H → Prop} {a0 a1 a2 a3 a4 a6 a7 : Value} {x : Int32} : gm_W E d 90 180 [a0, a1, a2, a3, a4, .int x, a6, a7] st h Q ↔ gm_W E d 90 182 [a0, a1, a2, a3, a4, .int x, a6, a7] (.int x :: st) h Q := gw_loc m90 f90_180 rfl rfl
theorem f90_182 : gm_ft 90 182 = some (.iastore, 1) := by decide +kernel
theorem r90_182 {E : Nat → Value} {d : Nat} {st : List Value} {h : gm_H} {Q : gm_R → gm_H → Prop} {lv : List Value} {a j : Nat} {x : Int32} (hk : gm_kd h a = 100) (hj : j < gm_ln h a) (hl : gm_ln h a < 2 ^ 31) : gm_W E d 90 182 lv (.int x :: .int (nI j) :: .ref a :: st) h Q ↔ gm_W E d 90 183 lv st (gm_sf h a j (.int x)) Q := gw_wr m90 f90_182 rfl rfl rfl rfl rfl (gs_st hk (by decide) hj hl)
theorem f90_183 : gm_ft 90 183 = some (.iload 5, 2) := by decide +kernel
theorem r90_183 {E : Nat → Value} {d : Nat} {st : List Value} {h : gm_H} {Q : gm_R → gm_H → Prop} {a0 a1 a2 a3 a4 a6 a7 : Value} {x : Int32} : gm_W E d 90 183 [a0, a1, a2, a3, a4, .int x, a6, a7] st h Q ↔ gm_W E d 90 185 [a0, a1, a2, a3, a4, .int x, a6, a7] (.int x :: st) h Q := gw_loc m90 f90_183 rfl rfl
theorem f90_185 : gm_ft 90 185 = some (.ireturn, 1) := by decide +kernel
theorem r90_185 {E : Nat → Value} {d : Nat} {h : gm_H} {Q : gm_R → gm_H → Prop} {lv : List Value} {x : Int32} : gm_W E d 90 185 lv [.int x] h Q ↔ Q (.inl (some (.int x))) h := gw_ret m90 f90_185 rfl rfl rfl rfl rfl rfl rfl rfl (by unfold gm_rt; dsimp only; rw [if_pos ⟨rfl, rfl⟩])
