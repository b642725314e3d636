/-! GraphReaderModel.stepDescriptor(I)V -/
theorem m37 : gm_mt[37]? = some (⟨"GraphReaderModel", "stepDescriptor", "(I)V"⟩, prog_7_method_36_code, 2, none, [], 5, 2) := rfl
theorem f37_0 : gm_ft 37 0 = some (.aload_n 0, 1) := by decide +kernel
theorem r37_0 {E : Nat → Value} {d : Nat} {st : List Value} {h : gm_H} {Q : gm_R → gm_H → Prop} {a1 : Value} {x : Nat} : gm_W E d 37 0 [.ref x, a1] st h Q ↔ gm_W E d 37 1 [.ref x, a1] (.ref x :: st) h Q := gw_loc m37 f37_0 rfl rfl
theorem r37_0n {E : Nat → Value} {d : Nat} {st : List Value} {h : gm_H} {Q : gm_R → gm_H → Prop} {a1 : Value}  : gm_W E d 37 0 [.null, a1] st h Q ↔ gm_W E d 37 1 [.null, a1] (.null :: st) h Q := gw_loc m37 f37_0 rfl rfl
theorem f37_1 : gm_ft 37 1 = some (.getfield 96, 3) := by decide +kernel
theorem r37_1 {E : Nat → Value} {d : Nat} {st : List Value} {h : gm_H} {Q : gm_R → gm_H → Prop} {lv : List Value} {a : Nat} (hk : gm_kd h a = 5) : gm_W E d 37 1 lv (.ref a :: st) h Q ↔ gm_W E d 37 4 lv (gm_fv h a 41 :: st) h Q := gw_rd m37 f37_1 rfl rfl rfl rfl (gs_get k5_96 hk (by decide))
theorem f37_4 : gm_ft 37 4 = some (.iload_n 1, 1) := by decide +kernel
theorem r37_4 {E : Nat → Value} {d : Nat} {st : List Value} {h : gm_H} {Q : gm_R → gm_H → Prop} {a0 : Value} {x : Int32} : gm_W E d 37 4 [a0, .int x] st h Q ↔ gm_W E d 37 5 [a0, .int x] (.int x :: st) h Q := gw_loc m37 f37_4 rfl rfl
theorem f37_5 : gm_ft 37 5 = some (.iaload, 1) := by decide +kernel
theorem r37_5 {E : Nat → Value} {d : Nat} {st : List Value} {h : gm_H} {Q : gm_R → gm_H → Prop} {lv : List Value} {a j : Nat} (hk : gm_kd h a % 100 = 0 ∧ 100 ≤ gm_kd h a ∧ gm_kd h a < 900) (hj : j < gm_ln h a) (hl : gm_ln h a < 2 ^ 31) : gm_W E d 37 5 lv (.int (nI j) :: .ref a :: st) h Q ↔ gm_W E d 37 6 lv (gm_fv h a j :: st) h Q := gw_rd m37 f37_5 rfl rfl rfl rfl (gs_ld (P := fun t => t == 0) hk.2 (by have := hk.1; simp [this] <;> omega) hj hl)
theorem f37_6 : gm_ft 37 6 = some (.tableswitch 112 0 3 #[30, 38, 46, 82], 30) := by decide +kernel
theorem e37_6d {E : Nat → Value} {d : Nat} {st : List Value} {h : gm_H} {Q : gm_R → gm_H → Prop} {lv : List Value} {x : Int32} (hx : x.toInt < 0 ∨ 3 < x.toInt) : gm_W E d 37 6 lv (.int x :: st) h Q ↔ gm_W E d 37 118 lv st h Q := gw_sw m37 f37_6 rfl rfl rfl (by unfold gm_sw; dsimp only; rw [if_pos hx]) rfl
theorem r37_6 {E : Nat → Value} {d : Nat} {st : List Value} {h : gm_H} {Q : gm_R → gm_H → Prop} {lv : List Value} {x : Int32} : gm_W E d 37 6 lv (.int x :: st) h Q ↔ (if x = (0 : Int32) then gm_W E d 37 36 lv st h Q else (if x = (1 : Int32) then gm_W E d 37 44 lv st h Q else (if x = (2 : Int32) then gm_W E d 37 52 lv st h Q else (if x = (3 : Int32) then gm_W E d 37 88 lv st h Q else gm_W E d 37 118 lv st h Q)))) := by
  by_cases z0 : x = (0 : Int32)
  · subst z0; rw [gw_sw m37 f37_6 rfl rfl rfl rfl rfl]; simp
  rw [if_neg z0]
  by_cases z1 : x = (1 : Int32)
  · subst z1; rw [gw_sw m37 f37_6 rfl rfl rfl rfl rfl]; simp
  rw [if_neg z1]
  by_cases z2 : x = (2 : Int32)
  · subst z2; rw [gw_sw m37 f37_6 rfl rfl rfl rfl rfl]; simp
  rw [if_neg z2]
  by_cases z3 : x = (3 : Int32)
  · subst z3; rw [gw_sw m37 f37_6 rfl rfl rfl rfl rfl]; simp
  rw [if_neg z3]
  exact e37_6d (gm_tsw (n := 4) (by decide) (by decide) (fun k hk => by
    have hk : k < 4 := hk
    match k, hk with
    | 0, _ => exact z0
    | 1, _ => exact z1
    | 2, _ => exact z2
    | 3, _ => exact z3
    | k + 4, hk => omega))
theorem f37_36 : gm_ft 37 36 = some (.aload_n 0, 1) := by decide +kernel
theorem r37_36 {E : Nat → Value} {d : Nat} {st : List Value} {h : gm_H} {Q : gm_R → gm_H → Prop} {a1 : Value} {x : Nat} : gm_W E d 37 36 [.ref x, a1] st h Q ↔ gm_W E d 37 37 [.ref x, a1] (.ref x :: st) h Q := gw_loc m37 f37_36 rfl rfl
theorem r37_36n {E : Nat → Value} {d : Nat} {st : List Value} {h : gm_H} {Q : gm_R → gm_H → Prop} {a1 : Value}  : gm_W E d 37 36 [.null, a1] st h Q ↔ gm_W E d 37 37 [.null, a1] (.null :: st) h Q := gw_loc m37 f37_36 rfl rfl
theorem f37_37 : gm_ft 37 37 = some (.iload_n 1, 1) := by decide +kernel
theorem r37_37 {E : Nat → Value} {d : Nat} {st : List Value} {h : gm_H} {Q : gm_R → gm_H → Prop} {a0 : Value} {x : Int32} : gm_W E d 37 37 [a0, .int x] st h Q ↔ gm_W E d 37 38 [a0, .int x] (.int x :: st) h Q := gw_loc m37 f37_37 rfl rfl
theorem f37_38 : gm_ft 37 38 = some (.invokevirtual 251, 3) := by decide +kernel
theorem c37_38 {E : Nat → Value} {d : Nat} {st : List Value} {h : gm_H} {Q : gm_R → gm_H → Prop} {lv : List Value} {b0 : Int32} {a : Nat} {Qc : gm_R → gm_H → Prop} (hs : (st.map fun v => v.category).sum ≤ 8) (hr : gm_kd h a = 5) (hd : 1 ≤ d) (hc : gm_Ca E (d - 1) 32 [.ref a, .int b0] h Qc) (kn : ∀ (v9 : Option Value) (h9 : gm_H), Qc (.inl v9) h9 → gm_W E d 37 41 lv (v9.toList ++ st) h9 Q) (kx : ∀ (x9 : Nat) (h9 : gm_H), Qc (.inr x9) h9 → Q (.inr x9) h9) : gm_W E d 37 38 lv (.int b0 :: .ref a :: st) h Q := gw_call (gn_call m37 f37_38 rfl rfl rfl rfl rfl rfl rfl (gs_virt (bs := [.int b0]) (w := 935) (L := 11) rfl rfl rfl rfl hs (by simp [gm_en1]) hr (by decide)) (by decide)) m37 rfl rfl hd hc kn kx
theorem f37_41 : gm_ft 37 41 = some (.goto 82, 3) := by decide +kernel
theorem r37_41 {E : Nat → Value} {d : Nat} {st : List Value} {h : gm_H} {Q : gm_R → gm_H → Prop} {lv : List Value} : gm_W E d 37 41 lv st h Q ↔ gm_W E d 37 123 lv st h Q := gw_brT m37 f37_41 rfl rfl rfl rfl
theorem f37_44 : gm_ft 37 44 = some (.aload_n 0, 1) := by decide +kernel
theorem r37_44 {E : Nat → Value} {d : Nat} {st : List Value} {h : gm_H} {Q : gm_R → gm_H → Prop} {a1 : Value} {x : Nat} : gm_W E d 37 44 [.ref x, a1] st h Q ↔ gm_W E d 37 45 [.ref x, a1] (.ref x :: st) h Q := gw_loc m37 f37_44 rfl rfl
theorem r37_44n {E : Nat → Value} {d : Nat} {st : List Value} {h : gm_H} {Q : gm_R → gm_H → Prop} {a1 : Value}  : gm_W E d 37 44 [.null, a1] st h Q ↔ gm_W E d 37 45 [.null, a1] (.null :: st) h Q := gw_loc m37 f37_44 rfl rfl
theorem f37_45 : gm_ft 37 45 = some (.iload_n 1, 1) := by decide +kernel
theorem r37_45 {E : Nat → Value} {d : Nat} {st : List Value} {h : gm_H} {Q : gm_R → gm_H → Prop} {a0 : Value} {x : Int32} : gm_W E d 37 45 [a0, .int x] st h Q ↔ gm_W E d 37 46 [a0, .int x] (.int x :: st) h Q := gw_loc m37 f37_45 rfl rfl
theorem f37_46 : gm_ft 37 46 = some (.invokevirtual 254, 3) := by decide +kernel
theorem c37_46 {E : Nat → Value} {d : Nat} {st : List Value} {h : gm_H} {Q : gm_R → gm_H → Prop} {lv : List Value} {b0 : Int32} {a : Nat} {Qc : gm_R → gm_H → Prop} (hs : (st.map fun v => v.category).sum ≤ 8) (hr : gm_kd h a = 5) (hd : 1 ≤ d) (hc : gm_Ca E (d - 1) 34 [.ref a, .int b0] h Qc) (kn : ∀ (v9 : Option Value) (h9 : gm_H), Qc (.inl v9) h9 → gm_W E d 37 49 lv (v9.toList ++ st) h9 Q) (kx : ∀ (x9 : Nat) (h9 : gm_H), Qc (.inr x9) h9 → Q (.inr x9) h9) : gm_W E d 37 46 lv (.int b0 :: .ref a :: st) h Q := gw_call (gn_call m37 f37_46 rfl rfl rfl rfl rfl rfl rfl (gs_virt (bs := [.int b0]) (w := 945) (L := 6) rfl rfl rfl rfl hs (by simp [gm_en1]) hr (by decide)) (by decide)) m37 rfl rfl hd hc kn kx
theorem f37_49 : gm_ft 37 49 = some (.goto 74, 3) := by decide +kernel
theorem r37_49 {E : Nat → Value} {d : Nat} {st : List Value} {h : gm_H} {Q : gm_R → gm_H → Prop} {lv : List Value} : gm_W E d 37 49 lv st h Q ↔ gm_W E d 37 123 lv st h Q := gw_brT m37 f37_49 rfl rfl rfl rfl
theorem f37_52 : gm_ft 37 52 = some (.aload_n 0, 1) := by decide +kernel
theorem r37_52 {E : Nat → Value} {d : Nat} {st : List Value} {h : gm_H} {Q : gm_R → gm_H → Prop} {a1 : Value} {x : Nat} : gm_W E d 37 52 [.ref x, a1] st h Q ↔ gm_W E d 37 53 [.ref x, a1] (.ref x :: st) h Q := gw_loc m37 f37_52 rfl rfl
theorem r37_52n {E : Nat → Value} {d : Nat} {st : List Value} {h : gm_H} {Q : gm_R → gm_H → Prop} {a1 : Value}  : gm_W E d 37 52 [.null, a1] st h Q ↔ gm_W E d 37 53 [.null, a1] (.null :: st) h Q := gw_loc m37 f37_52 rfl rfl
theorem f37_53 : gm_ft 37 53 = some (.getfield 178, 3) := by decide +kernel
theorem r37_53 {E : Nat → Value} {d : Nat} {st : List Value} {h : gm_H} {Q : gm_R → gm_H → Prop} {lv : List Value} {a : Nat} (hk : gm_kd h a = 5) : gm_W E d 37 53 lv (.ref a :: st) h Q ↔ gm_W E d 37 56 lv (gm_fv h a 9 :: st) h Q := gw_rd m37 f37_53 rfl rfl rfl rfl (gs_get k5_178 hk (by decide))
theorem f37_56 : gm_ft 37 56 = some (.ifCond .lt 16, 3) := by decide +kernel
theorem r37_56 {E : Nat → Value} {d : Nat} {st : List Value} {h : gm_H} {Q : gm_R → gm_H → Prop} {lv : List Value} {x : Int32} : gm_W E d 37 56 lv (.int x :: st) h Q ↔ (if x < 0 then gm_W E d 37 72 lv st h Q else gm_W E d 37 59 lv st h Q) := (gw_br m37 f37_56 rfl rfl rfl rfl).trans gw_if
theorem f37_59 : gm_ft 37 59 = some (.aload_n 0, 1) := by decide +kernel
theorem r37_59 {E : Nat → Value} {d : Nat} {st : List Value} {h : gm_H} {Q : gm_R → gm_H → Prop} {a1 : Value} {x : Nat} : gm_W E d 37 59 [.ref x, a1] st h Q ↔ gm_W E d 37 60 [.ref x, a1] (.ref x :: st) h Q := gw_loc m37 f37_59 rfl rfl
theorem r37_59n {E : Nat → Value} {d : Nat} {st : List Value} {h : gm_H} {Q : gm_R → gm_H → Prop} {a1 : Value}  : gm_W E d 37 59 [.null, a1] st h Q ↔ gm_W E d 37 60 [.null, a1] (.null :: st) h Q := gw_loc m37 f37_59 rfl rfl
theorem f37_60 : gm_ft 37 60 = some (.getfield 39, 3) := by decide +kernel
theorem r37_60 {E : Nat → Value} {d : Nat} {st : List Value} {h : gm_H} {Q : gm_R → gm_H → Prop} {lv : List Value} {a : Nat} (hk : gm_kd h a = 5) : gm_W E d 37 60 lv (.ref a :: st) h Q ↔ gm_W E d 37 63 lv (gm_fv h a 18 :: st) h Q := gw_rd m37 f37_60 rfl rfl rfl rfl (gs_get k5_39 hk (by decide))
theorem f37_63 : gm_ft 37 63 = some (.aload_n 0, 1) := by decide +kernel
theorem r37_63 {E : Nat → Value} {d : Nat} {st : List Value} {h : gm_H} {Q : gm_R → gm_H → Prop} {a1 : Value} {x : Nat} : gm_W E d 37 63 [.ref x, a1] st h Q ↔ gm_W E d 37 64 [.ref x, a1] (.ref x :: st) h Q := gw_loc m37 f37_63 rfl rfl
theorem r37_63n {E : Nat → Value} {d : Nat} {st : List Value} {h : gm_H} {Q : gm_R → gm_H → Prop} {a1 : Value}  : gm_W E d 37 63 [.null, a1] st h Q ↔ gm_W E d 37 64 [.null, a1] (.null :: st) h Q := gw_loc m37 f37_63 rfl rfl
theorem f37_64 : gm_ft 37 64 = some (.getfield 178, 3) := by decide +kernel
theorem r37_64 {E : Nat → Value} {d : Nat} {st : List Value} {h : gm_H} {Q : gm_R → gm_H → Prop} {lv : List Value} {a : Nat} (hk : gm_kd h a = 5) : gm_W E d 37 64 lv (.ref a :: st) h Q ↔ gm_W E d 37 67 lv (gm_fv h a 9 :: st) h Q := gw_rd m37 f37_64 rfl rfl rfl rfl (gs_get k5_178 hk (by decide))
theorem f37_67 : gm_ft 37 67 = some (.iaload, 1) := by decide +kernel
theorem r37_67 {E : Nat → Value} {d : Nat} {st : List Value} {h : gm_H} {Q : gm_R → gm_H → Prop} {lv : List Value} {a j : Nat} (hk : gm_kd h a % 100 = 0 ∧ 100 ≤ gm_kd h a ∧ gm_kd h a < 900) (hj : j < gm_ln h a) (hl : gm_ln h a < 2 ^ 31) : gm_W E d 37 67 lv (.int (nI j) :: .ref a :: st) h Q ↔ gm_W E d 37 68 lv (gm_fv h a j :: st) h Q := gw_rd m37 f37_67 rfl rfl rfl rfl (gs_ld (P := fun t => t == 0) hk.2 (by have := hk.1; simp [this] <;> omega) hj hl)
theorem f37_68 : gm_ft 37 68 = some (.iconst 1, 1) := by decide +kernel
theorem r37_68 {E : Nat → Value} {d : Nat} {st : List Value} {h : gm_H} {Q : gm_R → gm_H → Prop} {lv : List Value} : gm_W E d 37 68 lv st h Q ↔ gm_W E d 37 69 lv (.int (1 : Int32) :: st) h Q := gw_pure m37 f37_68 rfl
theorem f37_69 : gm_ft 37 69 = some (.if_icmp .eq 9, 3) := by decide +kernel
theorem r37_69 {E : Nat → Value} {d : Nat} {st : List Value} {h : gm_H} {Q : gm_R → gm_H → Prop} {lv : List Value} {x y : Int32} : gm_W E d 37 69 lv (.int y :: .int x :: st) h Q ↔ (if x = y then gm_W E d 37 78 lv st h Q else gm_W E d 37 72 lv st h Q) := (gw_br m37 f37_69 rfl rfl rfl rfl).trans gw_if
theorem f37_72 : gm_ft 37 72 = some (.aload_n 0, 1) := by decide +kernel
theorem r37_72 {E : Nat → Value} {d : Nat} {st : List Value} {h : gm_H} {Q : gm_R → gm_H → Prop} {a1 : Value} {x : Nat} : gm_W E d 37 72 [.ref x, a1] st h Q ↔ gm_W E d 37 73 [.ref x, a1] (.ref x :: st) h Q := gw_loc m37 f37_72 rfl rfl
theorem r37_72n {E : Nat → Value} {d : Nat} {st : List Value} {h : gm_H} {Q : gm_R → gm_H → Prop} {a1 : Value}  : gm_W E d 37 72 [.null, a1] st h Q ↔ gm_W E d 37 73 [.null, a1] (.null :: st) h Q := gw_loc m37 f37_72 rfl rfl
theorem f37_73 : gm_ft 37 73 = some (.bipush (-4), 2) := by decide +kernel
theorem r37_73 {E : Nat → Value} {d : Nat} {st : List Value} {h : gm_H} {Q : gm_R → gm_H → Prop} {lv : List Value} : gm_W E d 37 73 lv st h Q ↔ gm_W E d 37 75 lv (.int (-4 : Int32) :: st) h Q := gw_pure m37 f37_73 rfl
theorem f37_75 : gm_ft 37 75 = some (.invokevirtual 151, 3) := by decide +kernel
theorem c37_75 {E : Nat → Value} {d : Nat} {st : List Value} {h : gm_H} {Q : gm_R → gm_H → Prop} {lv : List Value} {b0 : Int32} {a : Nat} {Qc : gm_R → gm_H → Prop} (hs : (st.map fun v => v.category).sum ≤ 8) (hr : gm_kd h a = 5) (hd : 1 ≤ d) (hc : gm_Ca E (d - 1) 10 [.ref a, .int b0] h Qc) (kn : ∀ (v9 : Option Value) (h9 : gm_H), Qc (.inl v9) h9 → gm_W E d 37 78 lv (v9.toList ++ st) h9 Q) (kx : ∀ (x9 : Nat) (h9 : gm_H), Qc (.inr x9) h9 → Q (.inr x9) h9) : gm_W E d 37 75 lv (.int b0 :: .ref a :: st) h Q := gw_call (gn_call m37 f37_75 rfl rfl rfl rfl rfl rfl rfl (gs_virt (bs := [.int b0]) (w := 844) (L := 2) rfl rfl rfl rfl hs (by simp [gm_en1]) hr (by decide)) (by decide)) m37 rfl rfl hd hc kn kx
theorem f37_78 : gm_ft 37 78 = some (.aload_n 0, 1) := by decide +kernel
theorem r37_78 {E : Nat → Value} {d : Nat} {st : List Value} {h : gm_H} {Q : gm_R → gm_H → Prop} {a1 : Value} {x : Nat} : gm_W E d 37 78 [.ref x, a1] st h Q ↔ gm_W E d 37 79 [.ref x, a1] (.ref x :: st) h Q := gw_loc m37 f37_78 rfl rfl
theorem r37_78n {E : Nat → Value} {d : Nat} {st : List Value} {h : gm_H} {Q : gm_R → gm_H → Prop} {a1 : Value}  : gm_W E d 37 78 [.null, a1] st h Q ↔ gm_W E d 37 79 [.null, a1] (.null :: st) h Q := gw_loc m37 f37_78 rfl rfl
theorem f37_79 : gm_ft 37 79 = some (.getfield 96, 3) := by decide +kernel
theorem r37_79 {E : Nat → Value} {d : Nat} {st : List Value} {h : gm_H} {Q : gm_R → gm_H → Prop} {lv : List Value} {a : Nat} (hk : gm_kd h a = 5) : gm_W E d 37 79 lv (.ref a :: st) h Q ↔ gm_W E d 37 82 lv (gm_fv h a 41 :: st) h Q := gw_rd m37 f37_79 rfl rfl rfl rfl (gs_get k5_96 hk (by decide))
theorem f37_82 : gm_ft 37 82 = some (.iload_n 1, 1) := by decide +kernel
theorem r37_82 {E : Nat → Value} {d : Nat} {st : List Value} {h : gm_H} {Q : gm_R → gm_H → Prop} {a0 : Value} {x : Int32} : gm_W E d 37 82 [a0, .int x] st h Q ↔ gm_W E d 37 83 [a0, .int x] (.int x :: st) h Q := gw_loc m37 f37_82 rfl rfl
theorem f37_83 : gm_ft 37 83 = some (.iconst 1, 1) := by decide +kernel
theorem r37_83 {E : Nat → Value} {d : Nat} {st : List Value} {h : gm_H} {Q : gm_R → gm_H → Prop} {lv : List Value} : gm_W E d 37 83 lv st h Q ↔ gm_W E d 37 84 lv (.int (1 : Int32) :: st) h Q := gw_pure m37 f37_83 rfl
theorem f37_84 : gm_ft 37 84 = some (.iastore, 1) := by decide +kernel
theorem r37_84 {E : Nat → Value} {d : Nat} {st : List Value} {h : gm_H} {Q : gm_R → gm_H → Prop} {lv : List Value} {a j : Nat} {x : Int32} (hk : gm_kd h a = 200) (hj : j < gm_ln h a) (hl : gm_ln h a < 2 ^ 31) : gm_W E d 37 84 lv (.int x :: .int (nI j) :: .ref a :: st) h Q ↔ gm_W E d 37 85 lv st (gm_sf h a j (.int x)) Q := gw_wr m37 f37_84 rfl rfl rfl rfl rfl (gs_st hk (by decide) hj hl)
theorem f37_85 : gm_ft 37 85 = some (.goto 38, 3) := by decide +kernel
theorem r37_85 {E : Nat → Value} {d : Nat} {st : List Value} {h : gm_H} {Q : gm_R → gm_H → Prop} {lv : List Value} : gm_W E d 37 85 lv st h Q ↔ gm_W E d 37 123 lv st h Q := gw_brT m37 f37_85 rfl rfl rfl rfl
theorem f37_88 : gm_ft 37 88 = some (.aload_n 0, 1) := by decide +kernel
theorem r37_88 {E : Nat → Value} {d : Nat} {st : List Value} {h : gm_H} {Q : gm_R → gm_H → Prop} {a1 : Value} {x : Nat} : gm_W E d 37 88 [.ref x, a1] st h Q ↔ gm_W E d 37 89 [.ref x, a1] (.ref x :: st) h Q := gw_loc m37 f37_88 rfl rfl
theorem r37_88n {E : Nat → Value} {d : Nat} {st : List Value} {h : gm_H} {Q : gm_R → gm_H → Prop} {a1 : Value}  : gm_W E d 37 88 [.null, a1] st h Q ↔ gm_W E d 37 89 [.null, a1] (.null :: st) h Q := gw_loc m37 f37_88 rfl rfl
theorem f37_89 : gm_ft 37 89 = some (.getfield 96, 3) := by decide +kernel
theorem r37_89 {E : Nat → Value} {d : Nat} {st : List Value} {h : gm_H} {Q : gm_R → gm_H → Prop} {lv : List Value} {a : Nat} (hk : gm_kd h a = 5) : gm_W E d 37 89 lv (.ref a :: st) h Q ↔ gm_W E d 37 92 lv (gm_fv h a 41 :: st) h Q := gw_rd m37 f37_89 rfl rfl rfl rfl (gs_get k5_96 hk (by decide))
theorem f37_92 : gm_ft 37 92 = some (.iload_n 1, 1) := by decide +kernel
theorem r37_92 {E : Nat → Value} {d : Nat} {st : List Value} {h : gm_H} {Q : gm_R → gm_H → Prop} {a0 : Value} {x : Int32} : gm_W E d 37 92 [a0, .int x] st h Q ↔ gm_W E d 37 93 [a0, .int x] (.int x :: st) h Q := gw_loc m37 f37_92 rfl rfl
theorem f37_93 : gm_ft 37 93 = some (.iconst 4, 1) := by decide +kernel
theorem r37_93 {E : Nat → Value} {d : Nat} {st : List Value} {h : gm_H} {Q : gm_R → gm_H → Prop} {lv : List Value} : gm_W E d 37 93 lv st h Q ↔ gm_W E d 37 94 lv (.int (4 : Int32) :: st) h Q := gw_pure m37 f37_93 rfl
theorem f37_94 : gm_ft 37 94 = some (.iastore, 1) := by decide +kernel
theorem r37_94 {E : Nat → Value} {d : Nat} {st : List Value} {h : gm_H} {Q : gm_R → gm_H → Prop} {lv : List Value} {a j : Nat} {x : Int32} (hk : gm_kd h a = 200) (hj : j < gm_ln h a) (hl : gm_ln h a < 2 ^ 31) : gm_W E d 37 94 lv (.int x :: .int (nI j) :: .ref a :: st) h Q ↔ gm_W E d 37 95 lv st (gm_sf h a j (.int x)) Q := gw_wr m37 f37_94 rfl rfl rfl rfl rfl (gs_st hk (by decide) hj hl)
theorem f37_95 : gm_ft 37 95 = some (.aload_n 0, 1) := by decide +kernel
theorem r37_95 {E : Nat → Value} {d : Nat} {st : List Value} {h : gm_H} {Q : gm_R → gm_H → Prop} {a1 : Value} {x : Nat} : gm_W E d 37 95 [.ref x, a1] st h Q ↔ gm_W E d 37 96 [.ref x, a1] (.ref x :: st) h Q := gw_loc m37 f37_95 rfl rfl
theorem r37_95n {E : Nat → Value} {d : Nat} {st : List Value} {h : gm_H} {Q : gm_R → gm_H → Prop} {a1 : Value}  : gm_W E d 37 95 [.null, a1] st h Q ↔ gm_W E d 37 96 [.null, a1] (.null :: st) h Q := gw_loc m37 f37_95 rfl rfl
theorem f37_96 : gm_ft 37 96 = some (.iconst 2, 1) := by decide +kernel
theorem r37_96 {E : Nat → Value} {d : Nat} {st : List Value} {h : gm_H} {Q : gm_R → gm_H → Prop} {lv : List Value} : gm_W E d 37 96 lv st h Q ↔ gm_W E d 37 97 lv (.int (2 : Int32) :: st) h Q := gw_pure m37 f37_96 rfl
theorem f37_97 : gm_ft 37 97 = some (.aload_n 0, 1) := by decide +kernel
theorem r37_97 {E : Nat → Value} {d : Nat} {st : List Value} {h : gm_H} {Q : gm_R → gm_H → Prop} {a1 : Value} {x : Nat} : gm_W E d 37 97 [.ref x, a1] st h Q ↔ gm_W E d 37 98 [.ref x, a1] (.ref x :: st) h Q := gw_loc m37 f37_97 rfl rfl
theorem r37_97n {E : Nat → Value} {d : Nat} {st : List Value} {h : gm_H} {Q : gm_R → gm_H → Prop} {a1 : Value}  : gm_W E d 37 97 [.null, a1] st h Q ↔ gm_W E d 37 98 [.null, a1] (.null :: st) h Q := gw_loc m37 f37_97 rfl rfl
theorem f37_98 : gm_ft 37 98 = some (.getfield 99, 3) := by decide +kernel
theorem r37_98 {E : Nat → Value} {d : Nat} {st : List Value} {h : gm_H} {Q : gm_R → gm_H → Prop} {lv : List Value} {a : Nat} (hk : gm_kd h a = 5) : gm_W E d 37 98 lv (.ref a :: st) h Q ↔ gm_W E d 37 101 lv (gm_fv h a 42 :: st) h Q := gw_rd m37 f37_98 rfl rfl rfl rfl (gs_get k5_99 hk (by decide))
theorem f37_101 : gm_ft 37 101 = some (.iload_n 1, 1) := by decide +kernel
theorem r37_101 {E : Nat → Value} {d : Nat} {st : List Value} {h : gm_H} {Q : gm_R → gm_H → Prop} {a0 : Value} {x : Int32} : gm_W E d 37 101 [a0, .int x] st h Q ↔ gm_W E d 37 102 [a0, .int x] (.int x :: st) h Q := gw_loc m37 f37_101 rfl rfl
theorem f37_102 : gm_ft 37 102 = some (.iaload, 1) := by decide +kernel
theorem r37_102 {E : Nat → Value} {d : Nat} {st : List Value} {h : gm_H} {Q : gm_R → gm_H → Prop} {lv : List Value} {a j : Nat} (hk : gm_kd h a % 100 = 0 ∧ 100 ≤ gm_kd h a ∧ gm_kd h a < 900) (hj : j < gm_ln h a) (hl : gm_ln h a < 2 ^ 31) : gm_W E d 37 102 lv (.int (nI j) :: .ref a :: st) h Q ↔ gm_W E d 37 103 lv (gm_fv h a j :: st) h Q := gw_rd m37 f37_102 rfl rfl rfl rfl (gs_ld (P := fun t => t == 0) hk.2 (by have := hk.1; simp [this] <;> omega) hj hl)
theorem f37_103 : gm_ft 37 103 = some (.aload_n 0, 1) := by decide +kernel
theorem r37_103 {E : Nat → Value} {d : Nat} {st : List Value} {h : gm_H} {Q : gm_R → gm_H → Prop} {a1 : Value} {x : Nat} : gm_W E d 37 103 [.ref x, a1] st h Q ↔ gm_W E d 37 104 [.ref x, a1] (.ref x :: st) h Q := gw_loc m37 f37_103 rfl rfl
theorem r37_103n {E : Nat → Value} {d : Nat} {st : List Value} {h : gm_H} {Q : gm_R → gm_H → Prop} {a1 : Value}  : gm_W E d 37 103 [.null, a1] st h Q ↔ gm_W E d 37 104 [.null, a1] (.null :: st) h Q := gw_loc m37 f37_103 rfl rfl
theorem f37_104 : gm_ft 37 104 = some (.getfield 102, 3) := by decide +kernel
theorem r37_104 {E : Nat → Value} {d : Nat} {st : List Value} {h : gm_H} {Q : gm_R → gm_H → Prop} {lv : List Value} {a : Nat} (hk : gm_kd h a = 5) : gm_W E d 37 104 lv (.ref a :: st) h Q ↔ gm_W E d 37 107 lv (gm_fv h a 43 :: st) h Q := gw_rd m37 f37_104 rfl rfl rfl rfl (gs_get k5_102 hk (by decide))
theorem f37_107 : gm_ft 37 107 = some (.iload_n 1, 1) := by decide +kernel
theorem r37_107 {E : Nat → Value} {d : Nat} {st : List Value} {h : gm_H} {Q : gm_R → gm_H → Prop} {a0 : Value} {x : Int32} : gm_W E d 37 107 [a0, .int x] st h Q ↔ gm_W E d 37 108 [a0, .int x] (.int x :: st) h Q := gw_loc m37 f37_107 rfl rfl
theorem f37_108 : gm_ft 37 108 = some (.iaload, 1) := by decide +kernel
theorem r37_108 {E : Nat → Value} {d : Nat} {st : List Value} {h : gm_H} {Q : gm_R → gm_H → Prop} {lv : List Value} {a j : Nat} (hk : gm_kd h a % 100 = 0 ∧ 100 ≤ gm_kd h a ∧ gm_kd h a < 900) (hj : j < gm_ln h a) (hl : gm_ln h a < 2 ^ 31) : gm_W E d 37 108 lv (.int (nI j) :: .ref a :: st) h Q ↔ gm_W E d 37 109 lv (gm_fv h a j :: st) h Q := gw_rd m37 f37_108 rfl rfl rfl rfl (gs_ld (P := fun t => t == 0) hk.2 (by have := hk.1; simp [this] <;> omega) hj hl)
theorem f37_109 : gm_ft 37 109 = some (.iconst 1, 1) := by decide +kernel
theorem r37_109 {E : Nat → Value} {d : Nat} {st : List Value} {h : gm_H} {Q : gm_R → gm_H → Prop} {lv : List Value} : gm_W E d 37 109 lv st h Q ↔ gm_W E d 37 110 lv (.int (1 : Int32) :: st) h Q := gw_pure m37 f37_109 rfl
theorem f37_110 : gm_ft 37 110 = some (.iadd, 1) := by decide +kernel
theorem r37_110 {E : Nat → Value} {d : Nat} {st : List Value} {h : gm_H} {Q : gm_R → gm_H → Prop} {lv : List Value} {x y : Int32} : gm_W E d 37 110 lv (.int y :: .int x :: st) h Q ↔ gm_W E d 37 111 lv (.int (x + y) :: st) h Q := gw_pure m37 f37_110 rfl
theorem f37_111 : gm_ft 37 111 = some (.iconst 0, 1) := by decide +kernel
theorem r37_111 {E : Nat → Value} {d : Nat} {st : List Value} {h : gm_H} {Q : gm_R → gm_H → Prop} {lv : List Value} : gm_W E d 37 111 lv st h Q ↔ gm_W E d 37 112 lv (.int (0 : Int32) :: st) h Q := gw_pure m37 f37_111 rfl
theorem f37_112 : gm_ft 37 112 = some (.invokevirtual 200, 3) := by decide +kernel
theorem c37_112 {E : Nat → Value} {d : Nat} {st : List Value} {h : gm_H} {Q : gm_R → gm_H → Prop} {lv : List Value} {b0 : Int32} {b1 : Int32} {b2 : Int32} {b3 : Int32} {a : Nat} {Qc : gm_R → gm_H → Prop} (hs : (st.map fun v => v.category).sum ≤ 8) (hr : gm_kd h a = 5) (hd : 1 ≤ d) (hc : gm_Ca E (d - 1) 15 [.ref a, .int b0, .int b1, .int b2, .int b3] h Qc) (kn : ∀ (v9 : Option Value) (h9 : gm_H), Qc (.inl v9) h9 → gm_W E d 37 115 lv (v9.toList ++ st) h9 Q) (kx : ∀ (x9 : Nat) (h9 : gm_H), Qc (.inr x9) h9 → Q (.inr x9) h9) : gm_W E d 37 112 lv (.int b3 :: .int b2 :: .int b1 :: .int b0 :: .ref a :: st) h Q := gw_call (gn_call m37 f37_112 rfl rfl rfl rfl rfl rfl rfl (gs_virt (bs := [.int b3, .int b2, .int b1, .int b0]) (w := 856) (L := 5) rfl rfl rfl rfl hs (by simp [gm_en1]) hr (by decide)) (by decide)) m37 rfl rfl hd hc kn kx
theorem f37_115 : gm_ft 37 115 = some (.goto 8, 3) := by decide +kernel
theorem r37_115 {E : Nat → Value} {d : Nat} {st : List Value} {h : gm_H} {Q : gm_R → gm_H → Prop} {lv : List Value} : gm_W E d 37 115 lv st h Q ↔ gm_W E d 37 123 lv st h Q := gw_brT m37 f37_115 rfl rfl rfl rfl
theorem f37_118 : gm_ft 37 118 = some (.aload_n 0, 1) := by decide +kernel
theorem r37_118 {E : Nat → Value} {d : Nat} {st : List Value} {h : gm_H} {Q : gm_R → gm_H → Prop} {a1 : Value} {x : Nat} : gm_W E d 37 118 [.ref x, a1] st h Q ↔ gm_W E d 37 119 [.ref x, a1] (.ref x :: st) h Q := gw_loc m37 f37_118 rfl rfl
theorem r37_118n {E : Nat → Value} {d : Nat} {st : List Value} {h : gm_H} {Q : gm_R → gm_H → Prop} {a1 : Value}  : gm_W E d 37 118 [.null, a1] st h Q ↔ gm_W E d 37 119 [.null, a1] (.null :: st) h Q := gw_loc m37 f37_118 rfl rfl
theorem f37_119 : gm_ft 37 119 = some (.iload_n 1, 1) := by decide +kernel
theorem r37_119 {E : Nat → Value} {d : Nat} {st : List Value} {h : gm_H} {Q : gm_R → gm_H → Prop} {a0 : Value} {x : Int32} : gm_W E d 37 119 [a0, .int x] st h Q ↔ gm_W E d 37 120 [a0, .int x] (.int x :: st) h Q := gw_loc m37 f37_119 rfl rfl
theorem f37_120 : gm_ft 37 120 = some (.invokevirtual 257, 3) := by decide +kernel
theorem c37_120 {E : Nat → Value} {d : Nat} {st : List Value} {h : gm_H} {Q : gm_R → gm_H → Prop} {lv : List Value} {b0 : Int32} {a : Nat} {Qc : gm_R → gm_H → Prop} (hs : (st.map fun v => v.category).sum ≤ 8) (hr : gm_kd h a = 5) (hd : 1 ≤ d) (hc : gm_Ca E (d - 1) 36 [.ref a, .int b0] h Qc) (kn : ∀ (v9 : Option Value) (h9 : gm_H), Qc (.inl v9) h9 → gm_W E d 37 123 lv (v9.toList ++ st) h9 Q) (kx : ∀ (x9 : Nat) (h9 : gm_H), Qc (.inr x9) h9 → Q (.inr x9) h9) : gm_W E d 37 120 lv (.int b0 :: .ref a :: st) h Q := gw_call (gn_call m37 f37_120 rfl rfl rfl rfl rfl rfl rfl (gs_virt (bs := [.int b0]) (w := 953) (L := 4) rfl rfl rfl rfl hs (by simp [gm_en1]) hr (by decide)) (by decide)) m37 rfl rfl hd hc kn kx
theorem f37_123 : gm_ft 37 123 = some (.return_, 1) := by decide +kernel
theorem r37_123 {E : Nat → Value} {d : Nat} {h : gm_H} {Q : gm_R → gm_H → Prop} {lv : List Value} : gm_W E d 37 123 lv [] h Q ↔ Q (.inl none) h := gw_ret m37 f37_123 rfl rfl rfl rfl rfl rfl rfl rfl rfl
/-! GraphReaderModel.level(II)I -/
theorem m38 : gm_mt[38]? = some (⟨"GraphReaderModel", "level", "(II)I"⟩, prog_7_method_37_code, 6, (some .int), [], 5, 2) := rfl
theorem f38_0 : gm_ft 38 0 = some (.iconst 0, 1) := by decide +kernel
theorem r38_0 {E : Nat → Value} {d : Nat} {st : List Value} {h : gm_H} {Q : gm_R → gm_H → Prop} {lv : List Value} : gm_W E d 38 0 lv st h Q ↔ gm_W E d 38 1 lv (.int (0 : Int32) :: st) h Q := gw_pure m38 f38_0 rfl
theorem f38_1 : gm_ft 38 1 = some (.istore_n 3, 1) := by decide +kernel
theorem r38_1 {E : Nat → Value} {d : Nat} {st : List Value} {h : gm_H} {Q : gm_R → gm_H → Prop} {a0 a1 a2 a3 a4 a5 : Value} {x : Int32} : gm_W E d 38 1 [a0, a1, a2, a3, a4, a5] (.int x :: st) h Q ↔ gm_W E d 38 2 [a0, a1, gm_k a2, .int x, a4, a5] st h Q := gw_loc m38 f38_1 rfl rfl
theorem f38_2 : gm_ft 38 2 = some (.iload_n 1, 1) := by decide +kernel
theorem r38_2 {E : Nat → Value} {d : Nat} {st : List Value} {h : gm_H} {Q : gm_R → gm_H → Prop} {a0 a2 a3 a4 a5 : Value} {x : Int32} : gm_W E d 38 2 [a0, .int x, a2, a3, a4, a5] st h Q ↔ gm_W E d 38 3 [a0, .int x, a2, a3, a4, a5] (.int x :: st) h Q := gw_loc m38 f38_2 rfl rfl
theorem f38_3 : gm_ft 38 3 = some (.istore 4, 2) := by decide +kernel
theorem r38_3 {E : Nat → Value} {d : Nat} {st : List Value} {h : gm_H} {Q : gm_R → gm_H → Prop} {a0 a1 a2 a3 a4 a5 : Value} {x : Int32} : gm_W E d 38 3 [a0, a1, a2, a3, a4, a5] (.int x :: st) h Q ↔ gm_W E d 38 5 [a0, a1, a2, gm_k a3, .int x, a5] st h Q := gw_loc m38 f38_3 rfl rfl
theorem f38_5 : gm_ft 38 5 = some (.iload 4, 2) := by decide +kernel
theorem r38_5 {E : Nat → Value} {d : Nat} {st : List Value} {h : gm_H} {Q : gm_R → gm_H → Prop} {a0 a1 a2 a3 a5 : Value} {x : Int32} : gm_W E d 38 5 [a0, a1, a2, a3, .int x, a5] st h Q ↔ gm_W E d 38 7 [a0, a1, a2, a3, .int x, a5] (.int x :: st) h Q := gw_loc m38 f38_5 rfl rfl
theorem f38_7 : gm_ft 38 7 = some (.ifCond .lt 18, 3) := by decide +kernel
theorem r38_7 {E : Nat → Value} {d : Nat} {st : List Value} {h : gm_H} {Q : gm_R → gm_H → Prop} {lv : List Value} {x : Int32} : gm_W E d 38 7 lv (.int x :: st) h Q ↔ (if x < 0 then gm_W E d 38 25 lv st h Q else gm_W E d 38 10 lv st h Q) := (gw_br m38 f38_7 rfl rfl rfl rfl).trans gw_if
theorem f38_10 : gm_ft 38 10 = some (.iinc 3 1, 3) := by decide +kernel
theorem r38_10 {E : Nat → Value} {d : Nat} {st : List Value} {h : gm_H} {Q : gm_R → gm_H → Prop} {a0 a1 a2 a4 a5 : Value} {x : Int32} : gm_W E d 38 10 [a0, a1, a2, .int x, a4, a5] st h Q ↔ gm_W E d 38 13 [a0, a1, gm_k a2, .int (x + (1 : Int32)), a4, a5] st h Q := gw_loc m38 f38_10 rfl rfl
theorem f38_13 : gm_ft 38 13 = some (.aload_n 0, 1) := by decide +kernel
theorem r38_13 {E : Nat → Value} {d : Nat} {st : List Value} {h : gm_H} {Q : gm_R → gm_H → Prop} {a1 a2 a3 a4 a5 : Value} {x : Nat} : gm_W E d 38 13 [.ref x, a1, a2, a3, a4, a5] st h Q ↔ gm_W E d 38 14 [.ref x, a1, a2, a3, a4, a5] (.ref x :: st) h Q := gw_loc m38 f38_13 rfl rfl
theorem r38_13n {E : Nat → Value} {d : Nat} {st : List Value} {h : gm_H} {Q : gm_R → gm_H → Prop} {a1 a2 a3 a4 a5 : Value}  : gm_W E d 38 13 [.null, a1, a2, a3, a4, a5] st h Q ↔ gm_W E d 38 14 [.null, a1, a2, a3, a4, a5] (.null :: st) h Q := gw_loc m38 f38_13 rfl rfl
theorem f38_14 : gm_ft 38 14 = some (.getfield 90, 3) := by decide +kernel
theorem r38_14 {E : Nat → Value} {d : Nat} {st : List Value} {h : gm_H} {Q : gm_R → gm_H → Prop} {lv : List Value} {a : Nat} (hk : gm_kd h a = 5) : gm_W E d 38 14 lv (.ref a :: st) h Q ↔ gm_W E d 38 17 lv (gm_fv h a 38 :: st) h Q := gw_rd m38 f38_14 rfl rfl rfl rfl (gs_get k5_90 hk (by decide))
theorem f38_17 : gm_ft 38 17 = some (.iload 4, 2) := by decide +kernel
theorem r38_17 {E : Nat → Value} {d : Nat} {st : List Value} {h : gm_H} {Q : gm_R → gm_H → Prop} {a0 a1 a2 a3 a5 : Value} {x : Int32} : gm_W E d 38 17 [a0, a1, a2, a3, .int x, a5] st h Q ↔ gm_W E d 38 19 [a0, a1, a2, a3, .int x, a5] (.int x :: st) h Q := gw_loc m38 f38_17 rfl rfl
theorem f38_19 : gm_ft 38 19 = some (.iaload, 1) := by decide +kernel
theorem r38_19 {E : Nat → Value} {d : Nat} {st : List Value} {h : gm_H} {Q : gm_R → gm_H → Prop} {lv : List Value} {a j : Nat} (hk : gm_kd h a % 100 = 0 ∧ 100 ≤ gm_kd h a ∧ gm_kd h a < 900) (hj : j < gm_ln h a) (hl : gm_ln h a < 2 ^ 31) : gm_W E d 38 19 lv (.int (nI j) :: .ref a :: st) h Q ↔ gm_W E d 38 20 lv (gm_fv h a j :: st) h Q := gw_rd m38 f38_19 rfl rfl rfl rfl (gs_ld (P := fun t => t == 0) hk.2 (by have := hk.1; simp [this] <;> omega) hj hl)
theorem f38_20 : gm_ft 38 20 = some (.istore 4, 2) := by decide +kernel
theorem r38_20 {E : Nat → Value} {d : Nat} {st : List Value} {h : gm_H} {Q : gm_R → gm_H → Prop} {a0 a1 a2 a3 a4 a5 : Value} {x : Int32} : gm_W E d 38 20 [a0, a1, a2, a3, a4, a5] (.int x :: st) h Q ↔ gm_W E d 38 22 [a0, a1, a2, gm_k a3, .int x, a5] st h Q := gw_loc m38 f38_20 rfl rfl
theorem f38_22 : gm_ft 38 22 = some (.goto (-17), 3) := by decide +kernel
theorem r38_22 {E : Nat → Value} {d : Nat} {st : List Value} {h : gm_H} {Q : gm_R → gm_H → Prop} {lv : List Value} : gm_W E d 38 22 lv st h Q ↔ gm_W E d 38 5 lv st h Q := gw_brT m38 f38_22 rfl rfl rfl rfl
theorem f38_25 : gm_ft 38 25 = some (.iload_n 2, 1) := by decide +kernel
theorem r38_25 {E : Nat → Value} {d : Nat} {st : List Value} {h : gm_H} {Q : gm_R → gm_H → Prop} {a0 a1 a3 a4 a5 : Value} {x : Int32} : gm_W E d 38 25 [a0, a1, .int x, a3, a4, a5] st h Q ↔ gm_W E d 38 26 [a0, a1, .int x, a3, a4, a5] (.int x :: st) h Q := gw_loc m38 f38_25 rfl rfl
theorem f38_26 : gm_ft 38 26 = some (.iload_n 3, 1) := by decide +kernel
theorem r38_26 {E : Nat → Value} {d : Nat} {st : List Value} {h : gm_H} {Q : gm_R → gm_H → Prop} {a0 a1 a2 a4 a5 : Value} {x : Int32} : gm_W E d 38 26 [a0, a1, a2, .int x, a4, a5] st h Q ↔ gm_W E d 38 27 [a0, a1, a2, .int x, a4, a5] (.int x :: st) h Q := gw_loc m38 f38_26 rfl rfl
theorem f38_27 : gm_ft 38 27 = some (.if_icmp .lt 7, 3) := by decide +kernel
theorem r38_27 {E : Nat → Value} {d : Nat} {st : List Value} {h : gm_H} {Q : gm_R → gm_H → Prop} {lv : List Value} {x y : Int32} : gm_W E d 38 27 lv (.int y :: .int x :: st) h Q ↔ (if x < y then gm_W E d 38 34 lv st h Q else gm_W E d 38 30 lv st h Q) := (gw_br m38 f38_27 rfl rfl rfl rfl).trans gw_if
theorem f38_30 : gm_ft 38 30 = some (.iconst (-1), 1) := by decide +kernel
theorem r38_30 {E : Nat → Value} {d : Nat} {st : List Value} {h : gm_H} {Q : gm_R → gm_H → Prop} {lv : List Value} : gm_W E d 38 30 lv st h Q ↔ gm_W E d 38 31 lv (.int (-1 : Int32) :: st) h Q := gw_pure m38 f38_30 rfl
theorem f38_31 : gm_ft 38 31 = some (.goto 4, 3) := by decide +kernel
theorem r38_31 {E : Nat → Value} {d : Nat} {st : List Value} {h : gm_H} {Q : gm_R → gm_H → Prop} {lv : List Value} : gm_W E d 38 31 lv st h Q ↔ gm_W E d 38 35 lv st h Q := gw_brT m38 f38_31 rfl rfl rfl rfl
theorem f38_34 : gm_ft 38 34 = some (.iload_n 1, 1) := by decide +kernel
theorem r38_34 {E : Nat → Value} {d : Nat} {st : List Value} {h : gm_H} {Q : gm_R → gm_H → Prop} {a0 a2 a3 a4 a5 : Value} {x : Int32} : gm_W E d 38 34 [a0, .int x, a2, a3, a4, a5] st h Q ↔ gm_W E d 38 35 [a0, .int x, a2, a3, a4, a5] (.int x :: st) h Q := gw_loc m38 f38_34 rfl rfl
theorem f38_35 : gm_ft 38 35 = some (.istore 4, 2) := by decide +kernel
theorem r38_35 {E : Nat → Value} {d : Nat} {st : List Value} {h : gm_H} {Q : gm_R → gm_H → Prop} {a0 a1 a2 a3 a4 a5 : Value} {x : Int32} : gm_W E d 38 35 [a0, a1, a2, a3, a4, a5] (.int x :: st) h Q ↔ gm_W E d 38 37 [a0, a1, a2, gm_k a3, .int x, a5] st h Q := gw_loc m38 f38_35 rfl rfl
theorem f38_37 : gm_ft 38 37 = some (.iload_n 3, 1) := by decide +kernel
theorem r38_37 {E : Nat → Value} {d : Nat} {st : List Value} {h : gm_H} {Q : gm_R → gm_H → Prop} {a0 a1 a2 a4 a5 : Value} {x : Int32} : gm_W E d 38 37 [a0, a1, a2, .int x, a4, a5] st h Q ↔ gm_W E d 38 38 [a0, a1, a2, .int x, a4, a5] (.int x :: st) h Q := gw_loc m38 f38_37 rfl rfl
theorem f38_38 : gm_ft 38 38 = some (.iconst 1, 1) := by decide +kernel
theorem r38_38 {E : Nat → Value} {d : Nat} {st : List Value} {h : gm_H} {Q : gm_R → gm_H → Prop} {lv : List Value} : gm_W E d 38 38 lv st h Q ↔ gm_W E d 38 39 lv (.int (1 : Int32) :: st) h Q := gw_pure m38 f38_38 rfl
theorem f38_39 : gm_ft 38 39 = some (.isub, 1) := by decide +kernel
theorem r38_39 {E : Nat → Value} {d : Nat} {st : List Value} {h : gm_H} {Q : gm_R → gm_H → Prop} {lv : List Value} {x y : Int32} : gm_W E d 38 39 lv (.int y :: .int x :: st) h Q ↔ gm_W E d 38 40 lv (.int (x - y) :: st) h Q := gw_pure m38 f38_39 rfl
theorem f38_40 : gm_ft 38 40 = some (.istore 5, 2) := by decide +kernel
theorem r38_40 {E : Nat → Value} {d : Nat} {st : List Value} {h : gm_H} {Q : gm_R → gm_H → Prop} {a0 a1 a2 a3 a4 a5 : Value} {x : Int32} : gm_W E d 38 40 [a0, a1, a2, a3, a4, a5] (.int x :: st) h Q ↔ gm_W E d 38 42 [a0, a1, a2, a3, gm_k a4, .int x] st h Q := gw_loc m38 f38_40 rfl rfl
theorem f38_42 : gm_ft 38 42 = some (.iload 5, 2) := by decide +kernel
theorem r38_42 {E : Nat → Value} {d : Nat} {st : List Value} {h : gm_H} {Q : gm_R → gm_H → Prop} {a0 a1 a2 a3 a4 : Value} {x : Int32} : gm_W E d 38 42 [a0, a1, a2, a3, a4, .int x] st h Q ↔ gm_W E d 38 44 [a0, a1, a2, a3, a4, .int x] (.int x :: st) h Q := gw_loc m38 f38_42 rfl rfl
theorem f38_44 : gm_ft 38 44 = some (.iload_n 2, 1) := by decide +kernel
theorem r38_44 {E : Nat → Value} {d : Nat} {st : List Value} {h : gm_H} {Q : gm_R → gm_H → Prop} {a0 a1 a3 a4 a5 : Value} {x : Int32} : gm_W E d 38 44 [a0, a1, .int x, a3, a4, a5] st h Q ↔ gm_W E d 38 45 [a0, a1, .int x, a3, a4, a5] (.int x :: st) h Q := gw_loc m38 f38_44 rfl rfl
theorem f38_45 : gm_ft 38 45 = some (.if_icmp .le 18, 3) := by decide +kernel
theorem r38_45 {E : Nat → Value} {d : Nat} {st : List Value} {h : gm_H} {Q : gm_R → gm_H → Prop} {lv : List Value} {x y : Int32} : gm_W E d 38 45 lv (.int y :: .int x :: st) h Q ↔ (if x ≤ y then gm_W E d 38 63 lv st h Q else gm_W E d 38 48 lv st h Q) := (gw_br m38 f38_45 rfl rfl rfl rfl).trans gw_if
theorem f38_48 : gm_ft 38 48 = some (.aload_n 0, 1) := by decide +kernel
theorem r38_48 {E : Nat → Value} {d : Nat} {st : List Value} {h : gm_H} {Q : gm_R → gm_H → Prop} {a1 a2 a3 a4 a5 : Value} {x : Nat} : gm_W E d 38 48 [.ref x, a1, a2, a3, a4, a5] st h Q ↔ gm_W E d 38 49 [.ref x, a1, a2, a3, a4, a5] (.ref x :: st) h Q := gw_loc m38 f38_48 rfl rfl
theorem r38_48n {E : Nat → Value} {d : Nat} {st : List Value} {h : gm_H} {Q : gm_R → gm_H → Prop} {a1 a2 a3 a4 a5 : Value}  : gm_W E d 38 48 [.null, a1, a2, a3, a4, a5] st h Q ↔ gm_W E d 38 49 [.null, a1, a2, a3, a4, a5] (.null :: st) h Q := gw_loc m38 f38_48 rfl rfl
theorem f38_49 : gm_ft 38 49 = some (.getfield 90, 3) := by decide +kernel
theorem r38_49 {E : Nat → Value} {d : Nat} {st : List Value} {h : gm_H} {Q : gm_R → gm_H → Prop} {lv : List Value} {a : Nat} (hk : gm_kd h a = 5) : gm_W E d 38 49 lv (.ref a :: st) h Q ↔ gm_W E d 38 52 lv (gm_fv h a 38 :: st) h Q := gw_rd m38 f38_49 rfl rfl rfl rfl (gs_get k5_90 hk (by decide))
theorem f38_52 : gm_ft 38 52 = some (.iload 4, 2) := by decide +kernel
theorem r38_52 {E : Nat → Value} {d : Nat} {st : List Value} {h : gm_H} {Q : gm_R → gm_H → Prop} {a0 a1 a2 a3 a5 : Value} {x : Int32} : gm_W E d 38 52 [a0, a1, a2, a3, .int x, a5] st h Q ↔ gm_W E d 38 54 [a0, a1, a2, a3, .int x, a5] (.int x :: st) h Q := gw_loc m38 f38_52 rfl rfl
theorem f38_54 : gm_ft 38 54 = some (.iaload, 1) := by decide +kernel
theorem r38_54 {E : Nat → Value} {d : Nat} {st : List Value} {h : gm_H} {Q : gm_R → gm_H → Prop} {lv : List Value} {a j : Nat} (hk : gm_kd h a % 100 = 0 ∧ 100 ≤ gm_kd h a ∧ gm_kd h a < 900) (hj : j < gm_ln h a) (hl : gm_ln h a < 2 ^ 31) : gm_W E d 38 54 lv (.int (nI j) :: .ref a :: st) h Q ↔ gm_W E d 38 55 lv (gm_fv h a j :: st) h Q := gw_rd m38 f38_54 rfl rfl rfl rfl (gs_ld (P := fun t => t == 0) hk.2 (by have := hk.1; simp [this] <;> omega) hj hl)
theorem f38_55 : gm_ft 38 55 = some (.istore 4, 2) := by decide +kernel
theorem r38_55 {E : Nat → Value} {d : Nat} {st : List Value} {h : gm_H} {Q : gm_R → gm_H → Prop} {a0 a1 a2 a3 a4 a5 : Value} {x : Int32} : gm_W E d 38 55 [a0, a1, a2, a3, a4, a5] (.int x :: st) h Q ↔ gm_W E d 38 57 [a0, a1, a2, gm_k a3, .int x, a5] st h Q := gw_loc m38 f38_55 rfl rfl
theorem f38_57 : gm_ft 38 57 = some (.iinc 5 (-1), 3) := by decide +kernel
theorem r38_57 {E : Nat → Value} {d : Nat} {st : List Value} {h : gm_H} {Q : gm_R → gm_H → Prop} {a0 a1 a2 a3 a4 : Value} {x : Int32} : gm_W E d 38 57 [a0, a1, a2, a3, a4, .int x] st h Q ↔ gm_W E d 38 60 [a0, a1, a2, a3, gm_k a4, .int (x + (-1 : Int32))] st h Q := gw_loc m38 f38_57 rfl rfl
theorem f38_60 : gm_ft 38 60 = some (.goto (-18), 3) := by decide +kernel
theorem r38_60 {E : Nat → Value} {d : Nat} {st : List Value} {h : gm_H} {Q : gm_R → gm_H → Prop} {lv : List Value} : gm_W E d 38 60 lv st h Q ↔ gm_W E d 38 42 lv st h Q := gw_brT m38 f38_60 rfl rfl rfl rfl
theorem f38_63 : gm_ft 38 63 = some (.iload 4, 2) := by decide +kernel
theorem r38_63 {E : Nat → Value} {d : Nat} {st : List Value} {h : gm_H} {Q : gm_R → gm_H → Prop} {a0 a1 a2 a3 a5 : Value} {x : Int32} : gm_W E d 38 63 [a0, a1, a2, a3, .int x, a5] st h Q ↔ gm_W E d 38 65 [a0, a1, a2, a3, .int x, a5] (.int x :: st) h Q := gw_loc m38 f38_63 rfl rfl
theorem f38_65 : gm_ft 38 65 = some (.ireturn, 1) := by decide +kernel
theorem r38_65 {E : Nat → Value} {d : Nat} {h : gm_H} {Q : gm_R → gm_H → Prop} {lv : List Value} {x : Int32} : gm_W E d 38 65 lv [.int x] h Q ↔ Q (.inl (some (.int x))) h := gw_ret m38 f38_65 rfl rfl rfl rfl rfl rfl rfl rfl (by unfold gm_rt; dsimp only; rw [if_pos ⟨rfl, rfl⟩])
/-! GraphReaderModel.assign(IIIJ)V -/
theorem m39 : gm_mt[39]? = some (⟨"GraphReaderModel", "assign", "(IIIJ)V"⟩, prog_7_method_38_code, 8, none, [], 5, 2) := rfl
theorem f39_0 : gm_ft 39 0 = some (.aload_n 0, 1) := by decide +kernel
theorem r39_0 {E : Nat → Value} {d : Nat} {st : List Value} {h : gm_H} {Q : gm_R → gm_H → Prop} {a1 a2 a3 a4 a5 a6 a7 : Value} {x : Nat} : gm_W E d 39 0 [.ref x, a1, a2, a3, a4, a5, a6, a7] st h Q ↔ gm_W E d 39 1 [.ref x, a1, a2, a3, a4, a5, a6, a7] (.ref x :: st) h Q := gw_loc m39 f39_0 rfl rfl
theorem r39_0n {E : Nat → Value} {d : Nat} {st : List Value} {h : gm_H} {Q : gm_R → gm_H → Prop} {a1 a2 a3 a4 a5 a6 a7 : Value}  : gm_W E d 39 0 [.null, a1, a2, a3, a4, a5, a6, a7] st h Q ↔ gm_W E d 39 1 [.null, a1, a2, a3, a4, a5, a6, a7] (.null :: st) h Q := gw_loc m39 f39_0 rfl rfl
theorem f39_1 : gm_ft 39 1 = some (.getfield 69, 3) := by decide +kernel
theorem r39_1 {E : Nat → Value} {d : Nat} {st : List Value} {h : gm_H} {Q : gm_R → gm_H → Prop} {lv : List Value} {a : Nat} (hk : gm_kd h a = 5) : gm_W E d 39 1 lv (.ref a :: st) h Q ↔ gm_W E d 39 4 lv (gm_fv h a 31 :: st) h Q := gw_rd m39 f39_1 rfl rfl rfl rfl (gs_get k5_69 hk (by decide))
theorem f39_4 : gm_ft 39 4 = some (.iload_n 2, 1) := by decide +kernel
theorem r39_4 {E : Nat → Value} {d : Nat} {st : List Value} {h : gm_H} {Q : gm_R → gm_H → Prop} {a0 a1 a3 a4 a5 a6 a7 : Value} {x : Int32} : gm_W E d 39 4 [a0, a1, .int x, a3, a4, a5, a6, a7] st h Q ↔ gm_W E d 39 5 [a0, a1, .int x, a3, a4, a5, a6, a7] (.int x :: st) h Q := gw_loc m39 f39_4 rfl rfl
theorem f39_5 : gm_ft 39 5 = some (.iaload, 1) := by decide +kernel
theorem r39_5 {E : Nat → Value} {d : Nat} {st : List Value} {h : gm_H} {Q : gm_R → gm_H → Prop} {lv : List Value} {a j : Nat} (hk : gm_kd h a % 100 = 0 ∧ 100 ≤ gm_kd h a ∧ gm_kd h a < 900) (hj : j < gm_ln h a) (hl : gm_ln h a < 2 ^ 31) : gm_W E d 39 5 lv (.int (nI j) :: .ref a :: st) h Q ↔ gm_W E d 39 6 lv (gm_fv h a j :: st) h Q := gw_rd m39 f39_5 rfl rfl rfl rfl (gs_ld (P := fun t => t == 0) hk.2 (by have := hk.1; simp [this] <;> omega) hj hl)
theorem f39_6 : gm_ft 39 6 = some (.istore 6, 2) := by decide +kernel
theorem r39_6 {E : Nat → Value} {d : Nat} {st : List Value} {h : gm_H} {Q : gm_R → gm_H → Prop} {a0 a1 a2 a3 a4 a5 a6 a7 : Value} {x : Int32} : gm_W E d 39 6 [a0, a1, a2, a3, a4, a5, a6, a7] (.int x :: st) h Q ↔ gm_W E d 39 8 [a0, a1, a2, a3, a4, gm_k a5, .int x, a7] st h Q := gw_loc m39 f39_6 rfl rfl
theorem f39_8 : gm_ft 39 8 = some (.iload 6, 2) := by decide +kernel
theorem r39_8 {E : Nat → Value} {d : Nat} {st : List Value} {h : gm_H} {Q : gm_R → gm_H → Prop} {a0 a1 a2 a3 a4 a5 a7 : Value} {x : Int32} : gm_W E d 39 8 [a0, a1, a2, a3, a4, a5, .int x, a7] st h Q ↔ gm_W E d 39 10 [a0, a1, a2, a3, a4, a5, .int x, a7] (.int x :: st) h Q := gw_loc m39 f39_8 rfl rfl
theorem f39_10 : gm_ft 39 10 = some (.ifCond .lt 18, 3) := by decide +kernel
theorem r39_10 {E : Nat → Value} {d : Nat} {st : List Value} {h : gm_H} {Q : gm_R → gm_H → Prop} {lv : List Value} {x : Int32} : gm_W E d 39 10 lv (.int x :: st) h Q ↔ (if x < 0 then gm_W E d 39 28 lv st h Q else gm_W E d 39 13 lv st h Q) := (gw_br m39 f39_10 rfl rfl rfl rfl).trans gw_if
theorem f39_13 : gm_ft 39 13 = some (.aload_n 0, 1) := by decide +kernel
theorem r39_13 {E : Nat → Value} {d : Nat} {st : List Value} {h : gm_H} {Q : gm_R → gm_H → Prop} {a1 a2 a3 a4 a5 a6 a7 : Value} {x : Nat} : gm_W E d 39 13 [.ref x, a1, a2, a3, a4, a5, a6, a7] st h Q ↔ gm_W E d 39 14 [.ref x, a1, a2, a3, a4, a5, a6, a7] (.ref x :: st) h Q := gw_loc m39 f39_13 rfl rfl
theorem r39_13n {E : Nat → Value} {d : Nat} {st : List Value} {h : gm_H} {Q : gm_R → gm_H → Prop} {a1 a2 a3 a4 a5 a6 a7 : Value}  : gm_W E d 39 13 [.null, a1, a2, a3, a4, a5, a6, a7] st h Q ↔ gm_W E d 39 14 [.null, a1, a2, a3, a4, a5, a6, a7] (.null :: st) h Q := gw_loc m39 f39_13 rfl rfl
theorem f39_14 : gm_ft 39 14 = some (.iload 6, 2) := by decide +kernel
theorem r39_14 {E : Nat → Value} {d : Nat} {st : List Value} {h : gm_H} {Q : gm_R → gm_H → Prop} {a0 a1 a2 a3 a4 a5 a7 : Value} {x : Int32} : gm_W E d 39 14 [a0, a1, a2, a3, a4, a5, .int x, a7] st h Q ↔ gm_W E d 39 16 [a0, a1, a2, a3, a4, a5, .int x, a7] (.int x :: st) h Q := gw_loc m39 f39_14 rfl rfl
theorem f39_16 : gm_ft 39 16 = some (.aload_n 0, 1) := by decide +kernel
theorem r39_16 {E : Nat → Value} {d : Nat} {st : List Value} {h : gm_H} {Q : gm_R → gm_H → Prop} {a1 a2 a3 a4 a5 a6 a7 : Value} {x : Nat} : gm_W E d 39 16 [.ref x, a1, a2, a3, a4, a5, a6, a7] st h Q ↔ gm_W E d 39 17 [.ref x, a1, a2, a3, a4, a5, a6, a7] (.ref x :: st) h Q := gw_loc m39 f39_16 rfl rfl
theorem r39_16n {E : Nat → Value} {d : Nat} {st : List Value} {h : gm_H} {Q : gm_R → gm_H → Prop} {a1 a2 a3 a4 a5 a6 a7 : Value}  : gm_W E d 39 16 [.null, a1, a2, a3, a4, a5, a6, a7] st h Q ↔ gm_W E d 39 17 [.null, a1, a2, a3, a4, a5, a6, a7] (.null :: st) h Q := gw_loc m39 f39_16 rfl rfl
theorem f39_17 : gm_ft 39 17 = some (.getfield 42, 3) := by decide +kernel
theorem r39_17 {E : Nat → Value} {d : Nat} {st : List Value} {h : gm_H} {Q : gm_R → gm_H → Prop} {lv : List Value} {a : Nat} (hk : gm_kd h a = 5) : gm_W E d 39 17 lv (.ref a :: st) h Q ↔ gm_W E d 39 20 lv (gm_fv h a 19 :: st) h Q := gw_rd m39 f39_17 rfl rfl rfl rfl (gs_get k5_42 hk (by decide))
theorem f39_20 : gm_ft 39 20 = some (.iload_n 1, 1) := by decide +kernel
theorem r39_20 {E : Nat → Value} {d : Nat} {st : List Value} {h : gm_H} {Q : gm_R → gm_H → Prop} {a0 a2 a3 a4 a5 a6 a7 : Value} {x : Int32} : gm_W E d 39 20 [a0, .int x, a2, a3, a4, a5, a6, a7] st h Q ↔ gm_W E d 39 21 [a0, .int x, a2, a3, a4, a5, a6, a7] (.int x :: st) h Q := gw_loc m39 f39_20 rfl rfl
theorem f39_21 : gm_ft 39 21 = some (.iaload, 1) := by decide +kernel
theorem r39_21 {E : Nat → Value} {d : Nat} {st : List Value} {h : gm_H} {Q : gm_R → gm_H → Prop} {lv : List Value} {a j : Nat} (hk : gm_kd h a % 100 = 0 ∧ 100 ≤ gm_kd h a ∧ gm_kd h a < 900) (hj : j < gm_ln h a) (hl : gm_ln h a < 2 ^ 31) : gm_W E d 39 21 lv (.int (nI j) :: .ref a :: st) h Q ↔ gm_W E d 39 22 lv (gm_fv h a j :: st) h Q := gw_rd m39 f39_21 rfl rfl rfl rfl (gs_ld (P := fun t => t == 0) hk.2 (by have := hk.1; simp [this] <;> omega) hj hl)
theorem f39_22 : gm_ft 39 22 = some (.invokevirtual 260, 3) := by decide +kernel
theorem c39_22 {E : Nat → Value} {d : Nat} {st : List Value} {h : gm_H} {Q : gm_R → gm_H → Prop} {lv : List Value} {b0 : Int32} {b1 : Int32} {a : Nat} {Qc : gm_R → gm_H → Prop} (hs : (st.map fun v => v.category).sum ≤ 8) (hr : gm_kd h a = 5) (hd : 1 ≤ d) (hc : gm_Ca E (d - 1) 21 [.ref a, .int b0, .int b1] h Qc) (kn : ∀ (v9 : Option Value) (h9 : gm_H), Qc (.inl v9) h9 → gm_W E d 39 25 lv (v9.toList ++ st) h9 Q) (kx : ∀ (x9 : Nat) (h9 : gm_H), Qc (.inr x9) h9 → Q (.inr x9) h9) : gm_W E d 39 22 lv (.int b1 :: .int b0 :: .ref a :: st) h Q := gw_call (gn_call m39 f39_22 rfl rfl rfl rfl rfl rfl rfl (gs_virt (bs := [.int b1, .int b0]) (w := 973) (L := 5) rfl rfl rfl rfl hs (by simp [gm_en1]) hr (by decide)) (by decide)) m39 rfl rfl hd hc kn kx
theorem f39_25 : gm_ft 39 25 = some (.ifCond .ne 4, 3) := by decide +kernel
theorem r39_25 {E : Nat → Value} {d : Nat} {st : List Value} {h : gm_H} {Q : gm_R → gm_H → Prop} {lv : List Value} {x : Int32} : gm_W E d 39 25 lv (.int x :: st) h Q ↔ (if x = 0 then gm_W E d 39 28 lv st h Q else gm_W E d 39 29 lv st h Q) := (gw_br m39 f39_25 rfl rfl rfl rfl).trans gw_ifn
theorem f39_28 : gm_ft 39 28 = some (.return_, 1) := by decide +kernel
theorem r39_28 {E : Nat → Value} {d : Nat} {h : gm_H} {Q : gm_R → gm_H → Prop} {lv : List Value} : gm_W E d 39 28 lv [] h Q ↔ Q (.inl none) h := gw_ret m39 f39_28 rfl rfl rfl rfl rfl rfl rfl rfl rfl
theorem f39_29 : gm_ft 39 29 = some (.iconst 0, 1) := by decide +kernel
theorem r39_29 {E : Nat → Value} {d : Nat} {st : List Value} {h : gm_H} {Q : gm_R → gm_H → Prop} {lv : List Value} : gm_W E d 39 29 lv st h Q ↔ gm_W E d 39 30 lv (.int (0 : Int32) :: st) h Q := gw_pure m39 f39_29 rfl
theorem f39_30 : gm_ft 39 30 = some (.istore 7, 2) := by decide +kernel
theorem r39_30 {E : Nat → Value} {d : Nat} {st : List Value} {h : gm_H} {Q : gm_R → gm_H → Prop} {a0 a1 a2 a3 a4 a5 a6 a7 : Value} {x : Int32} : gm_W E d 39 30 [a0, a1, a2, a3, a4, a5, a6, a7] (.int x :: st) h Q ↔ gm_W E d 39 32 [a0, a1, a2, a3, a4, a5, gm_k a6, .int x] st h Q := gw_loc m39 f39_30 rfl rfl
theorem f39_32 : gm_ft 39 32 = some (.iload 7, 2) := by decide +kernel
theorem r39_32 {E : Nat → Value} {d : Nat} {st : List Value} {h : gm_H} {Q : gm_R → gm_H → Prop} {a0 a1 a2 a3 a4 a5 a6 : Value} {x : Int32} : gm_W E d 39 32 [a0, a1, a2, a3, a4, a5, a6, .int x] st h Q ↔ gm_W E d 39 34 [a0, a1, a2, a3, a4, a5, a6, .int x] (.int x :: st) h Q := gw_loc m39 f39_32 rfl rfl
theorem f39_34 : gm_ft 39 34 = some (.aload_n 0, 1) := by decide +kernel
theorem r39_34 {E : Nat → Value} {d : Nat} {st : List Value} {h : gm_H} {Q : gm_R → gm_H → Prop} {a1 a2 a3 a4 a5 a6 a7 : Value} {x : Nat} : gm_W E d 39 34 [.ref x, a1, a2, a3, a4, a5, a6, a7] st h Q ↔ gm_W E d 39 35 [.ref x, a1, a2, a3, a4, a5, a6, a7] (.ref x :: st) h Q := gw_loc m39 f39_34 rfl rfl
theorem r39_34n {E : Nat → Value} {d : Nat} {st : List Value} {h : gm_H} {Q : gm_R → gm_H → Prop} {a1 a2 a3 a4 a5 a6 a7 : Value}  : gm_W E d 39 34 [.null, a1, a2, a3, a4, a5, a6, a7] st h Q ↔ gm_W E d 39 35 [.null, a1, a2, a3, a4, a5, a6, a7] (.null :: st) h Q := gw_loc m39 f39_34 rfl rfl
theorem f39_35 : gm_ft 39 35 = some (.getfield 23, 3) := by decide +kernel
theorem r39_35 {E : Nat → Value} {d : Nat} {st : List Value} {h : gm_H} {Q : gm_R → gm_H → Prop} {lv : List Value} {a : Nat} (hk : gm_kd h a = 5) : gm_W E d 39 35 lv (.ref a :: st) h Q ↔ gm_W E d 39 38 lv (gm_fv h a 13 :: st) h Q := gw_rd m39 f39_35 rfl rfl rfl rfl (gs_get k5_23 hk (by decide))
theorem f39_38 : gm_ft 39 38 = some (.iload 6, 2) := by decide +kernel
theorem r39_38 {E : Nat → Value} {d : Nat} {st : List Value} {h : gm_H} {Q : gm_R → gm_H → Prop} {a0 a1 a2 a3 a4 a5 a7 : Value} {x : Int32} : gm_W E d 39 38 [a0, a1, a2, a3, a4, a5, .int x, a7] st h Q ↔ gm_W E d 39 40 [a0, a1, a2, a3, a4, a5, .int x, a7] (.int x :: st) h Q := gw_loc m39 f39_38 rfl rfl
theorem f39_40 : gm_ft 39 40 = some (.iaload, 1) := by decide +kernel
theorem r39_40 {E : Nat → Value} {d : Nat} {st : List Value} {h : gm_H} {Q : gm_R → gm_H → Prop} {lv : List Value} {a j : Nat} (hk : gm_kd h a % 100 = 0 ∧ 100 ≤ gm_kd h a ∧ gm_kd h a < 900) (hj : j < gm_ln h a) (hl : gm_ln h a < 2 ^ 31) : gm_W E d 39 40 lv (.int (nI j) :: .ref a :: st) h Q ↔ gm_W E d 39 41 lv (gm_fv h a j :: st) h Q := gw_rd m39 f39_40 rfl rfl rfl rfl (gs_ld (P := fun t => t == 0) hk.2 (by have := hk.1; simp [this] <;> omega) hj hl)
theorem f39_41 : gm_ft 39 41 = some (.if_icmp .ge 126, 3) := by decide +kernel
theorem r39_41 {E : Nat → Value} {d : Nat} {st : List Value} {h : gm_H} {Q : gm_R → gm_H → Prop} {lv : List Value} {x y : Int32} : gm_W E d 39 41 lv (.int y :: .int x :: st) h Q ↔ (if y ≤ x then gm_W E d 39 167 lv st h Q else gm_W E d 39 44 lv st h Q) := (gw_br m39 f39_41 rfl rfl rfl rfl).trans gw_if
theorem f39_44 : gm_ft 39 44 = some (.aload_n 0, 1) := by decide +kernel
theorem r39_44 {E : Nat → Value} {d : Nat} {st : List Value} {h : gm_H} {Q : gm_R → gm_H → Prop} {a1 a2 a3 a4 a5 a6 a7 : Value} {x : Nat} : gm_W E d 39 44 [.ref x, a1, a2, a3, a4, a5, a6, a7] st h Q ↔ gm_W E d 39 45 [.ref x, a1, a2, a3, a4, a5, a6, a7] (.ref x :: st) h Q := gw_loc m39 f39_44 rfl rfl
theorem r39_44n {E : Nat → Value} {d : Nat} {st : List Value} {h : gm_H} {Q : gm_R → gm_H → Prop} {a1 a2 a3 a4 a5 a6 a7 : Value}  : gm_W E d 39 44 [.null, a1, a2, a3, a4, a5, a6, a7] st h Q ↔ gm_W E d 39 45 [.null, a1, a2, a3, a4, a5, a6, a7] (.null :: st) h Q := gw_loc m39 f39_44 rfl rfl
theorem f39_45 : gm_ft 39 45 = some (.getfield 26, 3) := by decide +kernel
theorem r39_45 {E : Nat → Value} {d : Nat} {st : List Value} {h : gm_H} {Q : gm_R → gm_H → Prop} {lv : List Value} {a : Nat} (hk : gm_kd h a = 5) : gm_W E d 39 45 lv (.ref a :: st) h Q ↔ gm_W E d 39 48 lv (gm_fv h a 14 :: st) h Q := gw_rd m39 f39_45 rfl rfl rfl rfl (gs_get k5_26 hk (by decide))
theorem f39_48 : gm_ft 39 48 = some (.iconst 4, 1) := by decide +kernel
theorem r39_48 {E : Nat → Value} {d : Nat} {st : List Value} {h : gm_H} {Q : gm_R → gm_H → Prop} {lv : List Value} : gm_W E d 39 48 lv st h Q ↔ gm_W E d 39 49 lv (.int (4 : Int32) :: st) h Q := gw_pure m39 f39_48 rfl
theorem f39_49 : gm_ft 39 49 = some (.iload 6, 2) := by decide +kernel
theorem r39_49 {E : Nat → Value} {d : Nat} {st : List Value} {h : gm_H} {Q : gm_R → gm_H → Prop} {a0 a1 a2 a3 a4 a5 a7 : Value} {x : Int32} : gm_W E d 39 49 [a0, a1, a2, a3, a4, a5, .int x, a7] st h Q ↔ gm_W E d 39 51 [a0, a1, a2, a3, a4, a5, .int x, a7] (.int x :: st) h Q := gw_loc m39 f39_49 rfl rfl
theorem f39_51 : gm_ft 39 51 = some (.imul, 1) := by decide +kernel
theorem r39_51 {E : Nat → Value} {d : Nat} {st : List Value} {h : gm_H} {Q : gm_R → gm_H → Prop} {lv : List Value} {x y : Int32} : gm_W E d 39 51 lv (.int y :: .int x :: st) h Q ↔ gm_W E d 39 52 lv (.int (x * y) :: st) h Q := gw_pure m39 f39_51 rfl
theorem f39_52 : gm_ft 39 52 = some (.iload 7, 2) := by decide +kernel
theorem r39_52 {E : Nat → Value} {d : Nat} {st : List Value} {h : gm_H} {Q : gm_R → gm_H → Prop} {a0 a1 a2 a3 a4 a5 a6 : Value} {x : Int32} : gm_W E d 39 52 [a0, a1, a2, a3, a4, a5, a6, .int x] st h Q ↔ gm_W E d 39 54 [a0, a1, a2, a3, a4, a5, a6, .int x] (.int x :: st) h Q := gw_loc m39 f39_52 rfl rfl
theorem f39_54 : gm_ft 39 54 = some (.iadd, 1) := by decide +kernel
theorem r39_54 {E : Nat → Value} {d : Nat} {st : List Value} {h : gm_H} {Q : gm_R → gm_H → Prop} {lv : List Value} {x y : Int32} : gm_W E d 39 54 lv (.int y :: .int x :: st) h Q ↔ gm_W E d 39 55 lv (.int (x + y) :: st) h Q := gw_pure m39 f39_54 rfl
theorem f39_55 : gm_ft 39 55 = some (.iaload, 1) := by decide +kernel
theorem r39_55 {E : Nat → Value} {d : Nat} {st : List Value} {h : gm_H} {Q : gm_R → gm_H → Prop} {lv : List Value} {a j : Nat} (hk : gm_kd h a % 100 = 0 ∧ 100 ≤ gm_kd h a ∧ gm_kd h a < 900) (hj : j < gm_ln h a) (hl : gm_ln h a < 2 ^ 31) : gm_W E d 39 55 lv (.int (nI j) :: .ref a :: st) h Q ↔ gm_W E d 39 56 lv (gm_fv h a j :: st) h Q := gw_rd m39 f39_55 rfl rfl rfl rfl (gs_ld (P := fun t => t == 0) hk.2 (by have := hk.1; simp [this] <;> omega) hj hl)
theorem f39_56 : gm_ft 39 56 = some (.aload_n 0, 1) := by decide +kernel
theorem r39_56 {E : Nat → Value} {d : Nat} {st : List Value} {h : gm_H} {Q : gm_R → gm_H → Prop} {a1 a2 a3 a4 a5 a6 a7 : Value} {x : Nat} : gm_W E d 39 56 [.ref x, a1, a2, a3, a4, a5, a6, a7] st h Q ↔ gm_W E d 39 57 [.ref x, a1, a2, a3, a4, a5, a6, a7] (.ref x :: st) h Q := gw_loc m39 f39_56 rfl rfl
theorem r39_56n {E : Nat → Value} {d : Nat} {st : List Value} {h : gm_H} {Q : gm_R → gm_H → Prop} {a1 a2 a3 a4 a5 a6 a7 : Value}  : gm_W E d 39 56 [.null, a1, a2, a3, a4, a5, a6, a7] st h Q ↔ gm_W E d 39 57 [.null, a1, a2, a3, a4, a5, a6, a7] (.null :: st) h Q := gw_loc m39 f39_56 rfl rfl
theorem f39_57 : gm_ft 39 57 = some (.getfield 84, 3) := by decide +kernel
theorem r39_57 {E : Nat → Value} {d : Nat} {st : List Value} {h : gm_H} {Q : gm_R → gm_H → Prop} {lv : List Value} {a : Nat} (hk : gm_kd h a = 5) : gm_W E d 39 57 lv (.ref a :: st) h Q ↔ gm_W E d 39 60 lv (gm_fv h a 36 :: st) h Q := gw_rd m39 f39_57 rfl rfl rfl rfl (gs_get k5_84 hk (by decide))
theorem f39_60 : gm_ft 39 60 = some (.bipush 8, 2) := by decide +kernel
theorem r39_60 {E : Nat → Value} {d : Nat} {st : List Value} {h : gm_H} {Q : gm_R → gm_H → Prop} {lv : List Value} : gm_W E d 39 60 lv st h Q ↔ gm_W E d 39 62 lv (.int (8 : Int32) :: st) h Q := gw_pure m39 f39_60 rfl
theorem f39_62 : gm_ft 39 62 = some (.iload_n 2, 1) := by decide +kernel
theorem r39_62 {E : Nat → Value} {d : Nat} {st : List Value} {h : gm_H} {Q : gm_R → gm_H → Prop} {a0 a1 a3 a4 a5 a6 a7 : Value} {x : Int32} : gm_W E d 39 62 [a0, a1, .int x, a3, a4, a5, a6, a7] st h Q ↔ gm_W E d 39 63 [a0, a1, .int x, a3, a4, a5, a6, a7] (.int x :: st) h Q := gw_loc m39 f39_62 rfl rfl
theorem f39_63 : gm_ft 39 63 = some (.imul, 1) := by decide +kernel
theorem r39_63 {E : Nat → Value} {d : Nat} {st : List Value} {h : gm_H} {Q : gm_R → gm_H → Prop} {lv : List Value} {x y : Int32} : gm_W E d 39 63 lv (.int y :: .int x :: st) h Q ↔ gm_W E d 39 64 lv (.int (x * y) :: st) h Q := gw_pure m39 f39_63 rfl
theorem f39_64 : gm_ft 39 64 = some (.iload_n 3, 1) := by decide +kernel
theorem r39_64 {E : Nat → Value} {d : Nat} {st : List Value} {h : gm_H} {Q : gm_R → gm_H → Prop} {a0 a1 a2 a4 a5 a6 a7 : Value} {x : Int32} : gm_W E d 39 64 [a0, a1, a2, .int x, a4, a5, a6, a7] st h Q ↔ gm_W E d 39 65 [a0, a1, a2, .int x, a4, a5, a6, a7] (.int x :: st) h Q := gw_loc m39 f39_64 rfl rfl
theorem f39_65 : gm_ft 39 65 = some (.iadd, 1) := by decide +kernel
theorem r39_65 {E : Nat → Value} {d : Nat} {st : List Value} {h : gm_H} {Q : gm_R → gm_H → Prop} {lv : List Value} {x y : Int32} : gm_W E d 39 65 lv (.int y :: .int x :: st) h Q ↔ gm_W E d 39 66 lv (.int (x + y) :: st) h Q := gw_pure m39 f39_65 rfl
theorem f39_66 : gm_ft 39 66 = some (.iaload, 1) := by decide +kernel
theorem r39_66 {E : Nat → Value} {d : Nat} {st : List Value} {h : gm_H} {Q : gm_R → gm_H → Prop} {lv : List Value} {a j : Nat} (hk : gm_kd h a % 100 = 0 ∧ 100 ≤ gm_kd h a ∧ gm_kd h a < 900) (hj : j < gm_ln h a) (hl : gm_ln h a < 2 ^ 31) : gm_W E d 39 66 lv (.int (nI j) :: .ref a :: st) h Q ↔ gm_W E d 39 67 lv (gm_fv h a j :: st) h Q := gw_rd m39 f39_66 rfl rfl rfl rfl (gs_ld (P := fun t => t == 0) hk.2 (by have := hk.1; simp [this] <;> omega) hj hl)
theorem f39_67 : gm_ft 39 67 = some (.if_icmp .ne 94, 3) := by decide +kernel
theorem r39_67 {E : Nat → Value} {d : Nat} {st : List Value} {h : gm_H} {Q : gm_R → gm_H → Prop} {lv : List Value} {x y : Int32} : gm_W E d 39 67 lv (.int y :: .int x :: st) h Q ↔ (if x = y then gm_W E d 39 70 lv st h Q else gm_W E d 39 161 lv st h Q) := (gw_br m39 f39_67 rfl rfl rfl rfl).trans gw_ifn
theorem f39_70 : gm_ft 39 70 = some (.aload_n 0, 1) := by decide +kernel
theorem r39_70 {E : Nat → Value} {d : Nat} {st : List Value} {h : gm_H} {Q : gm_R → gm_H → Prop} {a1 a2 a3 a4 a5 a6 a7 : Value} {x : Nat} : gm_W E d 39 70 [.ref x, a1, a2, a3, a4, a5, a6, a7] st h Q ↔ gm_W E d 39 71 [.ref x, a1, a2, a3, a4, a5, a6, a7] (.ref x :: st) h Q := gw_loc m39 f39_70 rfl rfl
theorem r39_70n {E : Nat → Value} {d : Nat} {st : List Value} {h : gm_H} {Q : gm_R → gm_H → Prop} {a1 a2 a3 a4 a5 a6 a7 : Value}  : gm_W E d 39 70 [.null, a1, a2, a3, a4, a5, a6, a7] st h Q ↔ gm_W E d 39 71 [.null, a1, a2, a3, a4, a5, a6, a7] (.null :: st) h Q := gw_loc m39 f39_70 rfl rfl
theorem f39_71 : gm_ft 39 71 = some (.getfield 29, 3) := by decide +kernel
theorem r39_71 {E : Nat → Value} {d : Nat} {st : List Value} {h : gm_H} {Q : gm_R → gm_H → Prop} {lv : List Value} {a : Nat} (hk : gm_kd h a = 5) : gm_W E d 39 71 lv (.ref a :: st) h Q ↔ gm_W E d 39 74 lv (gm_fv h a 15 :: st) h Q := gw_rd m39 f39_71 rfl rfl rfl rfl (gs_get k5_29 hk (by decide))
theorem f39_74 : gm_ft 39 74 = some (.iconst 4, 1) := by decide +kernel
theorem r39_74 {E : Nat → Value} {d : Nat} {st : List Value} {h : gm_H} {Q : gm_R → gm_H → Prop} {lv : List Value} : gm_W E d 39 74 lv st h Q ↔ gm_W E d 39 75 lv (.int (4 : Int32) :: st) h Q := gw_pure m39 f39_74 rfl
theorem f39_75 : gm_ft 39 75 = some (.iload 6, 2) := by decide +kernel
theorem r39_75 {E : Nat → Value} {d : Nat} {st : List Value} {h : gm_H} {Q : gm_R → gm_H → Prop} {a0 a1 a2 a3 a4 a5 a7 : Value} {x : Int32} : gm_W E d 39 75 [a0, a1, a2, a3, a4, a5, .int x, a7] st h Q ↔ gm_W E d 39 77 [a0, a1, a2, a3, a4, a5, .int x, a7] (.int x :: st) h Q := gw_loc m39 f39_75 rfl rfl
theorem f39_77 : gm_ft 39 77 = some (.imul, 1) := by decide +kernel
theorem r39_77 {E : Nat → Value} {d : Nat} {st : List Value} {h : gm_H} {Q : gm_R → gm_H → Prop} {lv : List Value} {x y : Int32} : gm_W E d 39 77 lv (.int y :: .int x :: st) h Q ↔ gm_W E d 39 78 lv (.int (x * y) :: st) h Q := gw_pure m39 f39_77 rfl
theorem f39_78 : gm_ft 39 78 = some (.iload 7, 2) := by decide +kernel
theorem r39_78 {E : Nat → Value} {d : Nat} {st : List Value} {h : gm_H} {Q : gm_R → gm_H → Prop} {a0 a1 a2 a3 a4 a5 a6 : Value} {x : Int32} : gm_W E d 39 78 [a0, a1, a2, a3, a4, a5, a6, .int x] st h Q ↔ gm_W E d 39 80 [a0, a1, a2, a3, a4, a5, a6, .int x] (.int x :: st) h Q := gw_loc m39 f39_78 rfl rfl
theorem f39_80 : gm_ft 39 80 = some (.iadd, 1) := by decide +kernel
theorem r39_80 {E : Nat → Value} {d : Nat} {st : List Value} {h : gm_H} {Q : gm_R → gm_H → Prop} {lv : List Value} {x y : Int32} : gm_W E d 39 80 lv (.int y :: .int x :: st) h Q ↔ gm_W E d 39 81 lv (.int (x + y) :: st) h Q := gw_pure m39 f39_80 rfl
theorem f39_81 : gm_ft 39 81 = some (.iaload, 1) := by decide +kernel
theorem r39_81 {E : Nat → Value} {d : Nat} {st : List Value} {h : gm_H} {Q : gm_R → gm_H → Prop} {lv : List Value} {a j : Nat} (hk : gm_kd h a % 100 = 0 ∧ 100 ≤ gm_kd h a ∧ gm_kd h a < 900) (hj : j < gm_ln h a) (hl : gm_ln h a < 2 ^ 31) : gm_W E d 39 81 lv (.int (nI j) :: .ref a :: st) h Q ↔ gm_W E d 39 82 lv (gm_fv h a j :: st) h Q := gw_rd m39 f39_81 rfl rfl rfl rfl (gs_ld (P := fun t => t == 0) hk.2 (by have := hk.1; simp [this] <;> omega) hj hl)
theorem f39_82 : gm_ft 39 82 = some (.aload_n 0, 1) := by decide +kernel
theorem r39_82 {E : Nat → Value} {d : Nat} {st : List Value} {h : gm_H} {Q : gm_R → gm_H → Prop} {a1 a2 a3 a4 a5 a6 a7 : Value} {x : Nat} : gm_W E d 39 82 [.ref x, a1, a2, a3, a4, a5, a6, a7] st h Q ↔ gm_W E d 39 83 [.ref x, a1, a2, a3, a4, a5, a6, a7] (.ref x :: st) h Q := gw_loc m39 f39_82 rfl rfl
theorem r39_82n {E : Nat → Value} {d : Nat} {st : List Value} {h : gm_H} {Q : gm_R → gm_H → Prop} {a1 a2 a3 a4 a5 a6 a7 : Value}  : gm_W E d 39 82 [.null, a1, a2, a3, a4, a5, a6, a7] st h Q ↔ gm_W E d 39 83 [.null, a1, a2, a3, a4, a5, a6, a7] (.null :: st) h Q := gw_loc m39 f39_82 rfl rfl
theorem f39_83 : gm_ft 39 83 = some (.getfield 87, 3) := by decide +kernel
theorem r39_83 {E : Nat → Value} {d : Nat} {st : List Value} {h : gm_H} {Q : gm_R → gm_H → Prop} {lv : List Value} {a : Nat} (hk : gm_kd h a = 5) : gm_W E d 39 83 lv (.ref a :: st) h Q ↔ gm_W E d 39 86 lv (gm_fv h a 37 :: st) h Q := gw_rd m39 f39_83 rfl rfl rfl rfl (gs_get k5_87 hk (by decide))
theorem f39_86 : gm_ft 39 86 = some (.bipush 8, 2) := by decide +kernel
theorem r39_86 {E : Nat → Value} {d : Nat} {st : List Value} {h : gm_H} {Q : gm_R → gm_H → Prop} {lv : List Value} : gm_W E d 39 86 lv st h Q ↔ gm_W E d 39 88 lv (.int (8 : Int32) :: st) h Q := gw_pure m39 f39_86 rfl
theorem f39_88 : gm_ft 39 88 = some (.iload_n 2, 1) := by decide +kernel
theorem r39_88 {E : Nat → Value} {d : Nat} {st : List Value} {h : gm_H} {Q : gm_R → gm_H → Prop} {a0 a1 a3 a4 a5 a6 a7 : Value} {x : Int32} : gm_W E d 39 88 [a0, a1, .int x, a3, a4, a5, a6, a7] st h Q ↔ gm_W E d 39 89 [a0, a1, .int x, a3, a4, a5, a6, a7] (.int x :: st) h Q := gw_loc m39 f39_88 rfl rfl
theorem f39_89 : gm_ft 39 89 = some (.imul, 1) := by decide +kernel
theorem r39_89 {E : Nat → Value} {d : Nat} {st : List Value} {h : gm_H} {Q : gm_R → gm_H → Prop} {lv : List Value} {x y : Int32} : gm_W E d 39 89 lv (.int y :: .int x :: st) h Q ↔ gm_W E d 39 90 lv (.int (x * y) :: st) h Q := gw_pure m39 f39_89 rfl
theorem f39_90 : gm_ft 39 90 = some (.iload_n 3, 1) := by decide +kernel
theorem r39_90 {E : Nat → Value} {d : Nat} {st : List Value} {h : gm_H} {Q : gm_R → gm_H → Prop} {a0 a1 a2 a4 a5 a6 a7 : Value} {x : Int32} : gm_W E d 39 90 [a0, a1, a2, .int x, a4, a5, a6, a7] st h Q ↔ gm_W E d 39 91 [a0, a1, a2, .int x, a4, a5, a6, a7] (.int x :: st) h Q := gw_loc m39 f39_90 rfl rfl
theorem f39_91 : gm_ft 39 91 = some (.iadd, 1) := by decide +kernel
theorem r39_91 {E : Nat → Value} {d : Nat} {st : List Value} {h : gm_H} {Q : gm_R → gm_H → Prop} {lv : List Value} {x y : Int32} : gm_W E d 39 91 lv (.int y :: .int x :: st) h Q ↔ gm_W E d 39 92 lv (.int (x + y) :: st) h Q := gw_pure m39 f39_91 rfl
theorem f39_92 : gm_ft 39 92 = some (.iaload, 1) := by decide +kernel
theorem r39_92 {E : Nat → Value} {d : Nat} {st : List Value} {h : gm_H} {Q : gm_R → gm_H → Prop} {lv : List Value} {a j : Nat} (hk : gm_kd h a % 100 = 0 ∧ 100 ≤ gm_kd h a ∧ gm_kd h a < 900) (hj : j < gm_ln h a) (hl : gm_ln h a < 2 ^ 31) : gm_W E d 39 92 lv (.int (nI j) :: .ref a :: st) h Q ↔ gm_W E d 39 93 lv (gm_fv h a j :: st) h Q := gw_rd m39 f39_92 rfl rfl rfl rfl (gs_ld (P := fun t => t == 0) hk.2 (by have := hk.1; simp [this] <;> omega) hj hl)
theorem f39_93 : gm_ft 39 93 = some (.if_icmp .ne 68, 3) := by decide +kernel
theorem r39_93 {E : Nat → Value} {d : Nat} {st : List Value} {h : gm_H} {Q : gm_R → gm_H → Prop} {lv : List Value} {x y : Int32} : gm_W E d 39 93 lv (.int y :: .int x :: st) h Q ↔ (if x = y then gm_W E d 39 96 lv st h Q else gm_W E d 39 161 lv st h Q) := (gw_br m39 f39_93 rfl rfl rfl rfl).trans gw_ifn
theorem f39_96 : gm_ft 39 96 = some (.aload_n 0, 1) := by decide +kernel
theorem r39_96 {E : Nat → Value} {d : Nat} {st : List Value} {h : gm_H} {Q : gm_R → gm_H → Prop} {a1 a2 a3 a4 a5 a6 a7 : Value} {x : Nat} : gm_W E d 39 96 [.ref x, a1, a2, a3, a4, a5, a6, a7] st h Q ↔ gm_W E d 39 97 [.ref x, a1, a2, a3, a4, a5, a6, a7] (.ref x :: st) h Q := gw_loc m39 f39_96 rfl rfl
theorem r39_96n {E : Nat → Value} {d : Nat} {st : List Value} {h : gm_H} {Q : gm_R → gm_H → Prop} {a1 a2 a3 a4 a5 a6 a7 : Value}  : gm_W E d 39 96 [.null, a1, a2, a3, a4, a5, a6, a7] st h Q ↔ gm_W E d 39 97 [.null, a1, a2, a3, a4, a5, a6, a7] (.null :: st) h Q := gw_loc m39 f39_96 rfl rfl
theorem f39_97 : gm_ft 39 97 = some (.getfield 29, 3) := by decide +kernel
theorem r39_97 {E : Nat → Value} {d : Nat} {st : List Value} {h : gm_H} {Q : gm_R → gm_H → Prop} {lv : List Value} {a : Nat} (hk : gm_kd h a = 5) : gm_W E d 39 97 lv (.ref a :: st) h Q ↔ gm_W E d 39 100 lv (gm_fv h a 15 :: st) h Q := gw_rd m39 f39_97 rfl rfl rfl rfl (gs_get k5_29 hk (by decide))
theorem f39_100 : gm_ft 39 100 = some (.iconst 4, 1) := by decide +kernel
theorem r39_100 {E : Nat → Value} {d : Nat} {st : List Value} {h : gm_H} {Q : gm_R → gm_H → Prop} {lv : List Value} : gm_W E d 39 100 lv st h Q ↔ gm_W E d 39 101 lv (.int (4 : Int32) :: st) h Q := gw_pure m39 f39_100 rfl
theorem f39_101 : gm_ft 39 101 = some (.iload 6, 2) := by decide +kernel
theorem r39_101 {E : Nat → Value} {d : Nat} {st : List Value} {h : gm_H} {Q : gm_R → gm_H → Prop} {a0 a1 a2 a3 a4 a5 a7 : Value} {x : Int32} : gm_W E d 39 101 [a0, a1, a2, a3, a4, a5, .int x, a7] st h Q ↔ gm_W E d 39 103 [a0, a1, a2, a3, a4, a5, .int x, a7] (.int x :: st) h Q := gw_loc m39 f39_101 rfl rfl
theorem f39_103 : gm_ft 39 103 = some (.imul, 1) := by decide +kernel
theorem r39_103 {E : Nat → Value} {d : Nat} {st : List Value} {h : gm_H} {Q : gm_R → gm_H → Prop} {lv : List Value} {x y : Int32} : gm_W E d 39 103 lv (.int y :: .int x :: st) h Q ↔ gm_W E d 39 104 lv (.int (x * y) :: st) h Q := gw_pure m39 f39_103 rfl
theorem f39_104 : gm_ft 39 104 = some (.iload 7, 2) := by decide +kernel
theorem r39_104 {E : Nat → Value} {d : Nat} {st : List Value} {h : gm_H} {Q : gm_R → gm_H → Prop} {a0 a1 a2 a3 a4 a5 a6 : Value} {x : Int32} : gm_W E d 39 104 [a0, a1, a2, a3, a4, a5, a6, .int x] st h Q ↔ gm_W E d 39 106 [a0, a1, a2, a3, a4, a5, a6, .int x] (.int x :: st) h Q := gw_loc m39 f39_104 rfl rfl
theorem f39_106 : gm_ft 39 106 = some (.iadd, 1) := by decide +kernel
theorem r39_106 {E : Nat → Value} {d : Nat} {st : List Value} {h : gm_H} {Q : gm_R → gm_H → Prop} {lv : List Value} {x y : Int32} : gm_W E d 39 106 lv (.int y :: .int x :: st) h Q ↔ gm_W E d 39 107 lv (.int (x + y) :: st) h Q := gw_pure m39 f39_106 rfl
theorem f39_107 : gm_ft 39 107 = some (.iaload, 1) := by decide +kernel
theorem r39_107 {E : Nat → Value} {d : Nat} {st : List Value} {h : gm_H} {Q : gm_R → gm_H → Prop} {lv : List Value} {a j : Nat} (hk : gm_kd h a % 100 = 0 ∧ 100 ≤ gm_kd h a ∧ gm_kd h a < 900) (hj : j < gm_ln h a) (hl : gm_ln h a < 2 ^ 31) : gm_W E d 39 107 lv (.int (nI j) :: .ref a :: st) h Q ↔ gm_W E d 39 108 lv (gm_fv h a j :: st) h Q := gw_rd m39 f39_107 rfl rfl rfl rfl (gs_ld (P := fun t => t == 0) hk.2 (by have := hk.1; simp [this] <;> omega) hj hl)
theorem f39_108 : gm_ft 39 108 = some (.bipush 6, 2) := by decide +kernel
theorem r39_108 {E : Nat → Value} {d : Nat} {st : List Value} {h : gm_H} {Q : gm_R → gm_H → Prop} {lv : List Value} : gm_W E d 39 108 lv st h Q ↔ gm_W E d 39 110 lv (.int (6 : Int32) :: st) h Q := gw_pure m39 f39_108 rfl
theorem f39_110 : gm_ft 39 110 = some (.if_icmp .ne 28, 3) := by decide +kernel
theorem r39_110 {E : Nat → Value} {d : Nat} {st : List Value} {h : gm_H} {Q : gm_R → gm_H → Prop} {lv : List Value} {x y : Int32} : gm_W E d 39 110 lv (.int y :: .int x :: st) h Q ↔ (if x = y then gm_W E d 39 113 lv st h Q else gm_W E d 39 138 lv st h Q) := (gw_br m39 f39_110 rfl rfl rfl rfl).trans gw_ifn
theorem f39_113 : gm_ft 39 113 = some (.lload 4, 2) := by decide +kernel
theorem r39_113 {E : Nat → Value} {d : Nat} {st : List Value} {h : gm_H} {Q : gm_R → gm_H → Prop} {a0 a1 a2 a3 a5 a6 a7 : Value} {x : Int64} : gm_W E d 39 113 [a0, a1, a2, a3, .long x, a5, a6, a7] st h Q ↔ gm_W E d 39 115 [a0, a1, a2, a3, .long x, a5, a6, a7] (.long x :: st) h Q := gw_loc m39 f39_113 rfl rfl
theorem f39_115 : gm_ft 39 115 = some (.lconst 0, 1) := by decide +kernel
theorem r39_115 {E : Nat → Value} {d : Nat} {st : List Value} {h : gm_H} {Q : gm_R → gm_H → Prop} {lv : List Value} : gm_W E d 39 115 lv st h Q ↔ gm_W E d 39 116 lv (.long 0 :: st) h Q := gw_pure m39 f39_115 rfl
theorem f39_116 : gm_ft 39 116 = some (.lcmp, 1) := by decide +kernel
theorem r39_116 {E : Nat → Value} {d : Nat} {st : List Value} {h : gm_H} {Q : gm_R → gm_H → Prop} {lv : List Value} {x y : Int64} : gm_W E d 39 116 lv (.long y :: .long x :: st) h Q ↔ gm_W E d 39 117 lv (.int (lg_cmp x y) :: st) h Q := gw_pure m39 f39_116 rfl
theorem f39_117 : gm_ft 39 117 = some (.ifCond .lt 21, 3) := by decide +kernel
theorem r39_117 {E : Nat → Value} {d : Nat} {st : List Value} {h : gm_H} {Q : gm_R → gm_H → Prop} {lv : List Value} {x : Int32} : gm_W E d 39 117 lv (.int x :: st) h Q ↔ (if x < 0 then gm_W E d 39 138 lv st h Q else gm_W E d 39 120 lv st h Q) := (gw_br m39 f39_117 rfl rfl rfl rfl).trans gw_if
theorem f39_120 : gm_ft 39 120 = some (.aload_n 0, 1) := by decide +kernel
theorem r39_120 {E : Nat → Value} {d : Nat} {st : List Value} {h : gm_H} {Q : gm_R → gm_H → Prop} {a1 a2 a3 a4 a5 a6 a7 : Value} {x : Nat} : gm_W E d 39 120 [.ref x, a1, a2, a3, a4, a5, a6, a7] st h Q ↔ gm_W E d 39 121 [.ref x, a1, a2, a3, a4, a5, a6, a7] (.ref x :: st) h Q := gw_loc m39 f39_120 rfl rfl
theorem r39_120n {E : Nat → Value} {d : Nat} {st : List Value} {h : gm_H} {Q : gm_R → gm_H → Prop} {a1 a2 a3 a4 a5 a6 a7 : Value}  : gm_W E d 39 120 [.null, a1, a2, a3, a4, a5, a6, a7] st h Q ↔ gm_W E d 39 121 [.null, a1, a2, a3, a4, a5, a6, a7] (.null :: st) h Q := gw_loc m39 f39_120 rfl rfl
theorem f39_121 : gm_ft 39 121 = some (.getfield 39, 3) := by decide +kernel
theorem r39_121 {E : Nat → Value} {d : Nat} {st : List Value} {h : gm_H} {Q : gm_R → gm_H → Prop} {lv : List Value} {a : Nat} (hk : gm_kd h a = 5) : gm_W E d 39 121 lv (.ref a :: st) h Q ↔ gm_W E d 39 124 lv (gm_fv h a 18 :: st) h Q := gw_rd m39 f39_121 rfl rfl rfl rfl (gs_get k5_39 hk (by decide))
theorem f39_124 : gm_ft 39 124 = some (.lload 4, 2) := by decide +kernel
theorem r39_124 {E : Nat → Value} {d : Nat} {st : List Value} {h : gm_H} {Q : gm_R → gm_H → Prop} {a0 a1 a2 a3 a5 a6 a7 : Value} {x : Int64} : gm_W E d 39 124 [a0, a1, a2, a3, .long x, a5, a6, a7] st h Q ↔ gm_W E d 39 126 [a0, a1, a2, a3, .long x, a5, a6, a7] (.long x :: st) h Q := gw_loc m39 f39_124 rfl rfl
theorem f39_126 : gm_ft 39 126 = some (.l2i, 1) := by decide +kernel
theorem r39_126 {E : Nat → Value} {d : Nat} {st : List Value} {h : gm_H} {Q : gm_R → gm_H → Prop} {lv : List Value} {x : Int64} : gm_W E d 39 126 lv (.long x :: st) h Q ↔ gm_W E d 39 127 lv (.int (x.toInt32) :: st) h Q := gw_pure m39 f39_126 rfl
theorem f39_127 : gm_ft 39 127 = some (.iaload, 1) := by decide +kernel
theorem r39_127 {E : Nat → Value} {d : Nat} {st : List Value} {h : gm_H} {Q : gm_R → gm_H → Prop} {lv : List Value} {a j : Nat} (hk : gm_kd h a % 100 = 0 ∧ 100 ≤ gm_kd h a ∧ gm_kd h a < 900) (hj : j < gm_ln h a) (hl : gm_ln h a < 2 ^ 31) : gm_W E d 39 127 lv (.int (nI j) :: .ref a :: st) h Q ↔ gm_W E d 39 128 lv (gm_fv h a j :: st) h Q := gw_rd m39 f39_127 rfl rfl rfl rfl (gs_ld (P := fun t => t == 0) hk.2 (by have := hk.1; simp [this] <;> omega) hj hl)
theorem f39_128 : gm_ft 39 128 = some (.iconst 2, 1) := by decide +kernel
theorem r39_128 {E : Nat → Value} {d : Nat} {st : List Value} {h : gm_H} {Q : gm_R → gm_H → Prop} {lv : List Value} : gm_W E d 39 128 lv st h Q ↔ gm_W E d 39 129 lv (.int (2 : Int32) :: st) h Q := gw_pure m39 f39_128 rfl
theorem f39_129 : gm_ft 39 129 = some (.if_icmp .eq 9, 3) := by decide +kernel
theorem r39_129 {E : Nat → Value} {d : Nat} {st : List Value} {h : gm_H} {Q : gm_R → gm_H → Prop} {lv : List Value} {x y : Int32} : gm_W E d 39 129 lv (.int y :: .int x :: st) h Q ↔ (if x = y then gm_W E d 39 138 lv st h Q else gm_W E d 39 132 lv st h Q) := (gw_br m39 f39_129 rfl rfl rfl rfl).trans gw_if
theorem f39_132 : gm_ft 39 132 = some (.aload_n 0, 1) := by decide +kernel
theorem r39_132 {E : Nat → Value} {d : Nat} {st : List Value} {h : gm_H} {Q : gm_R → gm_H → Prop} {a1 a2 a3 a4 a5 a6 a7 : Value} {x : Nat} : gm_W E d 39 132 [.ref x, a1, a2, a3, a4, a5, a6, a7] st h Q ↔ gm_W E d 39 133 [.ref x, a1, a2, a3, a4, a5, a6, a7] (.ref x :: st) h Q := gw_loc m39 f39_132 rfl rfl
theorem r39_132n {E : Nat → Value} {d : Nat} {st : List Value} {h : gm_H} {Q : gm_R → gm_H → Prop} {a1 a2 a3 a4 a5 a6 a7 : Value}  : gm_W E d 39 132 [.null, a1, a2, a3, a4, a5, a6, a7] st h Q ↔ gm_W E d 39 133 [.null, a1, a2, a3, a4, a5, a6, a7] (.null :: st) h Q := gw_loc m39 f39_132 rfl rfl
theorem f39_133 : gm_ft 39 133 = some (.bipush (-6), 2) := by decide +kernel
theorem r39_133 {E : Nat → Value} {d : Nat} {st : List Value} {h : gm_H} {Q : gm_R → gm_H → Prop} {lv : List Value} : gm_W E d 39 133 lv st h Q ↔ gm_W E d 39 135 lv (.int (-6 : Int32) :: st) h Q := gw_pure m39 f39_133 rfl
theorem f39_135 : gm_ft 39 135 = some (.invokevirtual 151, 3) := by decide +kernel
theorem c39_135 {E : Nat → Value} {d : Nat} {st : List Value} {h : gm_H} {Q : gm_R → gm_H → Prop} {lv : List Value} {b0 : Int32} {a : Nat} {Qc : gm_R → gm_H → Prop} (hs : (st.map fun v => v.category).sum ≤ 8) (hr : gm_kd h a = 5) (hd : 1 ≤ d) (hc : gm_Ca E (d - 1) 10 [.ref a, .int b0] h Qc) (kn : ∀ (v9 : Option Value) (h9 : gm_H), Qc (.inl v9) h9 → gm_W E d 39 138 lv (v9.toList ++ st) h9 Q) (kx : ∀ (x9 : Nat) (h9 : gm_H), Qc (.inr x9) h9 → Q (.inr x9) h9) : gm_W E d 39 135 lv (.int b0 :: .ref a :: st) h Q := gw_call (gn_call m39 f39_135 rfl rfl rfl rfl rfl rfl rfl (gs_virt (bs := [.int b0]) (w := 844) (L := 2) rfl rfl rfl rfl hs (by simp [gm_en1]) hr (by decide)) (by decide)) m39 rfl rfl hd hc kn kx
theorem f39_138 : gm_ft 39 138 = some (.aload_n 0, 1) := by decide +kernel
theorem r39_138 {E : Nat → Value} {d : Nat} {st : List Value} {h : gm_H} {Q : gm_R → gm_H → Prop} {a1 a2 a3 a4 a5 a6 a7 : Value} {x : Nat} : gm_W E d 39 138 [.ref x, a1, a2, a3, a4, a5, a6, a7] st h Q ↔ gm_W E d 39 139 [.ref x, a1, a2, a3, a4, a5, a6, a7] (.ref x :: st) h Q := gw_loc m39 f39_138 rfl rfl
theorem r39_138n {E : Nat → Value} {d : Nat} {st : List Value} {h : gm_H} {Q : gm_R → gm_H → Prop} {a1 a2 a3 a4 a5 a6 a7 : Value}  : gm_W E d 39 138 [.null, a1, a2, a3, a4, a5, a6, a7] st h Q ↔ gm_W E d 39 139 [.null, a1, a2, a3, a4, a5, a6, a7] (.null :: st) h Q := gw_loc m39 f39_138 rfl rfl
theorem f39_139 : gm_ft 39 139 = some (.getfield 54, 3) := by decide +kernel
theorem r39_139 {E : Nat → Value} {d : Nat} {st : List Value} {h : gm_H} {Q : gm_R → gm_H → Prop} {lv : List Value} {a : Nat} (hk : gm_kd h a = 5) : gm_W E d 39 139 lv (.ref a :: st) h Q ↔ gm_W E d 39 142 lv (gm_fv h a 24 :: st) h Q := gw_rd m39 f39_139 rfl rfl rfl rfl (gs_get k5_54 hk (by decide))
theorem f39_142 : gm_ft 39 142 = some (.aload_n 0, 1) := by decide +kernel
theorem r39_142 {E : Nat → Value} {d : Nat} {st : List Value} {h : gm_H} {Q : gm_R → gm_H → Prop} {a1 a2 a3 a4 a5 a6 a7 : Value} {x : Nat} : gm_W E d 39 142 [.ref x, a1, a2, a3, a4, a5, a6, a7] st h Q ↔ gm_W E d 39 143 [.ref x, a1, a2, a3, a4, a5, a6, a7] (.ref x :: st) h Q := gw_loc m39 f39_142 rfl rfl
theorem r39_142n {E : Nat → Value} {d : Nat} {st : List Value} {h : gm_H} {Q : gm_R → gm_H → Prop} {a1 a2 a3 a4 a5 a6 a7 : Value}  : gm_W E d 39 142 [.null, a1, a2, a3, a4, a5, a6, a7] st h Q ↔ gm_W E d 39 143 [.null, a1, a2, a3, a4, a5, a6, a7] (.null :: st) h Q := gw_loc m39 f39_142 rfl rfl
theorem f39_143 : gm_ft 39 143 = some (.getfield 48, 3) := by decide +kernel
theorem r39_143 {E : Nat → Value} {d : Nat} {st : List Value} {h : gm_H} {Q : gm_R → gm_H → Prop} {lv : List Value} {a : Nat} (hk : gm_kd h a = 5) : gm_W E d 39 143 lv (.ref a :: st) h Q ↔ gm_W E d 39 146 lv (gm_fv h a 21 :: st) h Q := gw_rd m39 f39_143 rfl rfl rfl rfl (gs_get k5_48 hk (by decide))
theorem f39_146 : gm_ft 39 146 = some (.iload_n 1, 1) := by decide +kernel
theorem r39_146 {E : Nat → Value} {d : Nat} {st : List Value} {h : gm_H} {Q : gm_R → gm_H → Prop} {a0 a2 a3 a4 a5 a6 a7 : Value} {x : Int32} : gm_W E d 39 146 [a0, .int x, a2, a3, a4, a5, a6, a7] st h Q ↔ gm_W E d 39 147 [a0, .int x, a2, a3, a4, a5, a6, a7] (.int x :: st) h Q := gw_loc m39 f39_146 rfl rfl
theorem f39_147 : gm_ft 39 147 = some (.iaload, 1) := by decide +kernel
theorem r39_147 {E : Nat → Value} {d : Nat} {st : List Value} {h : gm_H} {Q : gm_R → gm_H → Prop} {lv : List Value} {a j : Nat} (hk : gm_kd h a % 100 = 0 ∧ 100 ≤ gm_kd h a ∧ gm_kd h a < 900) (hj : j < gm_ln h a) (hl : gm_ln h a < 2 ^ 31) : gm_W E d 39 147 lv (.int (nI j) :: .ref a :: st) h Q ↔ gm_W E d 39 148 lv (gm_fv h a j :: st) h Q := gw_rd m39 f39_147 rfl rfl rfl rfl (gs_ld (P := fun t => t == 0) hk.2 (by have := hk.1; simp [this] <;> omega) hj hl)
theorem f39_148 : gm_ft 39 148 = some (.aload_n 0, 1) := by decide +kernel
theorem r39_148 {E : Nat → Value} {d : Nat} {st : List Value} {h : gm_H} {Q : gm_R → gm_H → Prop} {a1 a2 a3 a4 a5 a6 a7 : Value} {x : Nat} : gm_W E d 39 148 [.ref x, a1, a2, a3, a4, a5, a6, a7] st h Q ↔ gm_W E d 39 149 [.ref x, a1, a2, a3, a4, a5, a6, a7] (.ref x :: st) h Q := gw_loc m39 f39_148 rfl rfl
theorem r39_148n {E : Nat → Value} {d : Nat} {st : List Value} {h : gm_H} {Q : gm_R → gm_H → Prop} {a1 a2 a3 a4 a5 a6 a7 : Value}  : gm_W E d 39 148 [.null, a1, a2, a3, a4, a5, a6, a7] st h Q ↔ gm_W E d 39 149 [.null, a1, a2, a3, a4, a5, a6, a7] (.null :: st) h Q := gw_loc m39 f39_148 rfl rfl
theorem f39_149 : gm_ft 39 149 = some (.iload 6, 2) := by decide +kernel
theorem r39_149 {E : Nat → Value} {d : Nat} {st : List Value} {h : gm_H} {Q : gm_R → gm_H → Prop} {a0 a1 a2 a3 a4 a5 a7 : Value} {x : Int32} : gm_W E d 39 149 [a0, a1, a2, a3, a4, a5, .int x, a7] st h Q ↔ gm_W E d 39 151 [a0, a1, a2, a3, a4, a5, .int x, a7] (.int x :: st) h Q := gw_loc m39 f39_149 rfl rfl
theorem f39_151 : gm_ft 39 151 = some (.invokevirtual 208, 3) := by decide +kernel
theorem c39_151 {E : Nat → Value} {d : Nat} {st : List Value} {h : gm_H} {Q : gm_R → gm_H → Prop} {lv : List Value} {b0 : Int32} {a : Nat} {Qc : gm_R → gm_H → Prop} (hs : (st.map fun v => v.category).sum ≤ 8) (hr : gm_kd h a = 5) (hd : 1 ≤ d) (hc : gm_Ca E (d - 1) 20 [.ref a, .int b0] h Qc) (kn : ∀ (v9 : Option Value) (h9 : gm_H), Qc (.inl v9) h9 → gm_W E d 39 154 lv (v9.toList ++ st) h9 Q) (kx : ∀ (x9 : Nat) (h9 : gm_H), Qc (.inr x9) h9 → Q (.inr x9) h9) : gm_W E d 39 151 lv (.int b0 :: .ref a :: st) h Q := gw_call (gn_call m39 f39_151 rfl rfl rfl rfl rfl rfl rfl (gs_virt (bs := [.int b0]) (w := 905) (L := 4) rfl rfl rfl rfl hs (by simp [gm_en1]) hr (by decide)) (by decide)) m39 rfl rfl hd hc kn kx
theorem f39_154 : gm_ft 39 154 = some (.iadd, 1) := by decide +kernel
theorem r39_154 {E : Nat → Value} {d : Nat} {st : List Value} {h : gm_H} {Q : gm_R → gm_H → Prop} {lv : List Value} {x y : Int32} : gm_W E d 39 154 lv (.int y :: .int x :: st) h Q ↔ gm_W E d 39 155 lv (.int (x + y) :: st) h Q := gw_pure m39 f39_154 rfl
theorem f39_155 : gm_ft 39 155 = some (.iload 7, 2) := by decide +kernel
theorem r39_155 {E : Nat → Value} {d : Nat} {st : List Value} {h : gm_H} {Q : gm_R → gm_H → Prop} {a0 a1 a2 a3 a4 a5 a6 : Value} {x : Int32} : gm_W E d 39 155 [a0, a1, a2, a3, a4, a5, a6, .int x] st h Q ↔ gm_W E d 39 157 [a0, a1, a2, a3, a4, a5, a6, .int x] (.int x :: st) h Q := gw_loc m39 f39_155 rfl rfl
theorem f39_157 : gm_ft 39 157 = some (.iadd, 1) := by decide +kernel
theorem r39_157 {E : Nat → Value} {d : Nat} {st : List Value} {h : gm_H} {Q : gm_R → gm_H → Prop} {lv : List Value} {x y : Int32} : gm_W E d 39 157 lv (.int y :: .int x :: st) h Q ↔ gm_W E d 39 158 lv (.int (x + y) :: st) h Q := gw_pure m39 f39_157 rfl
theorem f39_158 : gm_ft 39 158 = some (.lload 4, 2) := by decide +kernel
theorem r39_158 {E : Nat → Value} {d : Nat} {st : List Value} {h : gm_H} {Q : gm_R → gm_H → Prop} {a0 a1 a2 a3 a5 a6 a7 : Value} {x : Int64} : gm_W E d 39 158 [a0, a1, a2, a3, .long x, a5, a6, a7] st h Q ↔ gm_W E d 39 160 [a0, a1, a2, a3, .long x, a5, a6, a7] (.long x :: st) h Q := gw_loc m39 f39_158 rfl rfl
theorem f39_160 : gm_ft 39 160 = some (.lastore, 1) := by decide +kernel
theorem r39_160 {E : Nat → Value} {d : Nat} {st : List Value} {h : gm_H} {Q : gm_R → gm_H → Prop} {lv : List Value} {a j : Nat} {x : Int64} (hk : gm_kd h a = 201) (hj : j < gm_ln h a) (hl : gm_ln h a < 2 ^ 31) : gm_W E d 39 160 lv (.long x :: .int (nI j) :: .ref a :: st) h Q ↔ gm_W E d 39 161 lv st (gm_sf h a j (.long x)) Q := gw_wr m39 f39_160 rfl rfl rfl rfl rfl (gs_st hk (by decide) hj hl)
theorem f39_161 : gm_ft 39 161 = some (.iinc 7 1, 3) := by decide +kernel
theorem r39_161 {E : Nat → Value} {d : Nat} {st : List Value} {h : gm_H} {Q : gm_R → gm_H → Prop} {a0 a1 a2 a3 a4 a5 a6 : Value} {x : Int32} : gm_W E d 39 161 [a0, a1, a2, a3, a4, a5, a6, .int x] st h Q ↔ gm_W E d 39 164 [a0, a1, a2, a3, a4, a5, gm_k a6, .int (x + (1 : Int32))] st h Q := gw_loc m39 f39_161 rfl rfl
theorem f39_164 : gm_ft 39 164 = some (.goto (-132), 3) := by decide +kernel
theorem r39_164 {E : Nat → Value} {d : Nat} {st : List Value} {h : gm_H} {Q : gm_R → gm_H → Prop} {lv : List Value} : gm_W E d 39 164 lv st h Q ↔ gm_W E d 39 32 lv st h Q := gw_brT m39 f39_164 rfl rfl rfl rfl
theorem f39_167 : gm_ft 39 167 = some (.return_, 1) := by decide +kernel
theorem r39_167 {E : Nat → Value} {d : Nat} {h : gm_H} {Q : gm_R → gm_H → Prop} {lv : List Value} : gm_W E d 39 167 lv [] h Q ↔ Q (.inl none) h := gw_ret m39 f39_167 rfl rfl rfl rfl rfl rfl rfl rfl rfl
/-! GraphReaderModel.primitive(I)J -/
theorem m40 : gm_mt[40]? = some (⟨"GraphReaderModel", "primitive", "(I)J"⟩, prog_7_method_39_code, 2, (some .long), [], 5, 2) := rfl
theorem f40_0 : gm_ft 40 0 = some (.iload_n 1, 1) := by decide +kernel
theorem r40_0 {E : Nat → Value} {d : Nat} {st : List Value} {h : gm_H} {Q : gm_R → gm_H → Prop} {a0 : Value} {x : Int32} : gm_W E d 40 0 [a0, .int x] st h Q ↔ gm_W E d 40 1 [a0, .int x] (.int x :: st) h Q := gw_loc m40 f40_0 rfl rfl
theorem f40_1 : gm_ft 40 1 = some (.ifCond .ne 12, 3) := by decide +kernel
theorem r40_1 {E : Nat → Value} {d : Nat} {st : List Value} {h : gm_H} {Q : gm_R → gm_H → Prop} {lv : List Value} {x : Int32} : gm_W E d 40 1 lv (.int x :: st) h Q ↔ (if x = 0 then gm_W E d 40 4 lv st h Q else gm_W E d 40 13 lv st h Q) := (gw_br m40 f40_1 rfl rfl rfl rfl).trans gw_ifn
theorem f40_4 : gm_ft 40 4 = some (.aload_n 0, 1) := by decide +kernel
theorem r40_4 {E : Nat → Value} {d : Nat} {st : List Value} {h : gm_H} {Q : gm_R → gm_H → Prop} {a1 : Value} {x : Nat} : gm_W E d 40 4 [.ref x, a1] st h Q ↔ gm_W E d 40 5 [.ref x, a1] (.ref x :: st) h Q := gw_loc m40 f40_4 rfl rfl
theorem r40_4n {E : Nat → Value} {d : Nat} {st : List Value} {h : gm_H} {Q : gm_R → gm_H → Prop} {a1 : Value}  : gm_W E d 40 4 [.null, a1] st h Q ↔ gm_W E d 40 5 [.null, a1] (.null :: st) h Q := gw_loc m40 f40_4 rfl rfl
theorem f40_5 : gm_ft 40 5 = some (.iconst 1, 1) := by decide +kernel
theorem r40_5 {E : Nat → Value} {d : Nat} {st : List Value} {h : gm_H} {Q : gm_R → gm_H → Prop} {lv : List Value} : gm_W E d 40 5 lv st h Q ↔ gm_W E d 40 6 lv (.int (1 : Int32) :: st) h Q := gw_pure m40 f40_5 rfl
theorem f40_6 : gm_ft 40 6 = some (.invokevirtual 159, 3) := by decide +kernel
theorem c40_6 {E : Nat → Value} {d : Nat} {st : List Value} {h : gm_H} {Q : gm_R → gm_H → Prop} {lv : List Value} {b0 : Int32} {a : Nat} {Qc : gm_R → gm_H → Prop} (hs : (st.map fun v => v.category).sum ≤ 8) (hr : gm_kd h a = 5) (hd : 1 ≤ d) (hc : gm_Ca E (d - 1) 12 [.ref a, .int b0] h Qc) (kn : ∀ (v9 : Option Value) (h9 : gm_H), Qc (.inl v9) h9 → gm_W E d 40 9 lv (v9.toList ++ st) h9 Q) (kx : ∀ (x9 : Nat) (h9 : gm_H), Qc (.inr x9) h9 → Q (.inr x9) h9) : gm_W E d 40 6 lv (.int b0 :: .ref a :: st) h Q := gw_call (gn_call m40 f40_6 rfl rfl rfl rfl rfl rfl rfl (gs_virt (bs := [.int b0]) (w := 880) (L := 5) rfl rfl rfl rfl hs (by simp [gm_en1]) hr (by decide)) (by decide)) m40 rfl rfl hd hc kn kx
theorem f40_9 : gm_ft 40 9 = some (.l2i, 1) := by decide +kernel
theorem r40_9 {E : Nat → Value} {d : Nat} {st : List Value} {h : gm_H} {Q : gm_R → gm_H → Prop} {lv : List Value} {x : Int64} : gm_W E d 40 9 lv (.long x :: st) h Q ↔ gm_W E d 40 10 lv (.int (x.toInt32) :: st) h Q := gw_pure m40 f40_9 rfl
theorem f40_10 : gm_ft 40 10 = some (.i2b, 1) := by decide +kernel
theorem r40_10 {E : Nat → Value} {d : Nat} {st : List Value} {h : gm_H} {Q : gm_R → gm_H → Prop} {lv : List Value} {x : Int32} : gm_W E d 40 10 lv (.int x :: st) h Q ↔ gm_W E d 40 11 lv (.int (x.toInt8.toInt32) :: st) h Q := gw_pure m40 f40_10 rfl
theorem f40_11 : gm_ft 40 11 = some (.i2l, 1) := by decide +kernel
theorem r40_11 {E : Nat → Value} {d : Nat} {st : List Value} {h : gm_H} {Q : gm_R → gm_H → Prop} {lv : List Value} {x : Int32} : gm_W E d 40 11 lv (.int x :: st) h Q ↔ gm_W E d 40 12 lv (.long (x.toInt64) :: st) h Q := gw_pure m40 f40_11 rfl
theorem f40_12 : gm_ft 40 12 = some (.lreturn, 1) := by decide +kernel
theorem r40_12 {E : Nat → Value} {d : Nat} {h : gm_H} {Q : gm_R → gm_H → Prop} {lv : List Value} {x : Int64} : gm_W E d 40 12 lv [.long x] h Q ↔ Q (.inl (some (.long x))) h := gw_ret m40 f40_12 rfl rfl rfl rfl rfl rfl rfl rfl rfl
theorem f40_13 : gm_ft 40 13 = some (.iload_n 1, 1) := by decide +kernel
theorem r40_13 {E : Nat → Value} {d : Nat} {st : List Value} {h : gm_H} {Q : gm_R → gm_H → Prop} {a0 : Value} {x : Int32} : gm_W E d 40 13 [a0, .int x] st h Q ↔ gm_W E d 40 14 [a0, .int x] (.int x :: st) h Q := gw_loc m40 f40_13 rfl rfl
theorem f40_14 : gm_ft 40 14 = some (.iconst 1, 1) := by decide +kernel
theorem r40_14 {E : Nat → Value} {d : Nat} {st : List Value} {h : gm_H} {Q : gm_R → gm_H → Prop} {lv : List Value} : gm_W E d 40 14 lv st h Q ↔ gm_W E d 40 15 lv (.int (1 : Int32) :: st) h Q := gw_pure m40 f40_14 rfl
theorem f40_15 : gm_ft 40 15 = some (.if_icmp .ne 9, 3) := by decide +kernel
theorem r40_15 {E : Nat → Value} {d : Nat} {st : List Value} {h : gm_H} {Q : gm_R → gm_H → Prop} {lv : List Value} {x y : Int32} : gm_W E d 40 15 lv (.int y :: .int x :: st) h Q ↔ (if x = y then gm_W E d 40 18 lv st h Q else gm_W E d 40 24 lv st h Q) := (gw_br m40 f40_15 rfl rfl rfl rfl).trans gw_ifn
theorem f40_18 : gm_ft 40 18 = some (.aload_n 0, 1) := by decide +kernel
theorem r40_18 {E : Nat → Value} {d : Nat} {st : List Value} {h : gm_H} {Q : gm_R → gm_H → Prop} {a1 : Value} {x : Nat} : gm_W E d 40 18 [.ref x, a1] st h Q ↔ gm_W E d 40 19 [.ref x, a1] (.ref x :: st) h Q := gw_loc m40 f40_18 rfl rfl
theorem r40_18n {E : Nat → Value} {d : Nat} {st : List Value} {h : gm_H} {Q : gm_R → gm_H → Prop} {a1 : Value}  : gm_W E d 40 18 [.null, a1] st h Q ↔ gm_W E d 40 19 [.null, a1] (.null :: st) h Q := gw_loc m40 f40_18 rfl rfl
theorem f40_19 : gm_ft 40 19 = some (.iconst 2, 1) := by decide +kernel
theorem r40_19 {E : Nat → Value} {d : Nat} {st : List Value} {h : gm_H} {Q : gm_R → gm_H → Prop} {lv : List Value} : gm_W E d 40 19 lv st h Q ↔ gm_W E d 40 20 lv (.int (2 : Int32) :: st) h Q := gw_pure m40 f40_19 rfl
theorem f40_20 : gm_ft 40 20 = some (.invokevirtual 159, 3) := by decide +kernel
theorem c40_20 {E : Nat → Value} {d : Nat} {st : List Value} {h : gm_H} {Q : gm_R → gm_H → Prop} {lv : List Value} {b0 : Int32} {a : Nat} {Qc : gm_R → gm_H → Prop} (hs : (st.map fun v => v.category).sum ≤ 8) (hr : gm_kd h a = 5) (hd : 1 ≤ d) (hc : gm_Ca E (d - 1) 12 [.ref a, .int b0] h Qc) (kn : ∀ (v9 : Option Value) (h9 : gm_H), Qc (.inl v9) h9 → gm_W E d 40 23 lv (v9.toList ++ st) h9 Q) (kx : ∀ (x9 : Nat) (h9 : gm_H), Qc (.inr x9) h9 → Q (.inr x9) h9) : gm_W E d 40 20 lv (.int b0 :: .ref a :: st) h Q := gw_call (gn_call m40 f40_20 rfl rfl rfl rfl rfl rfl rfl (gs_virt (bs := [.int b0]) (w := 880) (L := 5) rfl rfl rfl rfl hs (by simp [gm_en1]) hr (by decide)) (by decide)) m40 rfl rfl hd hc kn kx
theorem f40_23 : gm_ft 40 23 = some (.lreturn, 1) := by decide +kernel
theorem r40_23 {E : Nat → Value} {d : Nat} {h : gm_H} {Q : gm_R → gm_H → Prop} {lv : List Value} {x : Int64} : gm_W E d 40 23 lv [.long x] h Q ↔ Q (.inl (some (.long x))) h := gw_ret m40 f40_23 rfl rfl rfl rfl rfl rfl rfl rfl rfl
theorem f40_24 : gm_ft 40 24 = some (.iload_n 1, 1) := by decide +kernel
theorem r40_24 {E : Nat → Value} {d : Nat} {st : List Value} {h : gm_H} {Q : gm_R → gm_H → Prop} {a0 : Value} {x : Int32} : gm_W E d 40 24 [a0, .int x] st h Q ↔ gm_W E d 40 25 [a0, .int x] (.int x :: st) h Q := gw_loc m40 f40_24 rfl rfl
theorem f40_25 : gm_ft 40 25 = some (.iconst 2, 1) := by decide +kernel
theorem r40_25 {E : Nat → Value} {d : Nat} {st : List Value} {h : gm_H} {Q : gm_R → gm_H → Prop} {lv : List Value} : gm_W E d 40 25 lv st h Q ↔ gm_W E d 40 26 lv (.int (2 : Int32) :: st) h Q := gw_pure m40 f40_25 rfl
theorem f40_26 : gm_ft 40 26 = some (.if_icmp .ne 11, 3) := by decide +kernel
theorem r40_26 {E : Nat → Value} {d : Nat} {st : List Value} {h : gm_H} {Q : gm_R → gm_H → Prop} {lv : List Value} {x y : Int32} : gm_W E d 40 26 lv (.int y :: .int x :: st) h Q ↔ (if x = y then gm_W E d 40 29 lv st h Q else gm_W E d 40 37 lv st h Q) := (gw_br m40 f40_26 rfl rfl rfl rfl).trans gw_ifn
theorem f40_29 : gm_ft 40 29 = some (.aload_n 0, 1) := by decide +kernel
theorem r40_29 {E : Nat → Value} {d : Nat} {st : List Value} {h : gm_H} {Q : gm_R → gm_H → Prop} {a1 : Value} {x : Nat} : gm_W E d 40 29 [.ref x, a1] st h Q ↔ gm_W E d 40 30 [.ref x, a1] (.ref x :: st) h Q := gw_loc m40 f40_29 rfl rfl
theorem r40_29n {E : Nat → Value} {d : Nat} {st : List Value} {h : gm_H} {Q : gm_R → gm_H → Prop} {a1 : Value}  : gm_W E d 40 29 [.null, a1] st h Q ↔ gm_W E d 40 30 [.null, a1] (.null :: st) h Q := gw_loc m40 f40_29 rfl rfl
theorem f40_30 : gm_ft 40 30 = some (.iconst 4, 1) := by decide +kernel
theorem r40_30 {E : Nat → Value} {d : Nat} {st : List Value} {h : gm_H} {Q : gm_R → gm_H → Prop} {lv : List Value} : gm_W E d 40 30 lv st h Q ↔ gm_W E d 40 31 lv (.int (4 : Int32) :: st) h Q := gw_pure m40 f40_30 rfl
theorem f40_31 : gm_ft 40 31 = some (.invokevirtual 159, 3) := by decide +kernel
theorem c40_31 {E : Nat → Value} {d : Nat} {st : List Value} {h : gm_H} {Q : gm_R → gm_H → Prop} {lv : List Value} {b0 : Int32} {a : Nat} {Qc : gm_R → gm_H → Prop} (hs : (st.map fun v => v.category).sum ≤ 8) (hr : gm_kd h a = 5) (hd : 1 ≤ d) (hc : gm_Ca E (d - 1) 12 [.ref a, .int b0] h Qc) (kn : ∀ (v9 : Option Value) (h9 : gm_H), Qc (.inl v9) h9 → gm_W E d 40 34 lv (v9.toList ++ st) h9 Q) (kx : ∀ (x9 : Nat) (h9 : gm_H), Qc (.inr x9) h9 → Q (.inr x9) h9) : gm_W E d 40 31 lv (.int b0 :: .ref a :: st) h Q := gw_call (gn_call m40 f40_31 rfl rfl rfl rfl rfl rfl rfl (gs_virt (bs := [.int b0]) (w := 880) (L := 5) rfl rfl rfl rfl hs (by simp [gm_en1]) hr (by decide)) (by decide)) m40 rfl rfl hd hc kn kx
theorem f40_34 : gm_ft 40 34 = some (.l2i, 1) := by decide +kernel
theorem r40_34 {E : Nat → Value} {d : Nat} {st : List Value} {h : gm_H} {Q : gm_R → gm_H → Prop} {lv : List Value} {x : Int64} : gm_W E d 40 34 lv (.long x :: st) h Q ↔ gm_W E d 40 35 lv (.int (x.toInt32) :: st) h Q := gw_pure m40 f40_34 rfl
theorem f40_35 : gm_ft 40 35 = some (.i2l, 1) := by decide +kernel
theorem r40_35 {E : Nat → Value} {d : Nat} {st : List Value} {h : gm_H} {Q : gm_R → gm_H → Prop} {lv : List Value} {x : Int32} : gm_W E d 40 35 lv (.int x :: st) h Q ↔ gm_W E d 40 36 lv (.long (x.toInt64) :: st) h Q := gw_pure m40 f40_35 rfl
theorem f40_36 : gm_ft 40 36 = some (.lreturn, 1) := by decide +kernel
theorem r40_36 {E : Nat → Value} {d : Nat} {h : gm_H} {Q : gm_R → gm_H → Prop} {lv : List Value} {x : Int64} : gm_W E d 40 36 lv [.long x] h Q ↔ Q (.inl (some (.long x))) h := gw_ret m40 f40_36 rfl rfl rfl rfl rfl rfl rfl rfl rfl
theorem f40_37 : gm_ft 40 37 = some (.iload_n 1, 1) := by decide +kernel
theorem r40_37 {E : Nat → Value} {d : Nat} {st : List Value} {h : gm_H} {Q : gm_R → gm_H → Prop} {a0 : Value} {x : Int32} : gm_W E d 40 37 [a0, .int x] st h Q ↔ gm_W E d 40 38 [a0, .int x] (.int x :: st) h Q := gw_loc m40 f40_37 rfl rfl
theorem f40_38 : gm_ft 40 38 = some (.iconst 3, 1) := by decide +kernel
theorem r40_38 {E : Nat → Value} {d : Nat} {st : List Value} {h : gm_H} {Q : gm_R → gm_H → Prop} {lv : List Value} : gm_W E d 40 38 lv st h Q ↔ gm_W E d 40 39 lv (.int (3 : Int32) :: st) h Q := gw_pure m40 f40_38 rfl
theorem f40_39 : gm_ft 40 39 = some (.if_icmp .ne 10, 3) := by decide +kernel
theorem r40_39 {E : Nat → Value} {d : Nat} {st : List Value} {h : gm_H} {Q : gm_R → gm_H → Prop} {lv : List Value} {x y : Int32} : gm_W E d 40 39 lv (.int y :: .int x :: st) h Q ↔ (if x = y then gm_W E d 40 42 lv st h Q else gm_W E d 40 49 lv st h Q) := (gw_br m40 f40_39 rfl rfl rfl rfl).trans gw_ifn
theorem f40_42 : gm_ft 40 42 = some (.aload_n 0, 1) := by decide +kernel
theorem r40_42 {E : Nat → Value} {d : Nat} {st : List Value} {h : gm_H} {Q : gm_R → gm_H → Prop} {a1 : Value} {x : Nat} : gm_W E d 40 42 [.ref x, a1] st h Q ↔ gm_W E d 40 43 [.ref x, a1] (.ref x :: st) h Q := gw_loc m40 f40_42 rfl rfl
theorem r40_42n {E : Nat → Value} {d : Nat} {st : List Value} {h : gm_H} {Q : gm_R → gm_H → Prop} {a1 : Value}  : gm_W E d 40 42 [.null, a1] st h Q ↔ gm_W E d 40 43 [.null, a1] (.null :: st) h Q := gw_loc m40 f40_42 rfl rfl
theorem f40_43 : gm_ft 40 43 = some (.bipush 8, 2) := by decide +kernel
theorem r40_43 {E : Nat → Value} {d : Nat} {st : List Value} {h : gm_H} {Q : gm_R → gm_H → Prop} {lv : List Value} : gm_W E d 40 43 lv st h Q ↔ gm_W E d 40 45 lv (.int (8 : Int32) :: st) h Q := gw_pure m40 f40_43 rfl
theorem f40_45 : gm_ft 40 45 = some (.invokevirtual 159, 3) := by decide +kernel
theorem c40_45 {E : Nat → Value} {d : Nat} {st : List Value} {h : gm_H} {Q : gm_R → gm_H → Prop} {lv : List Value} {b0 : Int32} {a : Nat} {Qc : gm_R → gm_H → Prop} (hs : (st.map fun v => v.category).sum ≤ 8) (hr : gm_kd h a = 5) (hd : 1 ≤ d) (hc : gm_Ca E (d - 1) 12 [.ref a, .int b0] h Qc) (kn : ∀ (v9 : Option Value) (h9 : gm_H), Qc (.inl v9) h9 → gm_W E d 40 48 lv (v9.toList ++ st) h9 Q) (kx : ∀ (x9 : Nat) (h9 : gm_H), Qc (.inr x9) h9 → Q (.inr x9) h9) : gm_W E d 40 45 lv (.int b0 :: .ref a :: st) h Q := gw_call (gn_call m40 f40_45 rfl rfl rfl rfl rfl rfl rfl (gs_virt (bs := [.int b0]) (w := 880) (L := 5) rfl rfl rfl rfl hs (by simp [gm_en1]) hr (by decide)) (by decide)) m40 rfl rfl hd hc kn kx
theorem f40_48 : gm_ft 40 48 = some (.lreturn, 1) := by decide +kernel
theorem r40_48 {E : Nat → Value} {d : Nat} {h : gm_H} {Q : gm_R → gm_H → Prop} {lv : List Value} {x : Int64} : gm_W E d 40 48 lv [.long x] h Q ↔ Q (.inl (some (.long x))) h := gw_ret m40 f40_48 rfl rfl rfl rfl rfl rfl rfl rfl rfl
theorem f40_49 : gm_ft 40 49 = some (.iload_n 1, 1) := by decide +kernel
theorem r40_49 {E : Nat → Value} {d : Nat} {st : List Value} {h : gm_H} {Q : gm_R → gm_H → Prop} {a0 : Value} {x : Int32} : gm_W E d 40 49 [a0, .int x] st h Q ↔ gm_W E d 40 50 [a0, .int x] (.int x :: st) h Q := gw_loc m40 f40_49 rfl rfl
theorem f40_50 : gm_ft 40 50 = some (.iconst 4, 1) := by decide +kernel
theorem r40_50 {E : Nat → Value} {d : Nat} {st : List Value} {h : gm_H} {Q : gm_R → gm_H → Prop} {lv : List Value} : gm_W E d 40 50 lv st h Q ↔ gm_W E d 40 51 lv (.int (4 : Int32) :: st) h Q := gw_pure m40 f40_50 rfl
theorem f40_51 : gm_ft 40 51 = some (.if_icmp .ne 12, 3) := by decide +kernel
theorem r40_51 {E : Nat → Value} {d : Nat} {st : List Value} {h : gm_H} {Q : gm_R → gm_H → Prop} {lv : List Value} {x y : Int32} : gm_W E d 40 51 lv (.int y :: .int x :: st) h Q ↔ (if x = y then gm_W E d 40 54 lv st h Q else gm_W E d 40 63 lv st h Q) := (gw_br m40 f40_51 rfl rfl rfl rfl).trans gw_ifn
theorem f40_54 : gm_ft 40 54 = some (.aload_n 0, 1) := by decide +kernel
theorem r40_54 {E : Nat → Value} {d : Nat} {st : List Value} {h : gm_H} {Q : gm_R → gm_H → Prop} {a1 : Value} {x : Nat} : gm_W E d 40 54 [.ref x, a1] st h Q ↔ gm_W E d 40 55 [.ref x, a1] (.ref x :: st) h Q := gw_loc m40 f40_54 rfl rfl
theorem r40_54n {E : Nat → Value} {d : Nat} {st : List Value} {h : gm_H} {Q : gm_R → gm_H → Prop} {a1 : Value}  : gm_W E d 40 54 [.null, a1] st h Q ↔ gm_W E d 40 55 [.null, a1] (.null :: st) h Q := gw_loc m40 f40_54 rfl rfl
theorem f40_55 : gm_ft 40 55 = some (.iconst 2, 1) := by decide +kernel
theorem r40_55 {E : Nat → Value} {d : Nat} {st : List Value} {h : gm_H} {Q : gm_R → gm_H → Prop} {lv : List Value} : gm_W E d 40 55 lv st h Q ↔ gm_W E d 40 56 lv (.int (2 : Int32) :: st) h Q := gw_pure m40 f40_55 rfl
theorem f40_56 : gm_ft 40 56 = some (.invokevirtual 159, 3) := by decide +kernel
theorem c40_56 {E : Nat → Value} {d : Nat} {st : List Value} {h : gm_H} {Q : gm_R → gm_H → Prop} {lv : List Value} {b0 : Int32} {a : Nat} {Qc : gm_R → gm_H → Prop} (hs : (st.map fun v => v.category).sum ≤ 8) (hr : gm_kd h a = 5) (hd : 1 ≤ d) (hc : gm_Ca E (d - 1) 12 [.ref a, .int b0] h Qc) (kn : ∀ (v9 : Option Value) (h9 : gm_H), Qc (.inl v9) h9 → gm_W E d 40 59 lv (v9.toList ++ st) h9 Q) (kx : ∀ (x9 : Nat) (h9 : gm_H), Qc (.inr x9) h9 → Q (.inr x9) h9) : gm_W E d 40 56 lv (.int b0 :: .ref a :: st) h Q := gw_call (gn_call m40 f40_56 rfl rfl rfl rfl rfl rfl rfl (gs_virt (bs := [.int b0]) (w := 880) (L := 5) rfl rfl rfl rfl hs (by simp [gm_en1]) hr (by decide)) (by decide)) m40 rfl rfl hd hc kn kx
theorem f40_59 : gm_ft 40 59 = some (.l2i, 1) := by decide +kernel
theorem r40_59 {E : Nat → Value} {d : Nat} {st : List Value} {h : gm_H} {Q : gm_R → gm_H → Prop} {lv : List Value} {x : Int64} : gm_W E d 40 59 lv (.long x :: st) h Q ↔ gm_W E d 40 60 lv (.int (x.toInt32) :: st) h Q := gw_pure m40 f40_59 rfl
theorem f40_60 : gm_ft 40 60 = some (.i2s, 1) := by decide +kernel
theorem r40_60 {E : Nat → Value} {d : Nat} {st : List Value} {h : gm_H} {Q : gm_R → gm_H → Prop} {lv : List Value} {x : Int32} : gm_W E d 40 60 lv (.int x :: st) h Q ↔ gm_W E d 40 61 lv (.int (x.toInt16.toInt32) :: st) h Q := gw_pure m40 f40_60 rfl
theorem f40_61 : gm_ft 40 61 = some (.i2l, 1) := by decide +kernel
theorem r40_61 {E : Nat → Value} {d : Nat} {st : List Value} {h : gm_H} {Q : gm_R → gm_H → Prop} {lv : List Value} {x : Int32} : gm_W E d 40 61 lv (.int x :: st) h Q ↔ gm_W E d 40 62 lv (.long (x.toInt64) :: st) h Q := gw_pure m40 f40_61 rfl
theorem f40_62 : gm_ft 40 62 = some (.lreturn, 1) := by decide +kernel
theorem r40_62 {E : Nat → Value} {d : Nat} {h : gm_H} {Q : gm_R → gm_H → Prop} {lv : List Value} {x : Int64} : gm_W E d 40 62 lv [.long x] h Q ↔ Q (.inl (some (.long x))) h := gw_ret m40 f40_62 rfl rfl rfl rfl rfl rfl rfl rfl rfl
theorem f40_63 : gm_ft 40 63 = some (.aload_n 0, 1) := by decide +kernel
theorem r40_63 {E : Nat → Value} {d : Nat} {st : List Value} {h : gm_H} {Q : gm_R → gm_H → Prop} {a1 : Value} {x : Nat} : gm_W E d 40 63 [.ref x, a1] st h Q ↔ gm_W E d 40 64 [.ref x, a1] (.ref x :: st) h Q := gw_loc m40 f40_63 rfl rfl
theorem r40_63n {E : Nat → Value} {d : Nat} {st : List Value} {h : gm_H} {Q : gm_R → gm_H → Prop} {a1 : Value}  : gm_W E d 40 63 [.null, a1] st h Q ↔ gm_W E d 40 64 [.null, a1] (.null :: st) h Q := gw_loc m40 f40_63 rfl rfl
theorem f40_64 : gm_ft 40 64 = some (.iconst 1, 1) := by decide +kernel
theorem r40_64 {E : Nat → Value} {d : Nat} {st : List Value} {h : gm_H} {Q : gm_R → gm_H → Prop} {lv : List Value} : gm_W E d 40 64 lv st h Q ↔ gm_W E d 40 65 lv (.int (1 : Int32) :: st) h Q := gw_pure m40 f40_64 rfl
theorem f40_65 : gm_ft 40 65 = some (.invokevirtual 159, 3) := by decide +kernel
theorem c40_65 {E : Nat → Value} {d : Nat} {st : List Value} {h : gm_H} {Q : gm_R → gm_H → Prop} {lv : List Value} {b0 : Int32} {a : Nat} {Qc : gm_R → gm_H → Prop} (hs : (st.map fun v => v.category).sum ≤ 8) (hr : gm_kd h a = 5) (hd : 1 ≤ d) (hc : gm_Ca E (d - 1) 12 [.ref a, .int b0] h Qc) (kn : ∀ (v9 : Option Value) (h9 : gm_H), Qc (.inl v9) h9 → gm_W E d 40 68 lv (v9.toList ++ st) h9 Q) (kx : ∀ (x9 : Nat) (h9 : gm_H), Qc (.inr x9) h9 → Q (.inr x9) h9) : gm_W E d 40 65 lv (.int b0 :: .ref a :: st) h Q := gw_call (gn_call m40 f40_65 rfl rfl rfl rfl rfl rfl rfl (gs_virt (bs := [.int b0]) (w := 880) (L := 5) rfl rfl rfl rfl hs (by simp [gm_en1]) hr (by decide)) (by decide)) m40 rfl rfl hd hc kn kx
theorem f40_68 : gm_ft 40 68 = some (.lconst 0, 1) := by decide +kernel
theorem r40_68 {E : Nat → Value} {d : Nat} {st : List Value} {h : gm_H} {Q : gm_R → gm_H → Prop} {lv : List Value} : gm_W E d 40 68 lv st h Q ↔ gm_W E d 40 69 lv (.long 0 :: st) h Q := gw_pure m40 f40_68 rfl
theorem f40_69 : gm_ft 40 69 = some (.lcmp, 1) := by decide +kernel
theorem r40_69 {E : Nat → Value} {d : Nat} {st : List Value} {h : gm_H} {Q : gm_R → gm_H → Prop} {lv : List Value} {x y : Int64} : gm_W E d 40 69 lv (.long y :: .long x :: st) h Q ↔ gm_W E d 40 70 lv (.int (lg_cmp x y) :: st) h Q := gw_pure m40 f40_69 rfl
theorem f40_70 : gm_ft 40 70 = some (.ifCond .eq 7, 3) := by decide +kernel
theorem r40_70 {E : Nat → Value} {d : Nat} {st : List Value} {h : gm_H} {Q : gm_R → gm_H → Prop} {lv : List Value} {x : Int32} : gm_W E d 40 70 lv (.int x :: st) h Q ↔ (if x = 0 then gm_W E d 40 77 lv st h Q else gm_W E d 40 73 lv st h Q) := (gw_br m40 f40_70 rfl rfl rfl rfl).trans gw_if
theorem f40_73 : gm_ft 40 73 = some (.lconst 1, 1) := by decide +kernel
theorem r40_73 {E : Nat → Value} {d : Nat} {st : List Value} {h : gm_H} {Q : gm_R → gm_H → Prop} {lv : List Value} : gm_W E d 40 73 lv st h Q ↔ gm_W E d 40 74 lv (.long 1 :: st) h Q := gw_pure m40 f40_73 rfl
theorem f40_74 : gm_ft 40 74 = some (.goto 4, 3) := by decide +kernel
theorem r40_74 {E : Nat → Value} {d : Nat} {st : List Value} {h : gm_H} {Q : gm_R → gm_H → Prop} {lv : List Value} : gm_W E d 40 74 lv st h Q ↔ gm_W E d 40 78 lv st h Q := gw_brT m40 f40_74 rfl rfl rfl rfl
theorem f40_77 : gm_ft 40 77 = some (.lconst 0, 1) := by decide +kernel
theorem r40_77 {E : Nat → Value} {d : Nat} {st : List Value} {h : gm_H} {Q : gm_R → gm_H → Prop} {lv : List Value} : gm_W E d 40 77 lv st h Q ↔ gm_W E d 40 78 lv (.long 0 :: st) h Q := gw_pure m40 f40_77 rfl
theorem f40_78 : gm_ft 40 78 = some (.lreturn, 1) := by decide +kernel
theorem r40_78 {E : Nat → Value} {d : Nat} {h : gm_H} {Q : gm_R → gm_H → Prop} {lv : List Value} {x : Int64} : gm_W E d 40 78 lv [.long x] h Q ↔ Q (.inl (some (.long x))) h := gw_ret m40 f40_78 rfl rfl rfl rfl rfl rfl rfl rfl rfl
/-! GraphReaderModel.stepData(I)V -/
theorem m41 : gm_mt[41]? = some (⟨"GraphReaderModel", "stepData", "(I)V"⟩, prog_7_method_40_code, 7, none, [], 5, 2) := rfl
theorem f41_0 : gm_ft 41 0 = some (.aload_n 0, 1) := by decide +kernel
theorem r41_0 {E : Nat → Value} {d : Nat} {st : List Value} {h : gm_H} {Q : gm_R → gm_H → Prop} {a1 a2 a3 a4 a5 a6 : Value} {x : Nat} : gm_W E d 41 0 [.ref x, a1, a2, a3, a4, a5, a6] st h Q ↔ gm_W E d 41 1 [.ref x, a1, a2, a3, a4, a5, a6] (.ref x :: st) h Q := gw_loc m41 f41_0 rfl rfl
theorem r41_0n {E : Nat → Value} {d : Nat} {st : List Value} {h : gm_H} {Q : gm_R → gm_H → Prop} {a1 a2 a3 a4 a5 a6 : Value}  : gm_W E d 41 0 [.null, a1, a2, a3, a4, a5, a6] st h Q ↔ gm_W E d 41 1 [.null, a1, a2, a3, a4, a5, a6] (.null :: st) h Q := gw_loc m41 f41_0 rfl rfl
theorem f41_1 : gm_ft 41 1 = some (.getfield 102, 3) := by decide +kernel
theorem r41_1 {E : Nat → Value} {d : Nat} {st : List Value} {h : gm_H} {Q : gm_R → gm_H → Prop} {lv : List Value} {a : Nat} (hk : gm_kd h a = 5) : gm_W E d 41 1 lv (.ref a :: st) h Q ↔ gm_W E d 41 4 lv (gm_fv h a 43 :: st) h Q := gw_rd m41 f41_1 rfl rfl rfl rfl (gs_get k5_102 hk (by decide))
theorem f41_4 : gm_ft 41 4 = some (.iload_n 1, 1) := by decide +kernel
theorem r41_4 {E : Nat → Value} {d : Nat} {st : List Value} {h : gm_H} {Q : gm_R → gm_H → Prop} {a0 a2 a3 a4 a5 a6 : Value} {x : Int32} : gm_W E d 41 4 [a0, .int x, a2, a3, a4, a5, a6] st h Q ↔ gm_W E d 41 5 [a0, .int x, a2, a3, a4, a5, a6] (.int x :: st) h Q := gw_loc m41 f41_4 rfl rfl
theorem f41_5 : gm_ft 41 5 = some (.iaload, 1) := by decide +kernel
theorem r41_5 {E : Nat → Value} {d : Nat} {st : List Value} {h : gm_H} {Q : gm_R → gm_H → Prop} {lv : List Value} {a j : Nat} (hk : gm_kd h a % 100 = 0 ∧ 100 ≤ gm_kd h a ∧ gm_kd h a < 900) (hj : j < gm_ln h a) (hl : gm_ln h a < 2 ^ 31) : gm_W E d 41 5 lv (.int (nI j) :: .ref a :: st) h Q ↔ gm_W E d 41 6 lv (gm_fv h a j :: st) h Q := gw_rd m41 f41_5 rfl rfl rfl rfl (gs_ld (P := fun t => t == 0) hk.2 (by have := hk.1; simp [this] <;> omega) hj hl)
theorem f41_6 : gm_ft 41 6 = some (.istore_n 2, 1) := by decide +kernel
theorem r41_6 {E : Nat → Value} {d : Nat} {st : List Value} {h : gm_H} {Q : gm_R → gm_H → Prop} {a0 a1 a2 a3 a4 a5 a6 : Value} {x : Int32} : gm_W E d 41 6 [a0, a1, a2, a3, a4, a5, a6] (.int x :: st) h Q ↔ gm_W E d 41 7 [a0, gm_k a1, .int x, a3, a4, a5, a6] st h Q := gw_loc m41 f41_6 rfl rfl
theorem f41_7 : gm_ft 41 7 = some (.aload_n 0, 1) := by decide +kernel
theorem r41_7 {E : Nat → Value} {d : Nat} {st : List Value} {h : gm_H} {Q : gm_R → gm_H → Prop} {a1 a2 a3 a4 a5 a6 : Value} {x : Nat} : gm_W E d 41 7 [.ref x, a1, a2, a3, a4, a5, a6] st h Q ↔ gm_W E d 41 8 [.ref x, a1, a2, a3, a4, a5, a6] (.ref x :: st) h Q := gw_loc m41 f41_7 rfl rfl
theorem r41_7n {E : Nat → Value} {d : Nat} {st : List Value} {h : gm_H} {Q : gm_R → gm_H → Prop} {a1 a2 a3 a4 a5 a6 : Value}  : gm_W E d 41 7 [.null, a1, a2, a3, a4, a5, a6] st h Q ↔ gm_W E d 41 8 [.null, a1, a2, a3, a4, a5, a6] (.null :: st) h Q := gw_loc m41 f41_7 rfl rfl
theorem f41_8 : gm_ft 41 8 = some (.aload_n 0, 1) := by decide +kernel
theorem r41_8 {E : Nat → Value} {d : Nat} {st : List Value} {h : gm_H} {Q : gm_R → gm_H → Prop} {a1 a2 a3 a4 a5 a6 : Value} {x : Nat} : gm_W E d 41 8 [.ref x, a1, a2, a3, a4, a5, a6] st h Q ↔ gm_W E d 41 9 [.ref x, a1, a2, a3, a4, a5, a6] (.ref x :: st) h Q := gw_loc m41 f41_8 rfl rfl
theorem r41_8n {E : Nat → Value} {d : Nat} {st : List Value} {h : gm_H} {Q : gm_R → gm_H → Prop} {a1 a2 a3 a4 a5 a6 : Value}  : gm_W E d 41 8 [.null, a1, a2, a3, a4, a5, a6] st h Q ↔ gm_W E d 41 9 [.null, a1, a2, a3, a4, a5, a6] (.null :: st) h Q := gw_loc m41 f41_8 rfl rfl
theorem f41_9 : gm_ft 41 9 = some (.getfield 105, 3) := by decide +kernel
theorem r41_9 {E : Nat → Value} {d : Nat} {st : List Value} {h : gm_H} {Q : gm_R → gm_H → Prop} {lv : List Value} {a : Nat} (hk : gm_kd h a = 5) : gm_W E d 41 9 lv (.ref a :: st) h Q ↔ gm_W E d 41 12 lv (gm_fv h a 44 :: st) h Q := gw_rd m41 f41_9 rfl rfl rfl rfl (gs_get k5_105 hk (by decide))
theorem f41_12 : gm_ft 41 12 = some (.iload_n 1, 1) := by decide +kernel
theorem r41_12 {E : Nat → Value} {d : Nat} {st : List Value} {h : gm_H} {Q : gm_R → gm_H → Prop} {a0 a2 a3 a4 a5 a6 : Value} {x : Int32} : gm_W E d 41 12 [a0, .int x, a2, a3, a4, a5, a6] st h Q ↔ gm_W E d 41 13 [a0, .int x, a2, a3, a4, a5, a6] (.int x :: st) h Q := gw_loc m41 f41_12 rfl rfl
theorem f41_13 : gm_ft 41 13 = some (.iaload, 1) := by decide +kernel
theorem r41_13 {E : Nat → Value} {d : Nat} {st : List Value} {h : gm_H} {Q : gm_R → gm_H → Prop} {lv : List Value} {a j : Nat} (hk : gm_kd h a % 100 = 0 ∧ 100 ≤ gm_kd h a ∧ gm_kd h a < 900) (hj : j < gm_ln h a) (hl : gm_ln h a < 2 ^ 31) : gm_W E d 41 13 lv (.int (nI j) :: .ref a :: st) h Q ↔ gm_W E d 41 14 lv (gm_fv h a j :: st) h Q := gw_rd m41 f41_13 rfl rfl rfl rfl (gs_ld (P := fun t => t == 0) hk.2 (by have := hk.1; simp [this] <;> omega) hj hl)
theorem f41_14 : gm_ft 41 14 = some (.aload_n 0, 1) := by decide +kernel
theorem r41_14 {E : Nat → Value} {d : Nat} {st : List Value} {h : gm_H} {Q : gm_R → gm_H → Prop} {a1 a2 a3 a4 a5 a6 : Value} {x : Nat} : gm_W E d 41 14 [.ref x, a1, a2, a3, a4, a5, a6] st h Q ↔ gm_W E d 41 15 [.ref x, a1, a2, a3, a4, a5, a6] (.ref x :: st) h Q := gw_loc m41 f41_14 rfl rfl
theorem r41_14n {E : Nat → Value} {d : Nat} {st : List Value} {h : gm_H} {Q : gm_R → gm_H → Prop} {a1 a2 a3 a4 a5 a6 : Value}  : gm_W E d 41 14 [.null, a1, a2, a3, a4, a5, a6] st h Q ↔ gm_W E d 41 15 [.null, a1, a2, a3, a4, a5, a6] (.null :: st) h Q := gw_loc m41 f41_14 rfl rfl
theorem f41_15 : gm_ft 41 15 = some (.getfield 108, 3) := by decide +kernel
theorem r41_15 {E : Nat → Value} {d : Nat} {st : List Value} {h : gm_H} {Q : gm_R → gm_H → Prop} {lv : List Value} {a : Nat} (hk : gm_kd h a = 5) : gm_W E d 41 15 lv (.ref a :: st) h Q ↔ gm_W E d 41 18 lv (gm_fv h a 45 :: st) h Q := gw_rd m41 f41_15 rfl rfl rfl rfl (gs_get k5_108 hk (by decide))
theorem f41_18 : gm_ft 41 18 = some (.iload_n 1, 1) := by decide +kernel
theorem r41_18 {E : Nat → Value} {d : Nat} {st : List Value} {h : gm_H} {Q : gm_R → gm_H → Prop} {a0 a2 a3 a4 a5 a6 : Value} {x : Int32} : gm_W E d 41 18 [a0, .int x, a2, a3, a4, a5, a6] st h Q ↔ gm_W E d 41 19 [a0, .int x, a2, a3, a4, a5, a6] (.int x :: st) h Q := gw_loc m41 f41_18 rfl rfl
theorem f41_19 : gm_ft 41 19 = some (.iaload, 1) := by decide +kernel
theorem r41_19 {E : Nat → Value} {d : Nat} {st : List Value} {h : gm_H} {Q : gm_R → gm_H → Prop} {lv : List Value} {a j : Nat} (hk : gm_kd h a % 100 = 0 ∧ 100 ≤ gm_kd h a ∧ gm_kd h a < 900) (hj : j < gm_ln h a) (hl : gm_ln h a < 2 ^ 31) : gm_W E d 41 19 lv (.int (nI j) :: .ref a :: st) h Q ↔ gm_W E d 41 20 lv (gm_fv h a j :: st) h Q := gw_rd m41 f41_19 rfl rfl rfl rfl (gs_ld (P := fun t => t == 0) hk.2 (by have := hk.1; simp [this] <;> omega) hj hl)
theorem f41_20 : gm_ft 41 20 = some (.invokevirtual 263, 3) := by decide +kernel
theorem c41_20 {E : Nat → Value} {d : Nat} {st : List Value} {h : gm_H} {Q : gm_R → gm_H → Prop} {lv : List Value} {b0 : Int32} {b1 : Int32} {a : Nat} {Qc : gm_R → gm_H → Prop} (hs : (st.map fun v => v.category).sum ≤ 8) (hr : gm_kd h a = 5) (hd : 1 ≤ d) (hc : gm_Ca E (d - 1) 38 [.ref a, .int b0, .int b1] h Qc) (kn : ∀ (v9 : Option Value) (h9 : gm_H), Qc (.inl v9) h9 → gm_W E d 41 23 lv (v9.toList ++ st) h9 Q) (kx : ∀ (x9 : Nat) (h9 : gm_H), Qc (.inr x9) h9 → Q (.inr x9) h9) : gm_W E d 41 20 lv (.int b1 :: .int b0 :: .ref a :: st) h Q := gw_call (gn_call m41 f41_20 rfl rfl rfl rfl rfl rfl rfl (gs_virt (bs := [.int b1, .int b0]) (w := 965) (L := 6) rfl rfl rfl rfl hs (by simp [gm_en1]) hr (by decide)) (by decide)) m41 rfl rfl hd hc kn kx
theorem f41_23 : gm_ft 41 23 = some (.istore_n 3, 1) := by decide +kernel
theorem r41_23 {E : Nat → Value} {d : Nat} {st : List Value} {h : gm_H} {Q : gm_R → gm_H → Prop} {a0 a1 a2 a3 a4 a5 a6 : Value} {x : Int32} : gm_W E d 41 23 [a0, a1, a2, a3, a4, a5, a6] (.int x :: st) h Q ↔ gm_W E d 41 24 [a0, a1, gm_k a2, .int x, a4, a5, a6] st h Q := gw_loc m41 f41_23 rfl rfl
theorem f41_24 : gm_ft 41 24 = some (.aload_n 0, 1) := by decide +kernel
theorem r41_24 {E : Nat → Value} {d : Nat} {st : List Value} {h : gm_H} {Q : gm_R → gm_H → Prop} {a1 a2 a3 a4 a5 a6 : Value} {x : Nat} : gm_W E d 41 24 [.ref x, a1, a2, a3, a4, a5, a6] st h Q ↔ gm_W E d 41 25 [.ref x, a1, a2, a3, a4, a5, a6] (.ref x :: st) h Q := gw_loc m41 f41_24 rfl rfl
theorem r41_24n {E : Nat → Value} {d : Nat} {st : List Value} {h : gm_H} {Q : gm_R → gm_H → Prop} {a1 a2 a3 a4 a5 a6 : Value}  : gm_W E d 41 24 [.null, a1, a2, a3, a4, a5, a6] st h Q ↔ gm_W E d 41 25 [.null, a1, a2, a3, a4, a5, a6] (.null :: st) h Q := gw_loc m41 f41_24 rfl rfl
theorem f41_25 : gm_ft 41 25 = some (.getfield 96, 3) := by decide +kernel
theorem r41_25 {E : Nat → Value} {d : Nat} {st : List Value} {h : gm_H} {Q : gm_R → gm_H → Prop} {lv : List Value} {a : Nat} (hk : gm_kd h a = 5) : gm_W E d 41 25 lv (.ref a :: st) h Q ↔ gm_W E d 41 28 lv (gm_fv h a 41 :: st) h Q := gw_rd m41 f41_25 rfl rfl rfl rfl (gs_get k5_96 hk (by decide))
theorem f41_28 : gm_ft 41 28 = some (.iload_n 1, 1) := by decide +kernel
theorem r41_28 {E : Nat → Value} {d : Nat} {st : List Value} {h : gm_H} {Q : gm_R → gm_H → Prop} {a0 a2 a3 a4 a5 a6 : Value} {x : Int32} : gm_W E d 41 28 [a0, .int x, a2, a3, a4, a5, a6] st h Q ↔ gm_W E d 41 29 [a0, .int x, a2, a3, a4, a5, a6] (.int x :: st) h Q := gw_loc m41 f41_28 rfl rfl
theorem f41_29 : gm_ft 41 29 = some (.iaload, 1) := by decide +kernel
theorem r41_29 {E : Nat → Value} {d : Nat} {st : List Value} {h : gm_H} {Q : gm_R → gm_H → Prop} {lv : List Value} {a j : Nat} (hk : gm_kd h a % 100 = 0 ∧ 100 ≤ gm_kd h a ∧ gm_kd h a < 900) (hj : j < gm_ln h a) (hl : gm_ln h a < 2 ^ 31) : gm_W E d 41 29 lv (.int (nI j) :: .ref a :: st) h Q ↔ gm_W E d 41 30 lv (gm_fv h a j :: st) h Q := gw_rd m41 f41_29 rfl rfl rfl rfl (gs_ld (P := fun t => t == 0) hk.2 (by have := hk.1; simp [this] <;> omega) hj hl)
theorem f41_30 : gm_ft 41 30 = some (.iconst 1, 1) := by decide +kernel
theorem r41_30 {E : Nat → Value} {d : Nat} {st : List Value} {h : gm_H} {Q : gm_R → gm_H → Prop} {lv : List Value} : gm_W E d 41 30 lv st h Q ↔ gm_W E d 41 31 lv (.int (1 : Int32) :: st) h Q := gw_pure m41 f41_30 rfl
theorem f41_31 : gm_ft 41 31 = some (.if_icmp .ne 40, 3) := by decide +kernel
theorem r41_31 {E : Nat → Value} {d : Nat} {st : List Value} {h : gm_H} {Q : gm_R → gm_H → Prop} {lv : List Value} {x y : Int32} : gm_W E d 41 31 lv (.int y :: .int x :: st) h Q ↔ (if x = y then gm_W E d 41 34 lv st h Q else gm_W E d 41 71 lv st h Q) := (gw_br m41 f41_31 rfl rfl rfl rfl).trans gw_ifn
theorem f41_34 : gm_ft 41 34 = some (.aload_n 0, 1) := by decide +kernel
theorem r41_34 {E : Nat → Value} {d : Nat} {st : List Value} {h : gm_H} {Q : gm_R → gm_H → Prop} {a1 a2 a3 a4 a5 a6 : Value} {x : Nat} : gm_W E d 41 34 [.ref x, a1, a2, a3, a4, a5, a6] st h Q ↔ gm_W E d 41 35 [.ref x, a1, a2, a3, a4, a5, a6] (.ref x :: st) h Q := gw_loc m41 f41_34 rfl rfl
theorem r41_34n {E : Nat → Value} {d : Nat} {st : List Value} {h : gm_H} {Q : gm_R → gm_H → Prop} {a1 a2 a3 a4 a5 a6 : Value}  : gm_W E d 41 34 [.null, a1, a2, a3, a4, a5, a6] st h Q ↔ gm_W E d 41 35 [.null, a1, a2, a3, a4, a5, a6] (.null :: st) h Q := gw_loc m41 f41_34 rfl rfl
theorem f41_35 : gm_ft 41 35 = some (.iload_n 2, 1) := by decide +kernel
theorem r41_35 {E : Nat → Value} {d : Nat} {st : List Value} {h : gm_H} {Q : gm_R → gm_H → Prop} {a0 a1 a3 a4 a5 a6 : Value} {x : Int32} : gm_W E d 41 35 [a0, a1, .int x, a3, a4, a5, a6] st h Q ↔ gm_W E d 41 36 [a0, a1, .int x, a3, a4, a5, a6] (.int x :: st) h Q := gw_loc m41 f41_35 rfl rfl
theorem f41_36 : gm_ft 41 36 = some (.iload_n 3, 1) := by decide +kernel
theorem r41_36 {E : Nat → Value} {d : Nat} {st : List Value} {h : gm_H} {Q : gm_R → gm_H → Prop} {a0 a1 a2 a4 a5 a6 : Value} {x : Int32} : gm_W E d 41 36 [a0, a1, a2, .int x, a4, a5, a6] st h Q ↔ gm_W E d 41 37 [a0, a1, a2, .int x, a4, a5, a6] (.int x :: st) h Q := gw_loc m41 f41_36 rfl rfl
theorem f41_37 : gm_ft 41 37 = some (.aload_n 0, 1) := by decide +kernel
theorem r41_37 {E : Nat → Value} {d : Nat} {st : List Value} {h : gm_H} {Q : gm_R → gm_H → Prop} {a1 a2 a3 a4 a5 a6 : Value} {x : Nat} : gm_W E d 41 37 [.ref x, a1, a2, a3, a4, a5, a6] st h Q ↔ gm_W E d 41 38 [.ref x, a1, a2, a3, a4, a5, a6] (.ref x :: st) h Q := gw_loc m41 f41_37 rfl rfl
theorem r41_37n {E : Nat → Value} {d : Nat} {st : List Value} {h : gm_H} {Q : gm_R → gm_H → Prop} {a1 a2 a3 a4 a5 a6 : Value}  : gm_W E d 41 37 [.null, a1, a2, a3, a4, a5, a6] st h Q ↔ gm_W E d 41 38 [.null, a1, a2, a3, a4, a5, a6] (.null :: st) h Q := gw_loc m41 f41_37 rfl rfl
theorem f41_38 : gm_ft 41 38 = some (.getfield 111, 3) := by decide +kernel
theorem r41_38 {E : Nat → Value} {d : Nat} {st : List Value} {h : gm_H} {Q : gm_R → gm_H → Prop} {lv : List Value} {a : Nat} (hk : gm_kd h a = 5) : gm_W E d 41 38 lv (.ref a :: st) h Q ↔ gm_W E d 41 41 lv (gm_fv h a 46 :: st) h Q := gw_rd m41 f41_38 rfl rfl rfl rfl (gs_get k5_111 hk (by decide))
theorem f41_41 : gm_ft 41 41 = some (.iload_n 1, 1) := by decide +kernel
theorem r41_41 {E : Nat → Value} {d : Nat} {st : List Value} {h : gm_H} {Q : gm_R → gm_H → Prop} {a0 a2 a3 a4 a5 a6 : Value} {x : Int32} : gm_W E d 41 41 [a0, .int x, a2, a3, a4, a5, a6] st h Q ↔ gm_W E d 41 42 [a0, .int x, a2, a3, a4, a5, a6] (.int x :: st) h Q := gw_loc m41 f41_41 rfl rfl
theorem f41_42 : gm_ft 41 42 = some (.iaload, 1) := by decide +kernel
theorem r41_42 {E : Nat → Value} {d : Nat} {st : List Value} {h : gm_H} {Q : gm_R → gm_H → Prop} {lv : List Value} {a j : Nat} (hk : gm_kd h a % 100 = 0 ∧ 100 ≤ gm_kd h a ∧ gm_kd h a < 900) (hj : j < gm_ln h a) (hl : gm_ln h a < 2 ^ 31) : gm_W E d 41 42 lv (.int (nI j) :: .ref a :: st) h Q ↔ gm_W E d 41 43 lv (gm_fv h a j :: st) h Q := gw_rd m41 f41_42 rfl rfl rfl rfl (gs_ld (P := fun t => t == 0) hk.2 (by have := hk.1; simp [this] <;> omega) hj hl)
theorem f41_43 : gm_ft 41 43 = some (.aload_n 0, 1) := by decide +kernel
theorem r41_43 {E : Nat → Value} {d : Nat} {st : List Value} {h : gm_H} {Q : gm_R → gm_H → Prop} {a1 a2 a3 a4 a5 a6 : Value} {x : Nat} : gm_W E d 41 43 [.ref x, a1, a2, a3, a4, a5, a6] st h Q ↔ gm_W E d 41 44 [.ref x, a1, a2, a3, a4, a5, a6] (.ref x :: st) h Q := gw_loc m41 f41_43 rfl rfl
theorem r41_43n {E : Nat → Value} {d : Nat} {st : List Value} {h : gm_H} {Q : gm_R → gm_H → Prop} {a1 a2 a3 a4 a5 a6 : Value}  : gm_W E d 41 43 [.null, a1, a2, a3, a4, a5, a6] st h Q ↔ gm_W E d 41 44 [.null, a1, a2, a3, a4, a5, a6] (.null :: st) h Q := gw_loc m41 f41_43 rfl rfl
theorem f41_44 : gm_ft 41 44 = some (.getfield 178, 3) := by decide +kernel
theorem r41_44 {E : Nat → Value} {d : Nat} {st : List Value} {h : gm_H} {Q : gm_R → gm_H → Prop} {lv : List Value} {a : Nat} (hk : gm_kd h a = 5) : gm_W E d 41 44 lv (.ref a :: st) h Q ↔ gm_W E d 41 47 lv (gm_fv h a 9 :: st) h Q := gw_rd m41 f41_44 rfl rfl rfl rfl (gs_get k5_178 hk (by decide))
theorem f41_47 : gm_ft 41 47 = some (.i2l, 1) := by decide +kernel
theorem r41_47 {E : Nat → Value} {d : Nat} {st : List Value} {h : gm_H} {Q : gm_R → gm_H → Prop} {lv : List Value} {x : Int32} : gm_W E d 41 47 lv (.int x :: st) h Q ↔ gm_W E d 41 48 lv (.long (x.toInt64) :: st) h Q := gw_pure m41 f41_47 rfl
theorem f41_48 : gm_ft 41 48 = some (.invokevirtual 266, 3) := by decide +kernel
theorem c41_48 {E : Nat → Value} {d : Nat} {st : List Value} {h : gm_H} {Q : gm_R → gm_H → Prop} {lv : List Value} {b0 : Int32} {b1 : Int32} {b2 : Int32} {b3 : Int64} {a : Nat} {Qc : gm_R → gm_H → Prop} (hs : (st.map fun v => v.category).sum ≤ 8) (hr : gm_kd h a = 5) (hd : 1 ≤ d) (hc : gm_Ca E (d - 1) 39 [.ref a, .int b0, .int b1, .int b2, .long b3] h Qc) (kn : ∀ (v9 : Option Value) (h9 : gm_H), Qc (.inl v9) h9 → gm_W E d 41 51 lv (v9.toList ++ st) h9 Q) (kx : ∀ (x9 : Nat) (h9 : gm_H), Qc (.inr x9) h9 → Q (.inr x9) h9) : gm_W E d 41 48 lv (.long b3 :: .int b2 :: .int b1 :: .int b0 :: .ref a :: st) h Q := gw_call (gn_call m41 f41_48 rfl rfl rfl rfl rfl rfl rfl (gs_virt (bs := [.long b3, .int b2, .int b1, .int b0]) (w := 969) (L := 8) rfl rfl rfl rfl hs (by simp [gm_en1]) hr (by decide)) (by decide)) m41 rfl rfl hd hc kn kx
theorem f41_51 : gm_ft 41 51 = some (.aload_n 0, 1) := by decide +kernel
theorem r41_51 {E : Nat → Value} {d : Nat} {st : List Value} {h : gm_H} {Q : gm_R → gm_H → Prop} {a1 a2 a3 a4 a5 a6 : Value} {x : Nat} : gm_W E d 41 51 [.ref x, a1, a2, a3, a4, a5, a6] st h Q ↔ gm_W E d 41 52 [.ref x, a1, a2, a3, a4, a5, a6] (.ref x :: st) h Q := gw_loc m41 f41_51 rfl rfl
theorem r41_51n {E : Nat → Value} {d : Nat} {st : List Value} {h : gm_H} {Q : gm_R → gm_H → Prop} {a1 a2 a3 a4 a5 a6 : Value}  : gm_W E d 41 51 [.null, a1, a2, a3, a4, a5, a6] st h Q ↔ gm_W E d 41 52 [.null, a1, a2, a3, a4, a5, a6] (.null :: st) h Q := gw_loc m41 f41_51 rfl rfl
theorem f41_52 : gm_ft 41 52 = some (.getfield 111, 3) := by decide +kernel
theorem r41_52 {E : Nat → Value} {d : Nat} {st : List Value} {h : gm_H} {Q : gm_R → gm_H → Prop} {lv : List Value} {a : Nat} (hk : gm_kd h a = 5) : gm_W E d 41 52 lv (.ref a :: st) h Q ↔ gm_W E d 41 55 lv (gm_fv h a 46 :: st) h Q := gw_rd m41 f41_52 rfl rfl rfl rfl (gs_get k5_111 hk (by decide))
theorem f41_55 : gm_ft 41 55 = some (.iload_n 1, 1) := by decide +kernel
theorem r41_55 {E : Nat → Value} {d : Nat} {st : List Value} {h : gm_H} {Q : gm_R → gm_H → Prop} {a0 a2 a3 a4 a5 a6 : Value} {x : Int32} : gm_W E d 41 55 [a0, .int x, a2, a3, a4, a5, a6] st h Q ↔ gm_W E d 41 56 [a0, .int x, a2, a3, a4, a5, a6] (.int x :: st) h Q := gw_loc m41 f41_55 rfl rfl
theorem f41_56 : gm_ft 41 56 = some (.dup2, 1) := by decide +kernel
theorem r41_56 {E : Nat → Value} {d : Nat} {st : List Value} {h : gm_H} {Q : gm_R → gm_H → Prop} {lv : List Value} {x : Int32} {a : Nat} : gm_W E d 41 56 lv (.int x :: .ref a :: st) h Q ↔ gm_W E d 41 57 lv (.int x :: .ref a :: .int x :: .ref a :: st) h Q := gw_pure m41 f41_56 rfl
theorem f41_57 : gm_ft 41 57 = some (.iaload, 1) := by decide +kernel
theorem r41_57 {E : Nat → Value} {d : Nat} {st : List Value} {h : gm_H} {Q : gm_R → gm_H → Prop} {lv : List Value} {a j : Nat} (hk : gm_kd h a % 100 = 0 ∧ 100 ≤ gm_kd h a ∧ gm_kd h a < 900) (hj : j < gm_ln h a) (hl : gm_ln h a < 2 ^ 31) : gm_W E d 41 57 lv (.int (nI j) :: .ref a :: st) h Q ↔ gm_W E d 41 58 lv (gm_fv h a j :: st) h Q := gw_rd m41 f41_57 rfl rfl rfl rfl (gs_ld (P := fun t => t == 0) hk.2 (by have := hk.1; simp [this] <;> omega) hj hl)
theorem f41_58 : gm_ft 41 58 = some (.iconst 1, 1) := by decide +kernel
theorem r41_58 {E : Nat → Value} {d : Nat} {st : List Value} {h : gm_H} {Q : gm_R → gm_H → Prop} {lv : List Value} : gm_W E d 41 58 lv st h Q ↔ gm_W E d 41 59 lv (.int (1 : Int32) :: st) h Q := gw_pure m41 f41_58 rfl
theorem f41_59 : gm_ft 41 59 = some (.iadd, 1) := by decide +kernel
theorem r41_59 {E : Nat → Value} {d : Nat} {st : List Value} {h : gm_H} {Q : gm_R → gm_H → Prop} {lv : List Value} {x y : Int32} : gm_W E d 41 59 lv (.int y :: .int x :: st) h Q ↔ gm_W E d 41 60 lv (.int (x + y) :: st) h Q := gw_pure m41 f41_59 rfl
theorem f41_60 : gm_ft 41 60 = some (.iastore, 1) := by decide +kernel
theorem r41_60 {E : Nat → Value} {d : Nat} {st : List Value} {h : gm_H} {Q : gm_R → gm_H → Prop} {lv : List Value} {a j : Nat} {x : Int32} (hk : gm_kd h a = 200) (hj : j < gm_ln h a) (hl : gm_ln h a < 2 ^ 31) : gm_W E d 41 60 lv (.int x :: .int (nI j) :: .ref a :: st) h Q ↔ gm_W E d 41 61 lv st (gm_sf h a j (.int x)) Q := gw_wr m41 f41_60 rfl rfl rfl rfl rfl (gs_st hk (by decide) hj hl)
theorem f41_61 : gm_ft 41 61 = some (.aload_n 0, 1) := by decide +kernel
theorem r41_61 {E : Nat → Value} {d : Nat} {st : List Value} {h : gm_H} {Q : gm_R → gm_H → Prop} {a1 a2 a3 a4 a5 a6 : Value} {x : Nat} : gm_W E d 41 61 [.ref x, a1, a2, a3, a4, a5, a6] st h Q ↔ gm_W E d 41 62 [.ref x, a1, a2, a3, a4, a5, a6] (.ref x :: st) h Q := gw_loc m41 f41_61 rfl rfl
theorem r41_61n {E : Nat → Value} {d : Nat} {st : List Value} {h : gm_H} {Q : gm_R → gm_H → Prop} {a1 a2 a3 a4 a5 a6 : Value}  : gm_W E d 41 61 [.null, a1, a2, a3, a4, a5, a6] st h Q ↔ gm_W E d 41 62 [.null, a1, a2, a3, a4, a5, a6] (.null :: st) h Q := gw_loc m41 f41_61 rfl rfl
theorem f41_62 : gm_ft 41 62 = some (.getfield 96, 3) := by decide +kernel
theorem r41_62 {E : Nat → Value} {d : Nat} {st : List Value} {h : gm_H} {Q : gm_R → gm_H → Prop} {lv : List Value} {a : Nat} (hk : gm_kd h a = 5) : gm_W E d 41 62 lv (.ref a :: st) h Q ↔ gm_W E d 41 65 lv (gm_fv h a 41 :: st) h Q := gw_rd m41 f41_62 rfl rfl rfl rfl (gs_get k5_96 hk (by decide))
theorem f41_65 : gm_ft 41 65 = some (.iload_n 1, 1) := by decide +kernel
theorem r41_65 {E : Nat → Value} {d : Nat} {st : List Value} {h : gm_H} {Q : gm_R → gm_H → Prop} {a0 a2 a3 a4 a5 a6 : Value} {x : Int32} : gm_W E d 41 65 [a0, .int x, a2, a3, a4, a5, a6] st h Q ↔ gm_W E d 41 66 [a0, .int x, a2, a3, a4, a5, a6] (.int x :: st) h Q := gw_loc m41 f41_65 rfl rfl
theorem f41_66 : gm_ft 41 66 = some (.iconst 0, 1) := by decide +kernel
theorem r41_66 {E : Nat → Value} {d : Nat} {st : List Value} {h : gm_H} {Q : gm_R → gm_H → Prop} {lv : List Value} : gm_W E d 41 66 lv st h Q ↔ gm_W E d 41 67 lv (.int (0 : Int32) :: st) h Q := gw_pure m41 f41_66 rfl
theorem f41_67 : gm_ft 41 67 = some (.iastore, 1) := by decide +kernel
theorem r41_67 {E : Nat → Value} {d : Nat} {st : List Value} {h : gm_H} {Q : gm_R → gm_H → Prop} {lv : List Value} {a j : Nat} {x : Int32} (hk : gm_kd h a = 200) (hj : j < gm_ln h a) (hl : gm_ln h a < 2 ^ 31) : gm_W E d 41 67 lv (.int x :: .int (nI j) :: .ref a :: st) h Q ↔ gm_W E d 41 68 lv st (gm_sf h a j (.int x)) Q := gw_wr m41 f41_67 rfl rfl rfl rfl rfl (gs_st hk (by decide) hj hl)
theorem f41_68 : gm_ft 41 68 = some (.goto 195, 3) := by decide +kernel
theorem r41_68 {E : Nat → Value} {d : Nat} {st : List Value} {h : gm_H} {Q : gm_R → gm_H → Prop} {lv : List Value} : gm_W E d 41 68 lv st h Q ↔ gm_W E d 41 263 lv st h Q := gw_brT m41 f41_68 rfl rfl rfl rfl
theorem f41_71 : gm_ft 41 71 = some (.aload_n 0, 1) := by decide +kernel
theorem r41_71 {E : Nat → Value} {d : Nat} {st : List Value} {h : gm_H} {Q : gm_R → gm_H → Prop} {a1 a2 a3 a4 a5 a6 : Value} {x : Nat} : gm_W E d 41 71 [.ref x, a1, a2, a3, a4, a5, a6] st h Q ↔ gm_W E d 41 72 [.ref x, a1, a2, a3, a4, a5, a6] (.ref x :: st) h Q := gw_loc m41 f41_71 rfl rfl
theorem r41_71n {E : Nat → Value} {d : Nat} {st : List Value} {h : gm_H} {Q : gm_R → gm_H → Prop} {a1 a2 a3 a4 a5 a6 : Value}  : gm_W E d 41 71 [.null, a1, a2, a3, a4, a5, a6] st h Q ↔ gm_W E d 41 72 [.null, a1, a2, a3, a4, a5, a6] (.null :: st) h Q := gw_loc m41 f41_71 rfl rfl
theorem f41_72 : gm_ft 41 72 = some (.getfield 96, 3) := by decide +kernel
theorem r41_72 {E : Nat → Value} {d : Nat} {st : List Value} {h : gm_H} {Q : gm_R → gm_H → Prop} {lv : List Value} {a : Nat} (hk : gm_kd h a = 5) : gm_W E d 41 72 lv (.ref a :: st) h Q ↔ gm_W E d 41 75 lv (gm_fv h a 41 :: st) h Q := gw_rd m41 f41_72 rfl rfl rfl rfl (gs_get k5_96 hk (by decide))
theorem f41_75 : gm_ft 41 75 = some (.iload_n 1, 1) := by decide +kernel
theorem r41_75 {E : Nat → Value} {d : Nat} {st : List Value} {h : gm_H} {Q : gm_R → gm_H → Prop} {a0 a2 a3 a4 a5 a6 : Value} {x : Int32} : gm_W E d 41 75 [a0, .int x, a2, a3, a4, a5, a6] st h Q ↔ gm_W E d 41 76 [a0, .int x, a2, a3, a4, a5, a6] (.int x :: st) h Q := gw_loc m41 f41_75 rfl rfl
theorem f41_76 : gm_ft 41 76 = some (.iaload, 1) := by decide +kernel
theorem r41_76 {E : Nat → Value} {d : Nat} {st : List Value} {h : gm_H} {Q : gm_R → gm_H → Prop} {lv : List Value} {a j : Nat} (hk : gm_kd h a % 100 = 0 ∧ 100 ≤ gm_kd h a ∧ gm_kd h a < 900) (hj : j < gm_ln h a) (hl : gm_ln h a < 2 ^ 31) : gm_W E d 41 76 lv (.int (nI j) :: .ref a :: st) h Q ↔ gm_W E d 41 77 lv (gm_fv h a j :: st) h Q := gw_rd m41 f41_76 rfl rfl rfl rfl (gs_ld (P := fun t => t == 0) hk.2 (by have := hk.1; simp [this] <;> omega) hj hl)
theorem f41_77 : gm_ft 41 77 = some (.iconst 2, 1) := by decide +kernel
theorem r41_77 {E : Nat → Value} {d : Nat} {st : List Value} {h : gm_H} {Q : gm_R → gm_H → Prop} {lv : List Value} : gm_W E d 41 77 lv st h Q ↔ gm_W E d 41 78 lv (.int (2 : Int32) :: st) h Q := gw_pure m41 f41_77 rfl
theorem f41_78 : gm_ft 41 78 = some (.if_icmp .ne 30, 3) := by decide +kernel
theorem r41_78 {E : Nat → Value} {d : Nat} {st : List Value} {h : gm_H} {Q : gm_R → gm_H → Prop} {lv : List Value} {x y : Int32} : gm_W E d 41 78 lv (.int y :: .int x :: st) h Q ↔ (if x = y then gm_W E d 41 81 lv st h Q else gm_W E d 41 108 lv st h Q) := (gw_br m41 f41_78 rfl rfl rfl rfl).trans gw_ifn
theorem f41_81 : gm_ft 41 81 = some (.aload_n 0, 1) := by decide +kernel
theorem r41_81 {E : Nat → Value} {d : Nat} {st : List Value} {h : gm_H} {Q : gm_R → gm_H → Prop} {a1 a2 a3 a4 a5 a6 : Value} {x : Nat} : gm_W E d 41 81 [.ref x, a1, a2, a3, a4, a5, a6] st h Q ↔ gm_W E d 41 82 [.ref x, a1, a2, a3, a4, a5, a6] (.ref x :: st) h Q := gw_loc m41 f41_81 rfl rfl
theorem r41_81n {E : Nat → Value} {d : Nat} {st : List Value} {h : gm_H} {Q : gm_R → gm_H → Prop} {a1 a2 a3 a4 a5 a6 : Value}  : gm_W E d 41 81 [.null, a1, a2, a3, a4, a5, a6] st h Q ↔ gm_W E d 41 82 [.null, a1, a2, a3, a4, a5, a6] (.null :: st) h Q := gw_loc m41 f41_81 rfl rfl
theorem f41_82 : gm_ft 41 82 = some (.getfield 108, 3) := by decide +kernel
theorem r41_82 {E : Nat → Value} {d : Nat} {st : List Value} {h : gm_H} {Q : gm_R → gm_H → Prop} {lv : List Value} {a : Nat} (hk : gm_kd h a = 5) : gm_W E d 41 82 lv (.ref a :: st) h Q ↔ gm_W E d 41 85 lv (gm_fv h a 45 :: st) h Q := gw_rd m41 f41_82 rfl rfl rfl rfl (gs_get k5_108 hk (by decide))
theorem f41_85 : gm_ft 41 85 = some (.iload_n 1, 1) := by decide +kernel
theorem r41_85 {E : Nat → Value} {d : Nat} {st : List Value} {h : gm_H} {Q : gm_R → gm_H → Prop} {a0 a2 a3 a4 a5 a6 : Value} {x : Int32} : gm_W E d 41 85 [a0, .int x, a2, a3, a4, a5, a6] st h Q ↔ gm_W E d 41 86 [a0, .int x, a2, a3, a4, a5, a6] (.int x :: st) h Q := gw_loc m41 f41_85 rfl rfl
theorem f41_86 : gm_ft 41 86 = some (.dup2, 1) := by decide +kernel
theorem r41_86 {E : Nat → Value} {d : Nat} {st : List Value} {h : gm_H} {Q : gm_R → gm_H → Prop} {lv : List Value} {x : Int32} {a : Nat} : gm_W E d 41 86 lv (.int x :: .ref a :: st) h Q ↔ gm_W E d 41 87 lv (.int x :: .ref a :: .int x :: .ref a :: st) h Q := gw_pure m41 f41_86 rfl
theorem f41_87 : gm_ft 41 87 = some (.iaload, 1) := by decide +kernel
theorem r41_87 {E : Nat → Value} {d : Nat} {st : List Value} {h : gm_H} {Q : gm_R → gm_H → Prop} {lv : List Value} {a j : Nat} (hk : gm_kd h a % 100 = 0 ∧ 100 ≤ gm_kd h a ∧ gm_kd h a < 900) (hj : j < gm_ln h a) (hl : gm_ln h a < 2 ^ 31) : gm_W E d 41 87 lv (.int (nI j) :: .ref a :: st) h Q ↔ gm_W E d 41 88 lv (gm_fv h a j :: st) h Q := gw_rd m41 f41_87 rfl rfl rfl rfl (gs_ld (P := fun t => t == 0) hk.2 (by have := hk.1; simp [this] <;> omega) hj hl)
theorem f41_88 : gm_ft 41 88 = some (.iconst 1, 1) := by decide +kernel
theorem r41_88 {E : Nat → Value} {d : Nat} {st : List Value} {h : gm_H} {Q : gm_R → gm_H → Prop} {lv : List Value} : gm_W E d 41 88 lv st h Q ↔ gm_W E d 41 89 lv (.int (1 : Int32) :: st) h Q := gw_pure m41 f41_88 rfl
theorem f41_89 : gm_ft 41 89 = some (.iadd, 1) := by decide +kernel
theorem r41_89 {E : Nat → Value} {d : Nat} {st : List Value} {h : gm_H} {Q : gm_R → gm_H → Prop} {lv : List Value} {x y : Int32} : gm_W E d 41 89 lv (.int y :: .int x :: st) h Q ↔ gm_W E d 41 90 lv (.int (x + y) :: st) h Q := gw_pure m41 f41_89 rfl
theorem f41_90 : gm_ft 41 90 = some (.iastore, 1) := by decide +kernel
theorem r41_90 {E : Nat → Value} {d : Nat} {st : List Value} {h : gm_H} {Q : gm_R → gm_H → Prop} {lv : List Value} {a j : Nat} {x : Int32} (hk : gm_kd h a = 200) (hj : j < gm_ln h a) (hl : gm_ln h a < 2 ^ 31) : gm_W E d 41 90 lv (.int x :: .int (nI j) :: .ref a :: st) h Q ↔ gm_W E d 41 91 lv st (gm_sf h a j (.int x)) Q := gw_wr m41 f41_90 rfl rfl rfl rfl rfl (gs_st hk (by decide) hj hl)
theorem f41_91 : gm_ft 41 91 = some (.aload_n 0, 1) := by decide +kernel
theorem r41_91 {E : Nat → Value} {d : Nat} {st : List Value} {h : gm_H} {Q : gm_R → gm_H → Prop} {a1 a2 a3 a4 a5 a6 : Value} {x : Nat} : gm_W E d 41 91 [.ref x, a1, a2, a3, a4, a5, a6] st h Q ↔ gm_W E d 41 92 [.ref x, a1, a2, a3, a4, a5, a6] (.ref x :: st) h Q := gw_loc m41 f41_91 rfl rfl
theorem r41_91n {E : Nat → Value} {d : Nat} {st : List Value} {h : gm_H} {Q : gm_R → gm_H → Prop} {a1 a2 a3 a4 a5 a6 : Value}  : gm_W E d 41 91 [.null, a1, a2, a3, a4, a5, a6] st h Q ↔ gm_W E d 41 92 [.null, a1, a2, a3, a4, a5, a6] (.null :: st) h Q := gw_loc m41 f41_91 rfl rfl
theorem f41_92 : gm_ft 41 92 = some (.getfield 111, 3) := by decide +kernel
theorem r41_92 {E : Nat → Value} {d : Nat} {st : List Value} {h : gm_H} {Q : gm_R → gm_H → Prop} {lv : List Value} {a : Nat} (hk : gm_kd h a = 5) : gm_W E d 41 92 lv (.ref a :: st) h Q ↔ gm_W E d 41 95 lv (gm_fv h a 46 :: st) h Q := gw_rd m41 f41_92 rfl rfl rfl rfl (gs_get k5_111 hk (by decide))
theorem f41_95 : gm_ft 41 95 = some (.iload_n 1, 1) := by decide +kernel
theorem r41_95 {E : Nat → Value} {d : Nat} {st : List Value} {h : gm_H} {Q : gm_R → gm_H → Prop} {a0 a2 a3 a4 a5 a6 : Value} {x : Int32} : gm_W E d 41 95 [a0, .int x, a2, a3, a4, a5, a6] st h Q ↔ gm_W E d 41 96 [a0, .int x, a2, a3, a4, a5, a6] (.int x :: st) h Q := gw_loc m41 f41_95 rfl rfl
theorem f41_96 : gm_ft 41 96 = some (.iconst 0, 1) := by decide +kernel
theorem r41_96 {E : Nat → Value} {d : Nat} {st : List Value} {h : gm_H} {Q : gm_R → gm_H → Prop} {lv : List Value} : gm_W E d 41 96 lv st h Q ↔ gm_W E d 41 97 lv (.int (0 : Int32) :: st) h Q := gw_pure m41 f41_96 rfl
theorem f41_97 : gm_ft 41 97 = some (.iastore, 1) := by decide +kernel
theorem r41_97 {E : Nat → Value} {d : Nat} {st : List Value} {h : gm_H} {Q : gm_R → gm_H → Prop} {lv : List Value} {a j : Nat} {x : Int32} (hk : gm_kd h a = 200) (hj : j < gm_ln h a) (hl : gm_ln h a < 2 ^ 31) : gm_W E d 41 97 lv (.int x :: .int (nI j) :: .ref a :: st) h Q ↔ gm_W E d 41 98 lv st (gm_sf h a j (.int x)) Q := gw_wr m41 f41_97 rfl rfl rfl rfl rfl (gs_st hk (by decide) hj hl)
theorem f41_98 : gm_ft 41 98 = some (.aload_n 0, 1) := by decide +kernel
theorem r41_98 {E : Nat → Value} {d : Nat} {st : List Value} {h : gm_H} {Q : gm_R → gm_H → Prop} {a1 a2 a3 a4 a5 a6 : Value} {x : Nat} : gm_W E d 41 98 [.ref x, a1, a2, a3, a4, a5, a6] st h Q ↔ gm_W E d 41 99 [.ref x, a1, a2, a3, a4, a5, a6] (.ref x :: st) h Q := gw_loc m41 f41_98 rfl rfl
theorem r41_98n {E : Nat → Value} {d : Nat} {st : List Value} {h : gm_H} {Q : gm_R → gm_H → Prop} {a1 a2 a3 a4 a5 a6 : Value}  : gm_W E d 41 98 [.null, a1, a2, a3, a4, a5, a6] st h Q ↔ gm_W E d 41 99 [.null, a1, a2, a3, a4, a5, a6] (.null :: st) h Q := gw_loc m41 f41_98 rfl rfl
theorem f41_99 : gm_ft 41 99 = some (.getfield 96, 3) := by decide +kernel
theorem r41_99 {E : Nat → Value} {d : Nat} {st : List Value} {h : gm_H} {Q : gm_R → gm_H → Prop} {lv : List Value} {a : Nat} (hk : gm_kd h a = 5) : gm_W E d 41 99 lv (.ref a :: st) h Q ↔ gm_W E d 41 102 lv (gm_fv h a 41 :: st) h Q := gw_rd m41 f41_99 rfl rfl rfl rfl (gs_get k5_96 hk (by decide))
theorem f41_102 : gm_ft 41 102 = some (.iload_n 1, 1) := by decide +kernel
theorem r41_102 {E : Nat → Value} {d : Nat} {st : List Value} {h : gm_H} {Q : gm_R → gm_H → Prop} {a0 a2 a3 a4 a5 a6 : Value} {x : Int32} : gm_W E d 41 102 [a0, .int x, a2, a3, a4, a5, a6] st h Q ↔ gm_W E d 41 103 [a0, .int x, a2, a3, a4, a5, a6] (.int x :: st) h Q := gw_loc m41 f41_102 rfl rfl
theorem f41_103 : gm_ft 41 103 = some (.iconst 0, 1) := by decide +kernel
theorem r41_103 {E : Nat → Value} {d : Nat} {st : List Value} {h : gm_H} {Q : gm_R → gm_H → Prop} {lv : List Value} : gm_W E d 41 103 lv st h Q ↔ gm_W E d 41 104 lv (.int (0 : Int32) :: st) h Q := gw_pure m41 f41_103 rfl
theorem f41_104 : gm_ft 41 104 = some (.iastore, 1) := by decide +kernel
theorem r41_104 {E : Nat → Value} {d : Nat} {st : List Value} {h : gm_H} {Q : gm_R → gm_H → Prop} {lv : List Value} {a j : Nat} {x : Int32} (hk : gm_kd h a = 200) (hj : j < gm_ln h a) (hl : gm_ln h a < 2 ^ 31) : gm_W E d 41 104 lv (.int x :: .int (nI j) :: .ref a :: st) h Q ↔ gm_W E d 41 105 lv st (gm_sf h a j (.int x)) Q := gw_wr m41 f41_104 rfl rfl rfl rfl rfl (gs_st hk (by decide) hj hl)
theorem f41_105 : gm_ft 41 105 = some (.goto 158, 3) := by decide +kernel
theorem r41_105 {E : Nat → Value} {d : Nat} {st : List Value} {h : gm_H} {Q : gm_R → gm_H → Prop} {lv : List Value} : gm_W E d 41 105 lv st h Q ↔ gm_W E d 41 263 lv st h Q := gw_brT m41 f41_105 rfl rfl rfl rfl
theorem f41_108 : gm_ft 41 108 = some (.iload_n 3, 1) := by decide +kernel
theorem r41_108 {E : Nat → Value} {d : Nat} {st : List Value} {h : gm_H} {Q : gm_R → gm_H → Prop} {a0 a1 a2 a4 a5 a6 : Value} {x : Int32} : gm_W E d 41 108 [a0, a1, a2, .int x, a4, a5, a6] st h Q ↔ gm_W E d 41 109 [a0, a1, a2, .int x, a4, a5, a6] (.int x :: st) h Q := gw_loc m41 f41_108 rfl rfl
theorem f41_109 : gm_ft 41 109 = some (.ifCond .ge 11, 3) := by decide +kernel
theorem r41_109 {E : Nat → Value} {d : Nat} {st : List Value} {h : gm_H} {Q : gm_R → gm_H → Prop} {lv : List Value} {x : Int32} : gm_W E d 41 109 lv (.int x :: st) h Q ↔ (if 0 ≤ x then gm_W E d 41 120 lv st h Q else gm_W E d 41 112 lv st h Q) := (gw_br m41 f41_109 rfl rfl rfl rfl).trans gw_if
theorem f41_112 : gm_ft 41 112 = some (.aload_n 0, 1) := by decide +kernel
theorem r41_112 {E : Nat → Value} {d : Nat} {st : List Value} {h : gm_H} {Q : gm_R → gm_H → Prop} {a1 a2 a3 a4 a5 a6 : Value} {x : Nat} : gm_W E d 41 112 [.ref x, a1, a2, a3, a4, a5, a6] st h Q ↔ gm_W E d 41 113 [.ref x, a1, a2, a3, a4, a5, a6] (.ref x :: st) h Q := gw_loc m41 f41_112 rfl rfl
theorem r41_112n {E : Nat → Value} {d : Nat} {st : List Value} {h : gm_H} {Q : gm_R → gm_H → Prop} {a1 a2 a3 a4 a5 a6 : Value}  : gm_W E d 41 112 [.null, a1, a2, a3, a4, a5, a6] st h Q ↔ gm_W E d 41 113 [.null, a1, a2, a3, a4, a5, a6] (.null :: st) h Q := gw_loc m41 f41_112 rfl rfl
theorem f41_113 : gm_ft 41 113 = some (.iload_n 2, 1) := by decide +kernel
theorem r41_113 {E : Nat → Value} {d : Nat} {st : List Value} {h : gm_H} {Q : gm_R → gm_H → Prop} {a0 a1 a3 a4 a5 a6 : Value} {x : Int32} : gm_W E d 41 113 [a0, a1, .int x, a3, a4, a5, a6] st h Q ↔ gm_W E d 41 114 [a0, a1, .int x, a3, a4, a5, a6] (.int x :: st) h Q := gw_loc m41 f41_113 rfl rfl
theorem f41_114 : gm_ft 41 114 = some (.invokevirtual 182, 3) := by decide +kernel
theorem c41_114 {E : Nat → Value} {d : Nat} {st : List Value} {h : gm_H} {Q : gm_R → gm_H → Prop} {lv : List Value} {b0 : Int32} {a : Nat} {Qc : gm_R → gm_H → Prop} (hs : (st.map fun v => v.category).sum ≤ 8) (hr : gm_kd h a = 5) (hd : 1 ≤ d) (hc : gm_Ca E (d - 1) 16 [.ref a, .int b0] h Qc) (kn : ∀ (v9 : Option Value) (h9 : gm_H), Qc (.inl v9) h9 → gm_W E d 41 117 lv (v9.toList ++ st) h9 Q) (kx : ∀ (x9 : Nat) (h9 : gm_H), Qc (.inr x9) h9 → Q (.inr x9) h9) : gm_W E d 41 114 lv (.int b0 :: .ref a :: st) h Q := gw_call (gn_call m41 f41_114 rfl rfl rfl rfl rfl rfl rfl (gs_virt (bs := [.int b0]) (w := 872) (L := 2) rfl rfl rfl rfl hs (by simp [gm_en1]) hr (by decide)) (by decide)) m41 rfl rfl hd hc kn kx
theorem f41_117 : gm_ft 41 117 = some (.goto 146, 3) := by decide +kernel
theorem r41_117 {E : Nat → Value} {d : Nat} {st : List Value} {h : gm_H} {Q : gm_R → gm_H → Prop} {lv : List Value} : gm_W E d 41 117 lv st h Q ↔ gm_W E d 41 263 lv st h Q := gw_brT m41 f41_117 rfl rfl rfl rfl
theorem f41_120 : gm_ft 41 120 = some (.aload_n 0, 1) := by decide +kernel
theorem r41_120 {E : Nat → Value} {d : Nat} {st : List Value} {h : gm_H} {Q : gm_R → gm_H → Prop} {a1 a2 a3 a4 a5 a6 : Value} {x : Nat} : gm_W E d 41 120 [.ref x, a1, a2, a3, a4, a5, a6] st h Q ↔ gm_W E d 41 121 [.ref x, a1, a2, a3, a4, a5, a6] (.ref x :: st) h Q := gw_loc m41 f41_120 rfl rfl
theorem r41_120n {E : Nat → Value} {d : Nat} {st : List Value} {h : gm_H} {Q : gm_R → gm_H → Prop} {a1 a2 a3 a4 a5 a6 : Value}  : gm_W E d 41 120 [.null, a1, a2, a3, a4, a5, a6] st h Q ↔ gm_W E d 41 121 [.null, a1, a2, a3, a4, a5, a6] (.null :: st) h Q := gw_loc m41 f41_120 rfl rfl
theorem f41_121 : gm_ft 41 121 = some (.getfield 111, 3) := by decide +kernel
theorem r41_121 {E : Nat → Value} {d : Nat} {st : List Value} {h : gm_H} {Q : gm_R → gm_H → Prop} {lv : List Value} {a : Nat} (hk : gm_kd h a = 5) : gm_W E d 41 121 lv (.ref a :: st) h Q ↔ gm_W E d 41 124 lv (gm_fv h a 46 :: st) h Q := gw_rd m41 f41_121 rfl rfl rfl rfl (gs_get k5_111 hk (by decide))
theorem f41_124 : gm_ft 41 124 = some (.iload_n 1, 1) := by decide +kernel
theorem r41_124 {E : Nat → Value} {d : Nat} {st : List Value} {h : gm_H} {Q : gm_R → gm_H → Prop} {a0 a2 a3 a4 a5 a6 : Value} {x : Int32} : gm_W E d 41 124 [a0, .int x, a2, a3, a4, a5, a6] st h Q ↔ gm_W E d 41 125 [a0, .int x, a2, a3, a4, a5, a6] (.int x :: st) h Q := gw_loc m41 f41_124 rfl rfl
theorem f41_125 : gm_ft 41 125 = some (.iaload, 1) := by decide +kernel
theorem r41_125 {E : Nat → Value} {d : Nat} {st : List Value} {h : gm_H} {Q : gm_R → gm_H → Prop} {lv : List Value} {a j : Nat} (hk : gm_kd h a % 100 = 0 ∧ 100 ≤ gm_kd h a ∧ gm_kd h a < 900) (hj : j < gm_ln h a) (hl : gm_ln h a < 2 ^ 31) : gm_W E d 41 125 lv (.int (nI j) :: .ref a :: st) h Q ↔ gm_W E d 41 126 lv (gm_fv h a j :: st) h Q := gw_rd m41 f41_125 rfl rfl rfl rfl (gs_ld (P := fun t => t == 0) hk.2 (by have := hk.1; simp [this] <;> omega) hj hl)
theorem f41_126 : gm_ft 41 126 = some (.aload_n 0, 1) := by decide +kernel
theorem r41_126 {E : Nat → Value} {d : Nat} {st : List Value} {h : gm_H} {Q : gm_R → gm_H → Prop} {a1 a2 a3 a4 a5 a6 : Value} {x : Nat} : gm_W E d 41 126 [.ref x, a1, a2, a3, a4, a5, a6] st h Q ↔ gm_W E d 41 127 [.ref x, a1, a2, a3, a4, a5, a6] (.ref x :: st) h Q := gw_loc m41 f41_126 rfl rfl
theorem r41_126n {E : Nat → Value} {d : Nat} {st : List Value} {h : gm_H} {Q : gm_R → gm_H → Prop} {a1 a2 a3 a4 a5 a6 : Value}  : gm_W E d 41 126 [.null, a1, a2, a3, a4, a5, a6] st h Q ↔ gm_W E d 41 127 [.null, a1, a2, a3, a4, a5, a6] (.null :: st) h Q := gw_loc m41 f41_126 rfl rfl
theorem f41_127 : gm_ft 41 127 = some (.getfield 81, 3) := by decide +kernel
theorem r41_127 {E : Nat → Value} {d : Nat} {st : List Value} {h : gm_H} {Q : gm_R → gm_H → Prop} {lv : List Value} {a : Nat} (hk : gm_kd h a = 5) : gm_W E d 41 127 lv (.ref a :: st) h Q ↔ gm_W E d 41 130 lv (gm_fv h a 35 :: st) h Q := gw_rd m41 f41_127 rfl rfl rfl rfl (gs_get k5_81 hk (by decide))
theorem f41_130 : gm_ft 41 130 = some (.iload_n 3, 1) := by decide +kernel
theorem r41_130 {E : Nat → Value} {d : Nat} {st : List Value} {h : gm_H} {Q : gm_R → gm_H → Prop} {a0 a1 a2 a4 a5 a6 : Value} {x : Int32} : gm_W E d 41 130 [a0, a1, a2, .int x, a4, a5, a6] st h Q ↔ gm_W E d 41 131 [a0, a1, a2, .int x, a4, a5, a6] (.int x :: st) h Q := gw_loc m41 f41_130 rfl rfl
theorem f41_131 : gm_ft 41 131 = some (.iaload, 1) := by decide +kernel
theorem r41_131 {E : Nat → Value} {d : Nat} {st : List Value} {h : gm_H} {Q : gm_R → gm_H → Prop} {lv : List Value} {a j : Nat} (hk : gm_kd h a % 100 = 0 ∧ 100 ≤ gm_kd h a ∧ gm_kd h a < 900) (hj : j < gm_ln h a) (hl : gm_ln h a < 2 ^ 31) : gm_W E d 41 131 lv (.int (nI j) :: .ref a :: st) h Q ↔ gm_W E d 41 132 lv (gm_fv h a j :: st) h Q := gw_rd m41 f41_131 rfl rfl rfl rfl (gs_ld (P := fun t => t == 0) hk.2 (by have := hk.1; simp [this] <;> omega) hj hl)
theorem f41_132 : gm_ft 41 132 = some (.if_icmp .ge 94, 3) := by decide +kernel
theorem r41_132 {E : Nat → Value} {d : Nat} {st : List Value} {h : gm_H} {Q : gm_R → gm_H → Prop} {lv : List Value} {x y : Int32} : gm_W E d 41 132 lv (.int y :: .int x :: st) h Q ↔ (if y ≤ x then gm_W E d 41 226 lv st h Q else gm_W E d 41 135 lv st h Q) := (gw_br m41 f41_132 rfl rfl rfl rfl).trans gw_if
theorem f41_135 : gm_ft 41 135 = some (.aload_n 0, 1) := by decide +kernel
theorem r41_135 {E : Nat → Value} {d : Nat} {st : List Value} {h : gm_H} {Q : gm_R → gm_H → Prop} {a1 a2 a3 a4 a5 a6 : Value} {x : Nat} : gm_W E d 41 135 [.ref x, a1, a2, a3, a4, a5, a6] st h Q ↔ gm_W E d 41 136 [.ref x, a1, a2, a3, a4, a5, a6] (.ref x :: st) h Q := gw_loc m41 f41_135 rfl rfl
theorem r41_135n {E : Nat → Value} {d : Nat} {st : List Value} {h : gm_H} {Q : gm_R → gm_H → Prop} {a1 a2 a3 a4 a5 a6 : Value}  : gm_W E d 41 135 [.null, a1, a2, a3, a4, a5, a6] st h Q ↔ gm_W E d 41 136 [.null, a1, a2, a3, a4, a5, a6] (.null :: st) h Q := gw_loc m41 f41_135 rfl rfl
theorem f41_136 : gm_ft 41 136 = some (.getfield 87, 3) := by decide +kernel
theorem r41_136 {E : Nat → Value} {d : Nat} {st : List Value} {h : gm_H} {Q : gm_R → gm_H → Prop} {lv : List Value} {a : Nat} (hk : gm_kd h a = 5) : gm_W E d 41 136 lv (.ref a :: st) h Q ↔ gm_W E d 41 139 lv (gm_fv h a 37 :: st) h Q := gw_rd m41 f41_136 rfl rfl rfl rfl (gs_get k5_87 hk (by decide))
theorem f41_139 : gm_ft 41 139 = some (.bipush 8, 2) := by decide +kernel
theorem r41_139 {E : Nat → Value} {d : Nat} {st : List Value} {h : gm_H} {Q : gm_R → gm_H → Prop} {lv : List Value} : gm_W E d 41 139 lv st h Q ↔ gm_W E d 41 141 lv (.int (8 : Int32) :: st) h Q := gw_pure m41 f41_139 rfl
theorem f41_141 : gm_ft 41 141 = some (.iload_n 3, 1) := by decide +kernel
theorem r41_141 {E : Nat → Value} {d : Nat} {st : List Value} {h : gm_H} {Q : gm_R → gm_H → Prop} {a0 a1 a2 a4 a5 a6 : Value} {x : Int32} : gm_W E d 41 141 [a0, a1, a2, .int x, a4, a5, a6] st h Q ↔ gm_W E d 41 142 [a0, a1, a2, .int x, a4, a5, a6] (.int x :: st) h Q := gw_loc m41 f41_141 rfl rfl
theorem f41_142 : gm_ft 41 142 = some (.imul, 1) := by decide +kernel
theorem r41_142 {E : Nat → Value} {d : Nat} {st : List Value} {h : gm_H} {Q : gm_R → gm_H → Prop} {lv : List Value} {x y : Int32} : gm_W E d 41 142 lv (.int y :: .int x :: st) h Q ↔ gm_W E d 41 143 lv (.int (x * y) :: st) h Q := gw_pure m41 f41_142 rfl
theorem f41_143 : gm_ft 41 143 = some (.aload_n 0, 1) := by decide +kernel
theorem r41_143 {E : Nat → Value} {d : Nat} {st : List Value} {h : gm_H} {Q : gm_R → gm_H → Prop} {a1 a2 a3 a4 a5 a6 : Value} {x : Nat} : gm_W E d 41 143 [.ref x, a1, a2, a3, a4, a5, a6] st h Q ↔ gm_W E d 41 144 [.ref x, a1, a2, a3, a4, a5, a6] (.ref x :: st) h Q := gw_loc m41 f41_143 rfl rfl
theorem r41_143n {E : Nat → Value} {d : Nat} {st : List Value} {h : gm_H} {Q : gm_R → gm_H → Prop} {a1 a2 a3 a4 a5 a6 : Value}  : gm_W E d 41 143 [.null, a1, a2, a3, a4, a5, a6] st h Q ↔ gm_W E d 41 144 [.null, a1, a2, a3, a4, a5, a6] (.null :: st) h Q := gw_loc m41 f41_143 rfl rfl
theorem f41_144 : gm_ft 41 144 = some (.getfield 111, 3) := by decide +kernel
theorem r41_144 {E : Nat → Value} {d : Nat} {st : List Value} {h : gm_H} {Q : gm_R → gm_H → Prop} {lv : List Value} {a : Nat} (hk : gm_kd h a = 5) : gm_W E d 41 144 lv (.ref a :: st) h Q ↔ gm_W E d 41 147 lv (gm_fv h a 46 :: st) h Q := gw_rd m41 f41_144 rfl rfl rfl rfl (gs_get k5_111 hk (by decide))
theorem f41_147 : gm_ft 41 147 = some (.iload_n 1, 1) := by decide +kernel
theorem r41_147 {E : Nat → Value} {d : Nat} {st : List Value} {h : gm_H} {Q : gm_R → gm_H → Prop} {a0 a2 a3 a4 a5 a6 : Value} {x : Int32} : gm_W E d 41 147 [a0, .int x, a2, a3, a4, a5, a6] st h Q ↔ gm_W E d 41 148 [a0, .int x, a2, a3, a4, a5, a6] (.int x :: st) h Q := gw_loc m41 f41_147 rfl rfl
theorem f41_148 : gm_ft 41 148 = some (.iaload, 1) := by decide +kernel
theorem r41_148 {E : Nat → Value} {d : Nat} {st : List Value} {h : gm_H} {Q : gm_R → gm_H → Prop} {lv : List Value} {a j : Nat} (hk : gm_kd h a % 100 = 0 ∧ 100 ≤ gm_kd h a ∧ gm_kd h a < 900) (hj : j < gm_ln h a) (hl : gm_ln h a < 2 ^ 31) : gm_W E d 41 148 lv (.int (nI j) :: .ref a :: st) h Q ↔ gm_W E d 41 149 lv (gm_fv h a j :: st) h Q := gw_rd m41 f41_148 rfl rfl rfl rfl (gs_ld (P := fun t => t == 0) hk.2 (by have := hk.1; simp [this] <;> omega) hj hl)
theorem f41_149 : gm_ft 41 149 = some (.iadd, 1) := by decide +kernel
theorem r41_149 {E : Nat → Value} {d : Nat} {st : List Value} {h : gm_H} {Q : gm_R → gm_H → Prop} {lv : List Value} {x y : Int32} : gm_W E d 41 149 lv (.int y :: .int x :: st) h Q ↔ gm_W E d 41 150 lv (.int (x + y) :: st) h Q := gw_pure m41 f41_149 rfl
theorem f41_150 : gm_ft 41 150 = some (.iaload, 1) := by decide +kernel
theorem r41_150 {E : Nat → Value} {d : Nat} {st : List Value} {h : gm_H} {Q : gm_R → gm_H → Prop} {lv : List Value} {a j : Nat} (hk : gm_kd h a % 100 = 0 ∧ 100 ≤ gm_kd h a ∧ gm_kd h a < 900) (hj : j < gm_ln h a) (hl : gm_ln h a < 2 ^ 31) : gm_W E d 41 150 lv (.int (nI j) :: .ref a :: st) h Q ↔ gm_W E d 41 151 lv (gm_fv h a j :: st) h Q := gw_rd m41 f41_150 rfl rfl rfl rfl (gs_ld (P := fun t => t == 0) hk.2 (by have := hk.1; simp [this] <;> omega) hj hl)
theorem f41_151 : gm_ft 41 151 = some (.istore 4, 2) := by decide +kernel
theorem r41_151 {E : Nat → Value} {d : Nat} {st : List Value} {h : gm_H} {Q : gm_R → gm_H → Prop} {a0 a1 a2 a3 a4 a5 a6 : Value} {x : Int32} : gm_W E d 41 151 [a0, a1, a2, a3, a4, a5, a6] (.int x :: st) h Q ↔ gm_W E d 41 153 [a0, a1, a2, gm_k a3, .int x, a5, a6] st h Q := gw_loc m41 f41_151 rfl rfl
theorem f41_153 : gm_ft 41 153 = some (.iload 4, 2) := by decide +kernel
theorem r41_153 {E : Nat → Value} {d : Nat} {st : List Value} {h : gm_H} {Q : gm_R → gm_H → Prop} {a0 a1 a2 a3 a5 a6 : Value} {x : Int32} : gm_W E d 41 153 [a0, a1, a2, a3, .int x, a5, a6] st h Q ↔ gm_W E d 41 155 [a0, a1, a2, a3, .int x, a5, a6] (.int x :: st) h Q := gw_loc m41 f41_153 rfl rfl
theorem f41_155 : gm_ft 41 155 = some (.iconst 5, 1) := by decide +kernel
theorem r41_155 {E : Nat → Value} {d : Nat} {st : List Value} {h : gm_H} {Q : gm_R → gm_H → Prop} {lv : List Value} : gm_W E d 41 155 lv st h Q ↔ gm_W E d 41 156 lv (.int (5 : Int32) :: st) h Q := gw_pure m41 f41_155 rfl
theorem f41_156 : gm_ft 41 156 = some (.if_icmp .le 28, 3) := by decide +kernel
theorem r41_156 {E : Nat → Value} {d : Nat} {st : List Value} {h : gm_H} {Q : gm_R → gm_H → Prop} {lv : List Value} {x y : Int32} : gm_W E d 41 156 lv (.int y :: .int x :: st) h Q ↔ (if x ≤ y then gm_W E d 41 184 lv st h Q else gm_W E d 41 159 lv st h Q) := (gw_br m41 f41_156 rfl rfl rfl rfl).trans gw_if
theorem f41_159 : gm_ft 41 159 = some (.aload_n 0, 1) := by decide +kernel
theorem r41_159 {E : Nat → Value} {d : Nat} {st : List Value} {h : gm_H} {Q : gm_R → gm_H → Prop} {a1 a2 a3 a4 a5 a6 : Value} {x : Nat} : gm_W E d 41 159 [.ref x, a1, a2, a3, a4, a5, a6] st h Q ↔ gm_W E d 41 160 [.ref x, a1, a2, a3, a4, a5, a6] (.ref x :: st) h Q := gw_loc m41 f41_159 rfl rfl
theorem r41_159n {E : Nat → Value} {d : Nat} {st : List Value} {h : gm_H} {Q : gm_R → gm_H → Prop} {a1 a2 a3 a4 a5 a6 : Value}  : gm_W E d 41 159 [.null, a1, a2, a3, a4, a5, a6] st h Q ↔ gm_W E d 41 160 [.null, a1, a2, a3, a4, a5, a6] (.null :: st) h Q := gw_loc m41 f41_159 rfl rfl
theorem f41_160 : gm_ft 41 160 = some (.getfield 96, 3) := by decide +kernel
theorem r41_160 {E : Nat → Value} {d : Nat} {st : List Value} {h : gm_H} {Q : gm_R → gm_H → Prop} {lv : List Value} {a : Nat} (hk : gm_kd h a = 5) : gm_W E d 41 160 lv (.ref a :: st) h Q ↔ gm_W E d 41 163 lv (gm_fv h a 41 :: st) h Q := gw_rd m41 f41_160 rfl rfl rfl rfl (gs_get k5_96 hk (by decide))
theorem f41_163 : gm_ft 41 163 = some (.iload_n 1, 1) := by decide +kernel
theorem r41_163 {E : Nat → Value} {d : Nat} {st : List Value} {h : gm_H} {Q : gm_R → gm_H → Prop} {a0 a2 a3 a4 a5 a6 : Value} {x : Int32} : gm_W E d 41 163 [a0, .int x, a2, a3, a4, a5, a6] st h Q ↔ gm_W E d 41 164 [a0, .int x, a2, a3, a4, a5, a6] (.int x :: st) h Q := gw_loc m41 f41_163 rfl rfl
theorem f41_164 : gm_ft 41 164 = some (.iconst 1, 1) := by decide +kernel
theorem r41_164 {E : Nat → Value} {d : Nat} {st : List Value} {h : gm_H} {Q : gm_R → gm_H → Prop} {lv : List Value} : gm_W E d 41 164 lv st h Q ↔ gm_W E d 41 165 lv (.int (1 : Int32) :: st) h Q := gw_pure m41 f41_164 rfl
theorem f41_165 : gm_ft 41 165 = some (.iastore, 1) := by decide +kernel
theorem r41_165 {E : Nat → Value} {d : Nat} {st : List Value} {h : gm_H} {Q : gm_R → gm_H → Prop} {lv : List Value} {a j : Nat} {x : Int32} (hk : gm_kd h a = 200) (hj : j < gm_ln h a) (hl : gm_ln h a < 2 ^ 31) : gm_W E d 41 165 lv (.int x :: .int (nI j) :: .ref a :: st) h Q ↔ gm_W E d 41 166 lv st (gm_sf h a j (.int x)) Q := gw_wr m41 f41_165 rfl rfl rfl rfl rfl (gs_st hk (by decide) hj hl)
theorem f41_166 : gm_ft 41 166 = some (.aload_n 0, 1) := by decide +kernel
theorem r41_166 {E : Nat → Value} {d : Nat} {st : List Value} {h : gm_H} {Q : gm_R → gm_H → Prop} {a1 a2 a3 a4 a5 a6 : Value} {x : Nat} : gm_W E d 41 166 [.ref x, a1, a2, a3, a4, a5, a6] st h Q ↔ gm_W E d 41 167 [.ref x, a1, a2, a3, a4, a5, a6] (.ref x :: st) h Q := gw_loc m41 f41_166 rfl rfl
theorem r41_166n {E : Nat → Value} {d : Nat} {st : List Value} {h : gm_H} {Q : gm_R → gm_H → Prop} {a1 a2 a3 a4 a5 a6 : Value}  : gm_W E d 41 166 [.null, a1, a2, a3, a4, a5, a6] st h Q ↔ gm_W E d 41 167 [.null, a1, a2, a3, a4, a5, a6] (.null :: st) h Q := gw_loc m41 f41_166 rfl rfl
theorem f41_167 : gm_ft 41 167 = some (.iconst 1, 1) := by decide +kernel
theorem r41_167 {E : Nat → Value} {d : Nat} {st : List Value} {h : gm_H} {Q : gm_R → gm_H → Prop} {lv : List Value} : gm_W E d 41 167 lv st h Q ↔ gm_W E d 41 168 lv (.int (1 : Int32) :: st) h Q := gw_pure m41 f41_167 rfl
theorem f41_168 : gm_ft 41 168 = some (.aload_n 0, 1) := by decide +kernel
theorem r41_168 {E : Nat → Value} {d : Nat} {st : List Value} {h : gm_H} {Q : gm_R → gm_H → Prop} {a1 a2 a3 a4 a5 a6 : Value} {x : Nat} : gm_W E d 41 168 [.ref x, a1, a2, a3, a4, a5, a6] st h Q ↔ gm_W E d 41 169 [.ref x, a1, a2, a3, a4, a5, a6] (.ref x :: st) h Q := gw_loc m41 f41_168 rfl rfl
theorem r41_168n {E : Nat → Value} {d : Nat} {st : List Value} {h : gm_H} {Q : gm_R → gm_H → Prop} {a1 a2 a3 a4 a5 a6 : Value}  : gm_W E d 41 168 [.null, a1, a2, a3, a4, a5, a6] st h Q ↔ gm_W E d 41 169 [.null, a1, a2, a3, a4, a5, a6] (.null :: st) h Q := gw_loc m41 f41_168 rfl rfl
theorem f41_169 : gm_ft 41 169 = some (.getfield 99, 3) := by decide +kernel
theorem r41_169 {E : Nat → Value} {d : Nat} {st : List Value} {h : gm_H} {Q : gm_R → gm_H → Prop} {lv : List Value} {a : Nat} (hk : gm_kd h a = 5) : gm_W E d 41 169 lv (.ref a :: st) h Q ↔ gm_W E d 41 172 lv (gm_fv h a 42 :: st) h Q := gw_rd m41 f41_169 rfl rfl rfl rfl (gs_get k5_99 hk (by decide))
theorem f41_172 : gm_ft 41 172 = some (.iload_n 1, 1) := by decide +kernel
theorem r41_172 {E : Nat → Value} {d : Nat} {st : List Value} {h : gm_H} {Q : gm_R → gm_H → Prop} {a0 a2 a3 a4 a5 a6 : Value} {x : Int32} : gm_W E d 41 172 [a0, .int x, a2, a3, a4, a5, a6] st h Q ↔ gm_W E d 41 173 [a0, .int x, a2, a3, a4, a5, a6] (.int x :: st) h Q := gw_loc m41 f41_172 rfl rfl
theorem f41_173 : gm_ft 41 173 = some (.iaload, 1) := by decide +kernel
theorem r41_173 {E : Nat → Value} {d : Nat} {st : List Value} {h : gm_H} {Q : gm_R → gm_H → Prop} {lv : List Value} {a j : Nat} (hk : gm_kd h a % 100 = 0 ∧ 100 ≤ gm_kd h a ∧ gm_kd h a < 900) (hj : j < gm_ln h a) (hl : gm_ln h a < 2 ^ 31) : gm_W E d 41 173 lv (.int (nI j) :: .ref a :: st) h Q ↔ gm_W E d 41 174 lv (gm_fv h a j :: st) h Q := gw_rd m41 f41_173 rfl rfl rfl rfl (gs_ld (P := fun t => t == 0) hk.2 (by have := hk.1; simp [this] <;> omega) hj hl)
theorem f41_174 : gm_ft 41 174 = some (.iconst 1, 1) := by decide +kernel
theorem r41_174 {E : Nat → Value} {d : Nat} {st : List Value} {h : gm_H} {Q : gm_R → gm_H → Prop} {lv : List Value} : gm_W E d 41 174 lv st h Q ↔ gm_W E d 41 175 lv (.int (1 : Int32) :: st) h Q := gw_pure m41 f41_174 rfl
theorem f41_175 : gm_ft 41 175 = some (.iadd, 1) := by decide +kernel
theorem r41_175 {E : Nat → Value} {d : Nat} {st : List Value} {h : gm_H} {Q : gm_R → gm_H → Prop} {lv : List Value} {x y : Int32} : gm_W E d 41 175 lv (.int y :: .int x :: st) h Q ↔ gm_W E d 41 176 lv (.int (x + y) :: st) h Q := gw_pure m41 f41_175 rfl
theorem f41_176 : gm_ft 41 176 = some (.iconst 0, 1) := by decide +kernel
theorem r41_176 {E : Nat → Value} {d : Nat} {st : List Value} {h : gm_H} {Q : gm_R → gm_H → Prop} {lv : List Value} : gm_W E d 41 176 lv st h Q ↔ gm_W E d 41 177 lv (.int (0 : Int32) :: st) h Q := gw_pure m41 f41_176 rfl
theorem f41_177 : gm_ft 41 177 = some (.iconst 0, 1) := by decide +kernel
theorem r41_177 {E : Nat → Value} {d : Nat} {st : List Value} {h : gm_H} {Q : gm_R → gm_H → Prop} {lv : List Value} : gm_W E d 41 177 lv st h Q ↔ gm_W E d 41 178 lv (.int (0 : Int32) :: st) h Q := gw_pure m41 f41_177 rfl
theorem f41_178 : gm_ft 41 178 = some (.invokevirtual 200, 3) := by decide +kernel
theorem c41_178 {E : Nat → Value} {d : Nat} {st : List Value} {h : gm_H} {Q : gm_R → gm_H → Prop} {lv : List Value} {b0 : Int32} {b1 : Int32} {b2 : Int32} {b3 : Int32} {a : Nat} {Qc : gm_R → gm_H → Prop} (hs : (st.map fun v => v.category).sum ≤ 8) (hr : gm_kd h a = 5) (hd : 1 ≤ d) (hc : gm_Ca E (d - 1) 15 [.ref a, .int b0, .int b1, .int b2, .int b3] h Qc) (kn : ∀ (v9 : Option Value) (h9 : gm_H), Qc (.inl v9) h9 → gm_W E d 41 181 lv (v9.toList ++ st) h9 Q) (kx : ∀ (x9 : Nat) (h9 : gm_H), Qc (.inr x9) h9 → Q (.inr x9) h9) : gm_W E d 41 178 lv (.int b3 :: .int b2 :: .int b1 :: .int b0 :: .ref a :: st) h Q := gw_call (gn_call m41 f41_178 rfl rfl rfl rfl rfl rfl rfl (gs_virt (bs := [.int b3, .int b2, .int b1, .int b0]) (w := 856) (L := 5) rfl rfl rfl rfl hs (by simp [gm_en1]) hr (by decide)) (by decide)) m41 rfl rfl hd hc kn kx
theorem f41_181 : gm_ft 41 181 = some (.goto 42, 3) := by decide +kernel
theorem r41_181 {E : Nat → Value} {d : Nat} {st : List Value} {h : gm_H} {Q : gm_R → gm_H → Prop} {lv : List Value} : gm_W E d 41 181 lv st h Q ↔ gm_W E d 41 223 lv st h Q := gw_brT m41 f41_181 rfl rfl rfl rfl
theorem f41_184 : gm_ft 41 184 = some (.aload_n 0, 1) := by decide +kernel
theorem r41_184 {E : Nat → Value} {d : Nat} {st : List Value} {h : gm_H} {Q : gm_R → gm_H → Prop} {a1 a2 a3 a4 a5 a6 : Value} {x : Nat} : gm_W E d 41 184 [.ref x, a1, a2, a3, a4, a5, a6] st h Q ↔ gm_W E d 41 185 [.ref x, a1, a2, a3, a4, a5, a6] (.ref x :: st) h Q := gw_loc m41 f41_184 rfl rfl
theorem r41_184n {E : Nat → Value} {d : Nat} {st : List Value} {h : gm_H} {Q : gm_R → gm_H → Prop} {a1 a2 a3 a4 a5 a6 : Value}  : gm_W E d 41 184 [.null, a1, a2, a3, a4, a5, a6] st h Q ↔ gm_W E d 41 185 [.null, a1, a2, a3, a4, a5, a6] (.null :: st) h Q := gw_loc m41 f41_184 rfl rfl
theorem f41_185 : gm_ft 41 185 = some (.iload 4, 2) := by decide +kernel
theorem r41_185 {E : Nat → Value} {d : Nat} {st : List Value} {h : gm_H} {Q : gm_R → gm_H → Prop} {a0 a1 a2 a3 a5 a6 : Value} {x : Int32} : gm_W E d 41 185 [a0, a1, a2, a3, .int x, a5, a6] st h Q ↔ gm_W E d 41 187 [a0, a1, a2, a3, .int x, a5, a6] (.int x :: st) h Q := gw_loc m41 f41_185 rfl rfl
theorem f41_187 : gm_ft 41 187 = some (.invokevirtual 270, 3) := by decide +kernel
theorem c41_187 {E : Nat → Value} {d : Nat} {st : List Value} {h : gm_H} {Q : gm_R → gm_H → Prop} {lv : List Value} {b0 : Int32} {a : Nat} {Qc : gm_R → gm_H → Prop} (hs : (st.map fun v => v.category).sum ≤ 8) (hr : gm_kd h a = 5) (hd : 1 ≤ d) (hc : gm_Ca E (d - 1) 40 [.ref a, .int b0] h Qc) (kn : ∀ (v9 : Option Value) (h9 : gm_H), Qc (.inl v9) h9 → gm_W E d 41 190 lv (v9.toList ++ st) h9 Q) (kx : ∀ (x9 : Nat) (h9 : gm_H), Qc (.inr x9) h9 → Q (.inr x9) h9) : gm_W E d 41 187 lv (.int b0 :: .ref a :: st) h Q := gw_call (gn_call m41 f41_187 rfl rfl rfl rfl rfl rfl rfl (gs_virt (bs := [.int b0]) (w := 977) (L := 2) rfl rfl rfl rfl hs (by simp [gm_en1]) hr (by decide)) (by decide)) m41 rfl rfl hd hc kn kx
theorem f41_190 : gm_ft 41 190 = some (.lstore 5, 2) := by decide +kernel
theorem r41_190 {E : Nat → Value} {d : Nat} {st : List Value} {h : gm_H} {Q : gm_R → gm_H → Prop} {a0 a1 a2 a3 a4 a5 a6 : Value} {x : Int64} : gm_W E d 41 190 [a0, a1, a2, a3, a4, a5, a6] (.long x :: st) h Q ↔ gm_W E d 41 192 [a0, a1, a2, a3, gm_k a4, .long x, gm_u] st h Q := gw_loc m41 f41_190 rfl rfl
theorem f41_192 : gm_ft 41 192 = some (.aload_n 0, 1) := by decide +kernel
theorem r41_192 {E : Nat → Value} {d : Nat} {st : List Value} {h : gm_H} {Q : gm_R → gm_H → Prop} {a1 a2 a3 a4 a5 a6 : Value} {x : Nat} : gm_W E d 41 192 [.ref x, a1, a2, a3, a4, a5, a6] st h Q ↔ gm_W E d 41 193 [.ref x, a1, a2, a3, a4, a5, a6] (.ref x :: st) h Q := gw_loc m41 f41_192 rfl rfl
theorem r41_192n {E : Nat → Value} {d : Nat} {st : List Value} {h : gm_H} {Q : gm_R → gm_H → Prop} {a1 a2 a3 a4 a5 a6 : Value}  : gm_W E d 41 192 [.null, a1, a2, a3, a4, a5, a6] st h Q ↔ gm_W E d 41 193 [.null, a1, a2, a3, a4, a5, a6] (.null :: st) h Q := gw_loc m41 f41_192 rfl rfl
theorem f41_193 : gm_ft 41 193 = some (.getfield 145, 3) := by decide +kernel
theorem r41_193 {E : Nat → Value} {d : Nat} {st : List Value} {h : gm_H} {Q : gm_R → gm_H → Prop} {lv : List Value} {a : Nat} (hk : gm_kd h a = 5) : gm_W E d 41 193 lv (.ref a :: st) h Q ↔ gm_W E d 41 196 lv (gm_fv h a 8 :: st) h Q := gw_rd m41 f41_193 rfl rfl rfl rfl (gs_get k5_145 hk (by decide))
theorem f41_196 : gm_ft 41 196 = some (.ifCond .ne 17, 3) := by decide +kernel
theorem r41_196 {E : Nat → Value} {d : Nat} {st : List Value} {h : gm_H} {Q : gm_R → gm_H → Prop} {lv : List Value} {x : Int32} : gm_W E d 41 196 lv (.int x :: st) h Q ↔ (if x = 0 then gm_W E d 41 199 lv st h Q else gm_W E d 41 213 lv st h Q) := (gw_br m41 f41_196 rfl rfl rfl rfl).trans gw_ifn
theorem f41_199 : gm_ft 41 199 = some (.aload_n 0, 1) := by decide +kernel
theorem r41_199 {E : Nat → Value} {d : Nat} {st : List Value} {h : gm_H} {Q : gm_R → gm_H → Prop} {a1 a2 a3 a4 a5 a6 : Value} {x : Nat} : gm_W E d 41 199 [.ref x, a1, a2, a3, a4, a5, a6] st h Q ↔ gm_W E d 41 200 [.ref x, a1, a2, a3, a4, a5, a6] (.ref x :: st) h Q := gw_loc m41 f41_199 rfl rfl
theorem r41_199n {E : Nat → Value} {d : Nat} {st : List Value} {h : gm_H} {Q : gm_R → gm_H → Prop} {a1 a2 a3 a4 a5 a6 : Value}  : gm_W E d 41 199 [.null, a1, a2, a3, a4, a5, a6] st h Q ↔ gm_W E d 41 200 [.null, a1, a2, a3, a4, a5, a6] (.null :: st) h Q := gw_loc m41 f41_199 rfl rfl
theorem f41_200 : gm_ft 41 200 = some (.iload_n 2, 1) := by decide +kernel
theorem r41_200 {E : Nat → Value} {d : Nat} {st : List Value} {h : gm_H} {Q : gm_R → gm_H → Prop} {a0 a1 a3 a4 a5 a6 : Value} {x : Int32} : gm_W E d 41 200 [a0, a1, .int x, a3, a4, a5, a6] st h Q ↔ gm_W E d 41 201 [a0, a1, .int x, a3, a4, a5, a6] (.int x :: st) h Q := gw_loc m41 f41_200 rfl rfl
theorem f41_201 : gm_ft 41 201 = some (.iload_n 3, 1) := by decide +kernel
theorem r41_201 {E : Nat → Value} {d : Nat} {st : List Value} {h : gm_H} {Q : gm_R → gm_H → Prop} {a0 a1 a2 a4 a5 a6 : Value} {x : Int32} : gm_W E d 41 201 [a0, a1, a2, .int x, a4, a5, a6] st h Q ↔ gm_W E d 41 202 [a0, a1, a2, .int x, a4, a5, a6] (.int x :: st) h Q := gw_loc m41 f41_201 rfl rfl
theorem f41_202 : gm_ft 41 202 = some (.aload_n 0, 1) := by decide +kernel
theorem r41_202 {E : Nat → Value} {d : Nat} {st : List Value} {h : gm_H} {Q : gm_R → gm_H → Prop} {a1 a2 a3 a4 a5 a6 : Value} {x : Nat} : gm_W E d 41 202 [.ref x, a1, a2, a3, a4, a5, a6] st h Q ↔ gm_W E d 41 203 [.ref x, a1, a2, a3, a4, a5, a6] (.ref x :: st) h Q := gw_loc m41 f41_202 rfl rfl
theorem r41_202n {E : Nat → Value} {d : Nat} {st : List Value} {h : gm_H} {Q : gm_R → gm_H → Prop} {a1 a2 a3 a4 a5 a6 : Value}  : gm_W E d 41 202 [.null, a1, a2, a3, a4, a5, a6] st h Q ↔ gm_W E d 41 203 [.null, a1, a2, a3, a4, a5, a6] (.null :: st) h Q := gw_loc m41 f41_202 rfl rfl
theorem f41_203 : gm_ft 41 203 = some (.getfield 111, 3) := by decide +kernel
theorem r41_203 {E : Nat → Value} {d : Nat} {st : List Value} {h : gm_H} {Q : gm_R → gm_H → Prop} {lv : List Value} {a : Nat} (hk : gm_kd h a = 5) : gm_W E d 41 203 lv (.ref a :: st) h Q ↔ gm_W E d 41 206 lv (gm_fv h a 46 :: st) h Q := gw_rd m41 f41_203 rfl rfl rfl rfl (gs_get k5_111 hk (by decide))
theorem f41_206 : gm_ft 41 206 = some (.iload_n 1, 1) := by decide +kernel
theorem r41_206 {E : Nat → Value} {d : Nat} {st : List Value} {h : gm_H} {Q : gm_R → gm_H → Prop} {a0 a2 a3 a4 a5 a6 : Value} {x : Int32} : gm_W E d 41 206 [a0, .int x, a2, a3, a4, a5, a6] st h Q ↔ gm_W E d 41 207 [a0, .int x, a2, a3, a4, a5, a6] (.int x :: st) h Q := gw_loc m41 f41_206 rfl rfl
theorem f41_207 : gm_ft 41 207 = some (.iaload, 1) := by decide +kernel
theorem r41_207 {E : Nat → Value} {d : Nat} {st : List Value} {h : gm_H} {Q : gm_R → gm_H → Prop} {lv : List Value} {a j : Nat} (hk : gm_kd h a % 100 = 0 ∧ 100 ≤ gm_kd h a ∧ gm_kd h a < 900) (hj : j < gm_ln h a) (hl : gm_ln h a < 2 ^ 31) : gm_W E d 41 207 lv (.int (nI j) :: .ref a :: st) h Q ↔ gm_W E d 41 208 lv (gm_fv h a j :: st) h Q := gw_rd m41 f41_207 rfl rfl rfl rfl (gs_ld (P := fun t => t == 0) hk.2 (by have := hk.1; simp [this] <;> omega) hj hl)
theorem f41_208 : gm_ft 41 208 = some (.lload 5, 2) := by decide +kernel
theorem r41_208 {E : Nat → Value} {d : Nat} {st : List Value} {h : gm_H} {Q : gm_R → gm_H → Prop} {a0 a1 a2 a3 a4 a6 : Value} {x : Int64} : gm_W E d 41 208 [a0, a1, a2, a3, a4, .long x, a6] st h Q ↔ gm_W E d 41 210 [a0, a1, a2, a3, a4, .long x, a6] (.long x :: st) h Q := gw_loc m41 f41_208 rfl rfl
theorem f41_210 : gm_ft 41 210 = some (.invokevirtual 266, 3) := by decide +kernel
theorem c41_210 {E : Nat → Value} {d : Nat} {st : List Value} {h : gm_H} {Q : gm_R → gm_H → Prop} {lv : List Value} {b0 : Int32} {b1 : Int32} {b2 : Int32} {b3 : Int64} {a : Nat} {Qc : gm_R → gm_H → Prop} (hs : (st.map fun v => v.category).sum ≤ 8) (hr : gm_kd h a = 5) (hd : 1 ≤ d) (hc : gm_Ca E (d - 1) 39 [.ref a, .int b0, .int b1, .int b2, .long b3] h Qc) (kn : ∀ (v9 : Option Value) (h9 : gm_H), Qc (.inl v9) h9 → gm_W E d 41 213 lv (v9.toList ++ st) h9 Q) (kx : ∀ (x9 : Nat) (h9 : gm_H), Qc (.inr x9) h9 → Q (.inr x9) h9) : gm_W E d 41 210 lv (.long b3 :: .int b2 :: .int b1 :: .int b0 :: .ref a :: st) h Q := gw_call (gn_call m41 f41_210 rfl rfl rfl rfl rfl rfl rfl (gs_virt (bs := [.long b3, .int b2, .int b1, .int b0]) (w := 969) (L := 8) rfl rfl rfl rfl hs (by simp [gm_en1]) hr (by decide)) (by decide)) m41 rfl rfl hd hc kn kx
theorem f41_213 : gm_ft 41 213 = some (.aload_n 0, 1) := by decide +kernel
theorem r41_213 {E : Nat → Value} {d : Nat} {st : List Value} {h : gm_H} {Q : gm_R → gm_H → Prop} {a1 a2 a3 a4 a5 a6 : Value} {x : Nat} : gm_W E d 41 213 [.ref x, a1, a2, a3, a4, a5, a6] st h Q ↔ gm_W E d 41 214 [.ref x, a1, a2, a3, a4, a5, a6] (.ref x :: st) h Q := gw_loc m41 f41_213 rfl rfl
theorem r41_213n {E : Nat → Value} {d : Nat} {st : List Value} {h : gm_H} {Q : gm_R → gm_H → Prop} {a1 a2 a3 a4 a5 a6 : Value}  : gm_W E d 41 213 [.null, a1, a2, a3, a4, a5, a6] st h Q ↔ gm_W E d 41 214 [.null, a1, a2, a3, a4, a5, a6] (.null :: st) h Q := gw_loc m41 f41_213 rfl rfl
theorem f41_214 : gm_ft 41 214 = some (.getfield 111, 3) := by decide +kernel
theorem r41_214 {E : Nat → Value} {d : Nat} {st : List Value} {h : gm_H} {Q : gm_R → gm_H → Prop} {lv : List Value} {a : Nat} (hk : gm_kd h a = 5) : gm_W E d 41 214 lv (.ref a :: st) h Q ↔ gm_W E d 41 217 lv (gm_fv h a 46 :: st) h Q := gw_rd m41 f41_214 rfl rfl rfl rfl (gs_get k5_111 hk (by decide))
theorem f41_217 : gm_ft 41 217 = some (.iload_n 1, 1) := by decide +kernel
theorem r41_217 {E : Nat → Value} {d : Nat} {st : List Value} {h : gm_H} {Q : gm_R → gm_H → Prop} {a0 a2 a3 a4 a5 a6 : Value} {x : Int32} : gm_W E d 41 217 [a0, .int x, a2, a3, a4, a5, a6] st h Q ↔ gm_W E d 41 218 [a0, .int x, a2, a3, a4, a5, a6] (.int x :: st) h Q := gw_loc m41 f41_217 rfl rfl
theorem f41_218 : gm_ft 41 218 = some (.dup2, 1) := by decide +kernel
theorem r41_218 {E : Nat → Value} {d : Nat} {st : List Value} {h : gm_H} {Q : gm_R → gm_H → Prop} {lv : List Value} {x : Int32} {a : Nat} : gm_W E d 41 218 lv (.int x :: .ref a :: st) h Q ↔ gm_W E d 41 219 lv (.int x :: .ref a :: .int x :: .ref a :: st) h Q := gw_pure m41 f41_218 rfl
theorem f41_219 : gm_ft 41 219 = some (.iaload, 1) := by decide +kernel
theorem r41_219 {E : Nat → Value} {d : Nat} {st : List Value} {h : gm_H} {Q : gm_R → gm_H → Prop} {lv : List Value} {a j : Nat} (hk : gm_kd h a % 100 = 0 ∧ 100 ≤ gm_kd h a ∧ gm_kd h a < 900) (hj : j < gm_ln h a) (hl : gm_ln h a < 2 ^ 31) : gm_W E d 41 219 lv (.int (nI j) :: .ref a :: st) h Q ↔ gm_W E d 41 220 lv (gm_fv h a j :: st) h Q := gw_rd m41 f41_219 rfl rfl rfl rfl (gs_ld (P := fun t => t == 0) hk.2 (by have := hk.1; simp [this] <;> omega) hj hl)
theorem f41_220 : gm_ft 41 220 = some (.iconst 1, 1) := by decide +kernel
theorem r41_220 {E : Nat → Value} {d : Nat} {st : List Value} {h : gm_H} {Q : gm_R → gm_H → Prop} {lv : List Value} : gm_W E d 41 220 lv st h Q ↔ gm_W E d 41 221 lv (.int (1 : Int32) :: st) h Q := gw_pure m41 f41_220 rfl
theorem f41_221 : gm_ft 41 221 = some (.iadd, 1) := by decide +kernel
theorem r41_221 {E : Nat → Value} {d : Nat} {st : List Value} {h : gm_H} {Q : gm_R → gm_H → Prop} {lv : List Value} {x y : Int32} : gm_W E d 41 221 lv (.int y :: .int x :: st) h Q ↔ gm_W E d 41 222 lv (.int (x + y) :: st) h Q := gw_pure m41 f41_221 rfl
theorem f41_222 : gm_ft 41 222 = some (.iastore, 1) := by decide +kernel
theorem r41_222 {E : Nat → Value} {d : Nat} {st : List Value} {h : gm_H} {Q : gm_R → gm_H → Prop} {lv : List Value} {a j : Nat} {x : Int32} (hk : gm_kd h a = 200) (hj : j < gm_ln h a) (hl : gm_ln h a < 2 ^ 31) : gm_W E d 41 222 lv (.int x :: .int (nI j) :: .ref a :: st) h Q ↔ gm_W E d 41 223 lv st (gm_sf h a j (.int x)) Q := gw_wr m41 f41_222 rfl rfl rfl rfl rfl (gs_st hk (by decide) hj hl)
theorem f41_223 : gm_ft 41 223 = some (.goto 40, 3) := by decide +kernel
theorem r41_223 {E : Nat → Value} {d : Nat} {st : List Value} {h : gm_H} {Q : gm_R → gm_H → Prop} {lv : List Value} : gm_W E d 41 223 lv st h Q ↔ gm_W E d 41 263 lv st h Q := gw_brT m41 f41_223 rfl rfl rfl rfl
theorem f41_226 : gm_ft 41 226 = some (.aload_n 0, 1) := by decide +kernel
theorem r41_226 {E : Nat → Value} {d : Nat} {st : List Value} {h : gm_H} {Q : gm_R → gm_H → Prop} {a1 a2 a3 a4 a5 a6 : Value} {x : Nat} : gm_W E d 41 226 [.ref x, a1, a2, a3, a4, a5, a6] st h Q ↔ gm_W E d 41 227 [.ref x, a1, a2, a3, a4, a5, a6] (.ref x :: st) h Q := gw_loc m41 f41_226 rfl rfl
theorem r41_226n {E : Nat → Value} {d : Nat} {st : List Value} {h : gm_H} {Q : gm_R → gm_H → Prop} {a1 a2 a3 a4 a5 a6 : Value}  : gm_W E d 41 226 [.null, a1, a2, a3, a4, a5, a6] st h Q ↔ gm_W E d 41 227 [.null, a1, a2, a3, a4, a5, a6] (.null :: st) h Q := gw_loc m41 f41_226 rfl rfl
theorem f41_227 : gm_ft 41 227 = some (.getfield 96, 3) := by decide +kernel
theorem r41_227 {E : Nat → Value} {d : Nat} {st : List Value} {h : gm_H} {Q : gm_R → gm_H → Prop} {lv : List Value} {a : Nat} (hk : gm_kd h a = 5) : gm_W E d 41 227 lv (.ref a :: st) h Q ↔ gm_W E d 41 230 lv (gm_fv h a 41 :: st) h Q := gw_rd m41 f41_227 rfl rfl rfl rfl (gs_get k5_96 hk (by decide))
theorem f41_230 : gm_ft 41 230 = some (.iload_n 1, 1) := by decide +kernel
theorem r41_230 {E : Nat → Value} {d : Nat} {st : List Value} {h : gm_H} {Q : gm_R → gm_H → Prop} {a0 a2 a3 a4 a5 a6 : Value} {x : Int32} : gm_W E d 41 230 [a0, .int x, a2, a3, a4, a5, a6] st h Q ↔ gm_W E d 41 231 [a0, .int x, a2, a3, a4, a5, a6] (.int x :: st) h Q := gw_loc m41 f41_230 rfl rfl
theorem f41_231 : gm_ft 41 231 = some (.iconst 2, 1) := by decide +kernel
theorem r41_231 {E : Nat → Value} {d : Nat} {st : List Value} {h : gm_H} {Q : gm_R → gm_H → Prop} {lv : List Value} : gm_W E d 41 231 lv st h Q ↔ gm_W E d 41 232 lv (.int (2 : Int32) :: st) h Q := gw_pure m41 f41_231 rfl
theorem f41_232 : gm_ft 41 232 = some (.iastore, 1) := by decide +kernel
theorem r41_232 {E : Nat → Value} {d : Nat} {st : List Value} {h : gm_H} {Q : gm_R → gm_H → Prop} {lv : List Value} {a j : Nat} {x : Int32} (hk : gm_kd h a = 200) (hj : j < gm_ln h a) (hl : gm_ln h a < 2 ^ 31) : gm_W E d 41 232 lv (.int x :: .int (nI j) :: .ref a :: st) h Q ↔ gm_W E d 41 233 lv st (gm_sf h a j (.int x)) Q := gw_wr m41 f41_232 rfl rfl rfl rfl rfl (gs_st hk (by decide) hj hl)
theorem f41_233 : gm_ft 41 233 = some (.aload_n 0, 1) := by decide +kernel
theorem r41_233 {E : Nat → Value} {d : Nat} {st : List Value} {h : gm_H} {Q : gm_R → gm_H → Prop} {a1 a2 a3 a4 a5 a6 : Value} {x : Nat} : gm_W E d 41 233 [.ref x, a1, a2, a3, a4, a5, a6] st h Q ↔ gm_W E d 41 234 [.ref x, a1, a2, a3, a4, a5, a6] (.ref x :: st) h Q := gw_loc m41 f41_233 rfl rfl
theorem r41_233n {E : Nat → Value} {d : Nat} {st : List Value} {h : gm_H} {Q : gm_R → gm_H → Prop} {a1 a2 a3 a4 a5 a6 : Value}  : gm_W E d 41 233 [.null, a1, a2, a3, a4, a5, a6] st h Q ↔ gm_W E d 41 234 [.null, a1, a2, a3, a4, a5, a6] (.null :: st) h Q := gw_loc m41 f41_233 rfl rfl
theorem f41_234 : gm_ft 41 234 = some (.getfield 75, 3) := by decide +kernel
theorem r41_234 {E : Nat → Value} {d : Nat} {st : List Value} {h : gm_H} {Q : gm_R → gm_H → Prop} {lv : List Value} {a : Nat} (hk : gm_kd h a = 5) : gm_W E d 41 234 lv (.ref a :: st) h Q ↔ gm_W E d 41 237 lv (gm_fv h a 33 :: st) h Q := gw_rd m41 f41_234 rfl rfl rfl rfl (gs_get k5_75 hk (by decide))
theorem f41_237 : gm_ft 41 237 = some (.iload_n 3, 1) := by decide +kernel
theorem r41_237 {E : Nat → Value} {d : Nat} {st : List Value} {h : gm_H} {Q : gm_R → gm_H → Prop} {a0 a1 a2 a4 a5 a6 : Value} {x : Int32} : gm_W E d 41 237 [a0, a1, a2, .int x, a4, a5, a6] st h Q ↔ gm_W E d 41 238 [a0, a1, a2, .int x, a4, a5, a6] (.int x :: st) h Q := gw_loc m41 f41_237 rfl rfl
theorem f41_238 : gm_ft 41 238 = some (.iaload, 1) := by decide +kernel
theorem r41_238 {E : Nat → Value} {d : Nat} {st : List Value} {h : gm_H} {Q : gm_R → gm_H → Prop} {lv : List Value} {a j : Nat} (hk : gm_kd h a % 100 = 0 ∧ 100 ≤ gm_kd h a ∧ gm_kd h a < 900) (hj : j < gm_ln h a) (hl : gm_ln h a < 2 ^ 31) : gm_W E d 41 238 lv (.int (nI j) :: .ref a :: st) h Q ↔ gm_W E d 41 239 lv (gm_fv h a j :: st) h Q := gw_rd m41 f41_238 rfl rfl rfl rfl (gs_ld (P := fun t => t == 0) hk.2 (by have := hk.1; simp [this] <;> omega) hj hl)
theorem f41_239 : gm_ft 41 239 = some (.iconst 1, 1) := by decide +kernel
theorem r41_239 {E : Nat → Value} {d : Nat} {st : List Value} {h : gm_H} {Q : gm_R → gm_H → Prop} {lv : List Value} : gm_W E d 41 239 lv st h Q ↔ gm_W E d 41 240 lv (.int (1 : Int32) :: st) h Q := gw_pure m41 f41_239 rfl
theorem f41_240 : gm_ft 41 240 = some (.iand, 1) := by decide +kernel
theorem r41_240 {E : Nat → Value} {d : Nat} {st : List Value} {h : gm_H} {Q : gm_R → gm_H → Prop} {lv : List Value} {x y : Int32} : gm_W E d 41 240 lv (.int y :: .int x :: st) h Q ↔ gm_W E d 41 241 lv (.int (x &&& y) :: st) h Q := gw_pure m41 f41_240 rfl
theorem f41_241 : gm_ft 41 241 = some (.ifCond .eq 22, 3) := by decide +kernel
theorem r41_241 {E : Nat → Value} {d : Nat} {st : List Value} {h : gm_H} {Q : gm_R → gm_H → Prop} {lv : List Value} {x : Int32} : gm_W E d 41 241 lv (.int x :: st) h Q ↔ (if x = 0 then gm_W E d 41 263 lv st h Q else gm_W E d 41 244 lv st h Q) := (gw_br m41 f41_241 rfl rfl rfl rfl).trans gw_if
theorem f41_244 : gm_ft 41 244 = some (.aload_n 0, 1) := by decide +kernel
theorem r41_244 {E : Nat → Value} {d : Nat} {st : List Value} {h : gm_H} {Q : gm_R → gm_H → Prop} {a1 a2 a3 a4 a5 a6 : Value} {x : Nat} : gm_W E d 41 244 [.ref x, a1, a2, a3, a4, a5, a6] st h Q ↔ gm_W E d 41 245 [.ref x, a1, a2, a3, a4, a5, a6] (.ref x :: st) h Q := gw_loc m41 f41_244 rfl rfl
theorem r41_244n {E : Nat → Value} {d : Nat} {st : List Value} {h : gm_H} {Q : gm_R → gm_H → Prop} {a1 a2 a3 a4 a5 a6 : Value}  : gm_W E d 41 244 [.null, a1, a2, a3, a4, a5, a6] st h Q ↔ gm_W E d 41 245 [.null, a1, a2, a3, a4, a5, a6] (.null :: st) h Q := gw_loc m41 f41_244 rfl rfl
theorem f41_245 : gm_ft 41 245 = some (.iload_n 2, 1) := by decide +kernel
theorem r41_245 {E : Nat → Value} {d : Nat} {st : List Value} {h : gm_H} {Q : gm_R → gm_H → Prop} {a0 a1 a3 a4 a5 a6 : Value} {x : Int32} : gm_W E d 41 245 [a0, a1, .int x, a3, a4, a5, a6] st h Q ↔ gm_W E d 41 246 [a0, a1, .int x, a3, a4, a5, a6] (.int x :: st) h Q := gw_loc m41 f41_245 rfl rfl
theorem f41_246 : gm_ft 41 246 = some (.iload_n 3, 1) := by decide +kernel
theorem r41_246 {E : Nat → Value} {d : Nat} {st : List Value} {h : gm_H} {Q : gm_R → gm_H → Prop} {a0 a1 a2 a4 a5 a6 : Value} {x : Int32} : gm_W E d 41 246 [a0, a1, a2, .int x, a4, a5, a6] st h Q ↔ gm_W E d 41 247 [a0, a1, a2, .int x, a4, a5, a6] (.int x :: st) h Q := gw_loc m41 f41_246 rfl rfl
theorem f41_247 : gm_ft 41 247 = some (.invokevirtual 273, 3) := by decide +kernel
theorem c41_247 {E : Nat → Value} {d : Nat} {st : List Value} {h : gm_H} {Q : gm_R → gm_H → Prop} {lv : List Value} {b0 : Int32} {b1 : Int32} {a : Nat} {Qc : gm_R → gm_H → Prop} (hs : (st.map fun v => v.category).sum ≤ 8) (hr : gm_kd h a = 5) (hd : 1 ≤ d) (hc : gm_Ca E (d - 1) 42 [.ref a, .int b0, .int b1] h Qc) (kn : ∀ (v9 : Option Value) (h9 : gm_H), Qc (.inl v9) h9 → gm_W E d 41 250 lv (v9.toList ++ st) h9 Q) (kx : ∀ (x9 : Nat) (h9 : gm_H), Qc (.inr x9) h9 → Q (.inr x9) h9) : gm_W E d 41 247 lv (.int b1 :: .int b0 :: .ref a :: st) h Q := gw_call (gn_call m41 f41_247 rfl rfl rfl rfl rfl rfl rfl (gs_virt (bs := [.int b1, .int b0]) (w := 981) (L := 6) rfl rfl rfl rfl hs (by simp [gm_en1]) hr (by decide)) (by decide)) m41 rfl rfl hd hc kn kx
theorem f41_250 : gm_ft 41 250 = some (.aload_n 0, 1) := by decide +kernel
theorem r41_250 {E : Nat → Value} {d : Nat} {st : List Value} {h : gm_H} {Q : gm_R → gm_H → Prop} {a1 a2 a3 a4 a5 a6 : Value} {x : Nat} : gm_W E d 41 250 [.ref x, a1, a2, a3, a4, a5, a6] st h Q ↔ gm_W E d 41 251 [.ref x, a1, a2, a3, a4, a5, a6] (.ref x :: st) h Q := gw_loc m41 f41_250 rfl rfl
theorem r41_250n {E : Nat → Value} {d : Nat} {st : List Value} {h : gm_H} {Q : gm_R → gm_H → Prop} {a1 a2 a3 a4 a5 a6 : Value}  : gm_W E d 41 250 [.null, a1, a2, a3, a4, a5, a6] st h Q ↔ gm_W E d 41 251 [.null, a1, a2, a3, a4, a5, a6] (.null :: st) h Q := gw_loc m41 f41_250 rfl rfl
theorem f41_251 : gm_ft 41 251 = some (.iconst 4, 1) := by decide +kernel
theorem r41_251 {E : Nat → Value} {d : Nat} {st : List Value} {h : gm_H} {Q : gm_R → gm_H → Prop} {lv : List Value} : gm_W E d 41 251 lv st h Q ↔ gm_W E d 41 252 lv (.int (4 : Int32) :: st) h Q := gw_pure m41 f41_251 rfl
theorem f41_252 : gm_ft 41 252 = some (.aload_n 0, 1) := by decide +kernel
theorem r41_252 {E : Nat → Value} {d : Nat} {st : List Value} {h : gm_H} {Q : gm_R → gm_H → Prop} {a1 a2 a3 a4 a5 a6 : Value} {x : Nat} : gm_W E d 41 252 [.ref x, a1, a2, a3, a4, a5, a6] st h Q ↔ gm_W E d 41 253 [.ref x, a1, a2, a3, a4, a5, a6] (.ref x :: st) h Q := gw_loc m41 f41_252 rfl rfl
theorem r41_252n {E : Nat → Value} {d : Nat} {st : List Value} {h : gm_H} {Q : gm_R → gm_H → Prop} {a1 a2 a3 a4 a5 a6 : Value}  : gm_W E d 41 252 [.null, a1, a2, a3, a4, a5, a6] st h Q ↔ gm_W E d 41 253 [.null, a1, a2, a3, a4, a5, a6] (.null :: st) h Q := gw_loc m41 f41_252 rfl rfl
theorem f41_253 : gm_ft 41 253 = some (.getfield 99, 3) := by decide +kernel
theorem r41_253 {E : Nat → Value} {d : Nat} {st : List Value} {h : gm_H} {Q : gm_R → gm_H → Prop} {lv : List Value} {a : Nat} (hk : gm_kd h a = 5) : gm_W E d 41 253 lv (.ref a :: st) h Q ↔ gm_W E d 41 256 lv (gm_fv h a 42 :: st) h Q := gw_rd m41 f41_253 rfl rfl rfl rfl (gs_get k5_99 hk (by decide))
theorem f41_256 : gm_ft 41 256 = some (.iload_n 1, 1) := by decide +kernel
theorem r41_256 {E : Nat → Value} {d : Nat} {st : List Value} {h : gm_H} {Q : gm_R → gm_H → Prop} {a0 a2 a3 a4 a5 a6 : Value} {x : Int32} : gm_W E d 41 256 [a0, .int x, a2, a3, a4, a5, a6] st h Q ↔ gm_W E d 41 257 [a0, .int x, a2, a3, a4, a5, a6] (.int x :: st) h Q := gw_loc m41 f41_256 rfl rfl
theorem f41_257 : gm_ft 41 257 = some (.iaload, 1) := by decide +kernel
theorem r41_257 {E : Nat → Value} {d : Nat} {st : List Value} {h : gm_H} {Q : gm_R → gm_H → Prop} {lv : List Value} {a j : Nat} (hk : gm_kd h a % 100 = 0 ∧ 100 ≤ gm_kd h a ∧ gm_kd h a < 900) (hj : j < gm_ln h a) (hl : gm_ln h a < 2 ^ 31) : gm_W E d 41 257 lv (.int (nI j) :: .ref a :: st) h Q ↔ gm_W E d 41 258 lv (gm_fv h a j :: st) h Q := gw_rd m41 f41_257 rfl rfl rfl rfl (gs_ld (P := fun t => t == 0) hk.2 (by have := hk.1; simp [this] <;> omega) hj hl)
theorem f41_258 : gm_ft 41 258 = some (.iconst 0, 1) := by decide +kernel
theorem r41_258 {E : Nat → Value} {d : Nat} {st : List Value} {h : gm_H} {Q : gm_R → gm_H → Prop} {lv : List Value} : gm_W E d 41 258 lv st h Q ↔ gm_W E d 41 259 lv (.int (0 : Int32) :: st) h Q := gw_pure m41 f41_258 rfl
theorem f41_259 : gm_ft 41 259 = some (.iconst 0, 1) := by decide +kernel
theorem r41_259 {E : Nat → Value} {d : Nat} {st : List Value} {h : gm_H} {Q : gm_R → gm_H → Prop} {lv : List Value} : gm_W E d 41 259 lv st h Q ↔ gm_W E d 41 260 lv (.int (0 : Int32) :: st) h Q := gw_pure m41 f41_259 rfl
theorem f41_260 : gm_ft 41 260 = some (.invokevirtual 200, 3) := by decide +kernel
theorem c41_260 {E : Nat → Value} {d : Nat} {st : List Value} {h : gm_H} {Q : gm_R → gm_H → Prop} {lv : List Value} {b0 : Int32} {b1 : Int32} {b2 : Int32} {b3 : Int32} {a : Nat} {Qc : gm_R → gm_H → Prop} (hs : (st.map fun v => v.category).sum ≤ 8) (hr : gm_kd h a = 5) (hd : 1 ≤ d) (hc : gm_Ca E (d - 1) 15 [.ref a, .int b0, .int b1, .int b2, .int b3] h Qc) (kn : ∀ (v9 : Option Value) (h9 : gm_H), Qc (.inl v9) h9 → gm_W E d 41 263 lv (v9.toList ++ st) h9 Q) (kx : ∀ (x9 : Nat) (h9 : gm_H), Qc (.inr x9) h9 → Q (.inr x9) h9) : gm_W E d 41 260 lv (.int b3 :: .int b2 :: .int b1 :: .int b0 :: .ref a :: st) h Q := gw_call (gn_call m41 f41_260 rfl rfl rfl rfl rfl rfl rfl (gs_virt (bs := [.int b3, .int b2, .int b1, .int b0]) (w := 856) (L := 5) rfl rfl rfl rfl hs (by simp [gm_en1]) hr (by decide)) (by decide)) m41 rfl rfl hd hc kn kx
theorem f41_263 : gm_ft 41 263 = some (.return_, 1) := by decide +kernel
theorem r41_263 {E : Nat → Value} {d : Nat} {h : gm_H} {Q : gm_R → gm_H → Prop} {lv : List Value} : gm_W E d 41 263 lv [] h Q ↔ Q (.inl none) h := gw_ret m41 f41_263 rfl rfl rfl rfl rfl rfl rfl rfl rfl
/-! GraphReaderModel.extra(II)V -/
theorem m42 : gm_mt[42]? = some (⟨"GraphReaderModel", "extra", "(II)V"⟩, prog_7_method_41_code, 6, none, [], 5, 2) := rfl
theorem f42_0 : gm_ft 42 0 = some (.aload_n 0, 1) := by decide +kernel
theorem r42_0 {E : Nat → Value} {d : Nat} {st : List Value} {h : gm_H} {Q : gm_R → gm_H → Prop} {a1 a2 a3 a4 a5 : Value} {x : Nat} : gm_W E d 42 0 [.ref x, a1, a2, a3, a4, a5] st h Q ↔ gm_W E d 42 1 [.ref x, a1, a2, a3, a4, a5] (.ref x :: st) h Q := gw_loc m42 f42_0 rfl rfl
theorem r42_0n {E : Nat → Value} {d : Nat} {st : List Value} {h : gm_H} {Q : gm_R → gm_H → Prop} {a1 a2 a3 a4 a5 : Value}  : gm_W E d 42 0 [.null, a1, a2, a3, a4, a5] st h Q ↔ gm_W E d 42 1 [.null, a1, a2, a3, a4, a5] (.null :: st) h Q := gw_loc m42 f42_0 rfl rfl
theorem f42_1 : gm_ft 42 1 = some (.getfield 69, 3) := by decide +kernel
theorem r42_1 {E : Nat → Value} {d : Nat} {st : List Value} {h : gm_H} {Q : gm_R → gm_H → Prop} {lv : List Value} {a : Nat} (hk : gm_kd h a = 5) : gm_W E d 42 1 lv (.ref a :: st) h Q ↔ gm_W E d 42 4 lv (gm_fv h a 31 :: st) h Q := gw_rd m42 f42_1 rfl rfl rfl rfl (gs_get k5_69 hk (by decide))
theorem f42_4 : gm_ft 42 4 = some (.iload_n 2, 1) := by decide +kernel
theorem r42_4 {E : Nat → Value} {d : Nat} {st : List Value} {h : gm_H} {Q : gm_R → gm_H → Prop} {a0 a1 a3 a4 a5 : Value} {x : Int32} : gm_W E d 42 4 [a0, a1, .int x, a3, a4, a5] st h Q ↔ gm_W E d 42 5 [a0, a1, .int x, a3, a4, a5] (.int x :: st) h Q := gw_loc m42 f42_4 rfl rfl
theorem f42_5 : gm_ft 42 5 = some (.iaload, 1) := by decide +kernel
theorem r42_5 {E : Nat → Value} {d : Nat} {st : List Value} {h : gm_H} {Q : gm_R → gm_H → Prop} {lv : List Value} {a j : Nat} (hk : gm_kd h a % 100 = 0 ∧ 100 ≤ gm_kd h a ∧ gm_kd h a < 900) (hj : j < gm_ln h a) (hl : gm_ln h a < 2 ^ 31) : gm_W E d 42 5 lv (.int (nI j) :: .ref a :: st) h Q ↔ gm_W E d 42 6 lv (gm_fv h a j :: st) h Q := gw_rd m42 f42_5 rfl rfl rfl rfl (gs_ld (P := fun t => t == 0) hk.2 (by have := hk.1; simp [this] <;> omega) hj hl)
theorem f42_6 : gm_ft 42 6 = some (.istore_n 3, 1) := by decide +kernel
theorem r42_6 {E : Nat → Value} {d : Nat} {st : List Value} {h : gm_H} {Q : gm_R → gm_H → Prop} {a0 a1 a2 a3 a4 a5 : Value} {x : Int32} : gm_W E d 42 6 [a0, a1, a2, a3, a4, a5] (.int x :: st) h Q ↔ gm_W E d 42 7 [a0, a1, gm_k a2, .int x, a4, a5] st h Q := gw_loc m42 f42_6 rfl rfl
theorem f42_7 : gm_ft 42 7 = some (.iload_n 3, 1) := by decide +kernel
theorem r42_7 {E : Nat → Value} {d : Nat} {st : List Value} {h : gm_H} {Q : gm_R → gm_H → Prop} {a0 a1 a2 a4 a5 : Value} {x : Int32} : gm_W E d 42 7 [a0, a1, a2, .int x, a4, a5] st h Q ↔ gm_W E d 42 8 [a0, a1, a2, .int x, a4, a5] (.int x :: st) h Q := gw_loc m42 f42_7 rfl rfl
theorem f42_8 : gm_ft 42 8 = some (.ifCond .lt 41, 3) := by decide +kernel
theorem r42_8 {E : Nat → Value} {d : Nat} {st : List Value} {h : gm_H} {Q : gm_R → gm_H → Prop} {lv : List Value} {x : Int32} : gm_W E d 42 8 lv (.int x :: st) h Q ↔ (if x < 0 then gm_W E d 42 49 lv st h Q else gm_W E d 42 11 lv st h Q) := (gw_br m42 f42_8 rfl rfl rfl rfl).trans gw_if
theorem f42_11 : gm_ft 42 11 = some (.aload_n 0, 1) := by decide +kernel
theorem r42_11 {E : Nat → Value} {d : Nat} {st : List Value} {h : gm_H} {Q : gm_R → gm_H → Prop} {a1 a2 a3 a4 a5 : Value} {x : Nat} : gm_W E d 42 11 [.ref x, a1, a2, a3, a4, a5] st h Q ↔ gm_W E d 42 12 [.ref x, a1, a2, a3, a4, a5] (.ref x :: st) h Q := gw_loc m42 f42_11 rfl rfl
theorem r42_11n {E : Nat → Value} {d : Nat} {st : List Value} {h : gm_H} {Q : gm_R → gm_H → Prop} {a1 a2 a3 a4 a5 : Value}  : gm_W E d 42 11 [.null, a1, a2, a3, a4, a5] st h Q ↔ gm_W E d 42 12 [.null, a1, a2, a3, a4, a5] (.null :: st) h Q := gw_loc m42 f42_11 rfl rfl
theorem f42_12 : gm_ft 42 12 = some (.getfield 13, 3) := by decide +kernel
theorem r42_12 {E : Nat → Value} {d : Nat} {st : List Value} {h : gm_H} {Q : gm_R → gm_H → Prop} {lv : List Value} {a : Nat} (hk : gm_kd h a = 5) : gm_W E d 42 12 lv (.ref a :: st) h Q ↔ gm_W E d 42 15 lv (gm_fv h a 10 :: st) h Q := gw_rd m42 f42_12 rfl rfl rfl rfl (gs_get k5_13 hk (by decide))
theorem f42_15 : gm_ft 42 15 = some (.iload_n 3, 1) := by decide +kernel
theorem r42_15 {E : Nat → Value} {d : Nat} {st : List Value} {h : gm_H} {Q : gm_R → gm_H → Prop} {a0 a1 a2 a4 a5 : Value} {x : Int32} : gm_W E d 42 15 [a0, a1, a2, .int x, a4, a5] st h Q ↔ gm_W E d 42 16 [a0, a1, a2, .int x, a4, a5] (.int x :: st) h Q := gw_loc m42 f42_15 rfl rfl
theorem f42_16 : gm_ft 42 16 = some (.iaload, 1) := by decide +kernel
theorem r42_16 {E : Nat → Value} {d : Nat} {st : List Value} {h : gm_H} {Q : gm_R → gm_H → Prop} {lv : List Value} {a j : Nat} (hk : gm_kd h a % 100 = 0 ∧ 100 ≤ gm_kd h a ∧ gm_kd h a < 900) (hj : j < gm_ln h a) (hl : gm_ln h a < 2 ^ 31) : gm_W E d 42 16 lv (.int (nI j) :: .ref a :: st) h Q ↔ gm_W E d 42 17 lv (gm_fv h a j :: st) h Q := gw_rd m42 f42_16 rfl rfl rfl rfl (gs_ld (P := fun t => t == 0) hk.2 (by have := hk.1; simp [this] <;> omega) hj hl)
theorem f42_17 : gm_ft 42 17 = some (.iconst 2, 1) := by decide +kernel
theorem r42_17 {E : Nat → Value} {d : Nat} {st : List Value} {h : gm_H} {Q : gm_R → gm_H → Prop} {lv : List Value} : gm_W E d 42 17 lv st h Q ↔ gm_W E d 42 18 lv (.int (2 : Int32) :: st) h Q := gw_pure m42 f42_17 rfl
theorem f42_18 : gm_ft 42 18 = some (.if_icmp .ne 31, 3) := by decide +kernel
theorem r42_18 {E : Nat → Value} {d : Nat} {st : List Value} {h : gm_H} {Q : gm_R → gm_H → Prop} {lv : List Value} {x y : Int32} : gm_W E d 42 18 lv (.int y :: .int x :: st) h Q ↔ (if x = y then gm_W E d 42 21 lv st h Q else gm_W E d 42 49 lv st h Q) := (gw_br m42 f42_18 rfl rfl rfl rfl).trans gw_ifn
theorem f42_21 : gm_ft 42 21 = some (.aload_n 0, 1) := by decide +kernel
theorem r42_21 {E : Nat → Value} {d : Nat} {st : List Value} {h : gm_H} {Q : gm_R → gm_H → Prop} {a1 a2 a3 a4 a5 : Value} {x : Nat} : gm_W E d 42 21 [.ref x, a1, a2, a3, a4, a5] st h Q ↔ gm_W E d 42 22 [.ref x, a1, a2, a3, a4, a5] (.ref x :: st) h Q := gw_loc m42 f42_21 rfl rfl
theorem r42_21n {E : Nat → Value} {d : Nat} {st : List Value} {h : gm_H} {Q : gm_R → gm_H → Prop} {a1 a2 a3 a4 a5 : Value}  : gm_W E d 42 21 [.null, a1, a2, a3, a4, a5] st h Q ↔ gm_W E d 42 22 [.null, a1, a2, a3, a4, a5] (.null :: st) h Q := gw_loc m42 f42_21 rfl rfl
theorem f42_22 : gm_ft 42 22 = some (.iload_n 3, 1) := by decide +kernel
theorem r42_22 {E : Nat → Value} {d : Nat} {st : List Value} {h : gm_H} {Q : gm_R → gm_H → Prop} {a0 a1 a2 a4 a5 : Value} {x : Int32} : gm_W E d 42 22 [a0, a1, a2, .int x, a4, a5] st h Q ↔ gm_W E d 42 23 [a0, a1, a2, .int x, a4, a5] (.int x :: st) h Q := gw_loc m42 f42_22 rfl rfl
theorem f42_23 : gm_ft 42 23 = some (.aload_n 0, 1) := by decide +kernel
theorem r42_23 {E : Nat → Value} {d : Nat} {st : List Value} {h : gm_H} {Q : gm_R → gm_H → Prop} {a1 a2 a3 a4 a5 : Value} {x : Nat} : gm_W E d 42 23 [.ref x, a1, a2, a3, a4, a5] st h Q ↔ gm_W E d 42 24 [.ref x, a1, a2, a3, a4, a5] (.ref x :: st) h Q := gw_loc m42 f42_23 rfl rfl
theorem r42_23n {E : Nat → Value} {d : Nat} {st : List Value} {h : gm_H} {Q : gm_R → gm_H → Prop} {a1 a2 a3 a4 a5 : Value}  : gm_W E d 42 23 [.null, a1, a2, a3, a4, a5] st h Q ↔ gm_W E d 42 24 [.null, a1, a2, a3, a4, a5] (.null :: st) h Q := gw_loc m42 f42_23 rfl rfl
theorem f42_24 : gm_ft 42 24 = some (.getfield 42, 3) := by decide +kernel
theorem r42_24 {E : Nat → Value} {d : Nat} {st : List Value} {h : gm_H} {Q : gm_R → gm_H → Prop} {lv : List Value} {a : Nat} (hk : gm_kd h a = 5) : gm_W E d 42 24 lv (.ref a :: st) h Q ↔ gm_W E d 42 27 lv (gm_fv h a 19 :: st) h Q := gw_rd m42 f42_24 rfl rfl rfl rfl (gs_get k5_42 hk (by decide))
theorem f42_27 : gm_ft 42 27 = some (.iload_n 1, 1) := by decide +kernel
theorem r42_27 {E : Nat → Value} {d : Nat} {st : List Value} {h : gm_H} {Q : gm_R → gm_H → Prop} {a0 a2 a3 a4 a5 : Value} {x : Int32} : gm_W E d 42 27 [a0, .int x, a2, a3, a4, a5] st h Q ↔ gm_W E d 42 28 [a0, .int x, a2, a3, a4, a5] (.int x :: st) h Q := gw_loc m42 f42_27 rfl rfl
theorem f42_28 : gm_ft 42 28 = some (.iaload, 1) := by decide +kernel
theorem r42_28 {E : Nat → Value} {d : Nat} {st : List Value} {h : gm_H} {Q : gm_R → gm_H → Prop} {lv : List Value} {a j : Nat} (hk : gm_kd h a % 100 = 0 ∧ 100 ≤ gm_kd h a ∧ gm_kd h a < 900) (hj : j < gm_ln h a) (hl : gm_ln h a < 2 ^ 31) : gm_W E d 42 28 lv (.int (nI j) :: .ref a :: st) h Q ↔ gm_W E d 42 29 lv (gm_fv h a j :: st) h Q := gw_rd m42 f42_28 rfl rfl rfl rfl (gs_ld (P := fun t => t == 0) hk.2 (by have := hk.1; simp [this] <;> omega) hj hl)
theorem f42_29 : gm_ft 42 29 = some (.invokevirtual 260, 3) := by decide +kernel
theorem c42_29 {E : Nat → Value} {d : Nat} {st : List Value} {h : gm_H} {Q : gm_R → gm_H → Prop} {lv : List Value} {b0 : Int32} {b1 : Int32} {a : Nat} {Qc : gm_R → gm_H → Prop} (hs : (st.map fun v => v.category).sum ≤ 8) (hr : gm_kd h a = 5) (hd : 1 ≤ d) (hc : gm_Ca E (d - 1) 21 [.ref a, .int b0, .int b1] h Qc) (kn : ∀ (v9 : Option Value) (h9 : gm_H), Qc (.inl v9) h9 → gm_W E d 42 32 lv (v9.toList ++ st) h9 Q) (kx : ∀ (x9 : Nat) (h9 : gm_H), Qc (.inr x9) h9 → Q (.inr x9) h9) : gm_W E d 42 29 lv (.int b1 :: .int b0 :: .ref a :: st) h Q := gw_call (gn_call m42 f42_29 rfl rfl rfl rfl rfl rfl rfl (gs_virt (bs := [.int b1, .int b0]) (w := 973) (L := 5) rfl rfl rfl rfl hs (by simp [gm_en1]) hr (by decide)) (by decide)) m42 rfl rfl hd hc kn kx
theorem f42_32 : gm_ft 42 32 = some (.ifCond .eq 17, 3) := by decide +kernel
theorem r42_32 {E : Nat → Value} {d : Nat} {st : List Value} {h : gm_H} {Q : gm_R → gm_H → Prop} {lv : List Value} {x : Int32} : gm_W E d 42 32 lv (.int x :: st) h Q ↔ (if x = 0 then gm_W E d 42 49 lv st h Q else gm_W E d 42 35 lv st h Q) := (gw_br m42 f42_32 rfl rfl rfl rfl).trans gw_if
theorem f42_35 : gm_ft 42 35 = some (.aload_n 0, 1) := by decide +kernel
theorem r42_35 {E : Nat → Value} {d : Nat} {st : List Value} {h : gm_H} {Q : gm_R → gm_H → Prop} {a1 a2 a3 a4 a5 : Value} {x : Nat} : gm_W E d 42 35 [.ref x, a1, a2, a3, a4, a5] st h Q ↔ gm_W E d 42 36 [.ref x, a1, a2, a3, a4, a5] (.ref x :: st) h Q := gw_loc m42 f42_35 rfl rfl
theorem r42_35n {E : Nat → Value} {d : Nat} {st : List Value} {h : gm_H} {Q : gm_R → gm_H → Prop} {a1 a2 a3 a4 a5 : Value}  : gm_W E d 42 35 [.null, a1, a2, a3, a4, a5] st h Q ↔ gm_W E d 42 36 [.null, a1, a2, a3, a4, a5] (.null :: st) h Q := gw_loc m42 f42_35 rfl rfl
theorem f42_36 : gm_ft 42 36 = some (.getfield 148, 3) := by decide +kernel
theorem r42_36 {E : Nat → Value} {d : Nat} {st : List Value} {h : gm_H} {Q : gm_R → gm_H → Prop} {lv : List Value} {a : Nat} (hk : gm_kd h a = 5) : gm_W E d 42 36 lv (.ref a :: st) h Q ↔ gm_W E d 42 39 lv (gm_fv h a 6 :: st) h Q := gw_rd m42 f42_36 rfl rfl rfl rfl (gs_get k5_148 hk (by decide))
theorem f42_39 : gm_ft 42 39 = some (.bipush 6, 2) := by decide +kernel
theorem r42_39 {E : Nat → Value} {d : Nat} {st : List Value} {h : gm_H} {Q : gm_R → gm_H → Prop} {lv : List Value} : gm_W E d 42 39 lv st h Q ↔ gm_W E d 42 41 lv (.int (6 : Int32) :: st) h Q := gw_pure m42 f42_39 rfl
theorem f42_41 : gm_ft 42 41 = some (.iadd, 1) := by decide +kernel
theorem r42_41 {E : Nat → Value} {d : Nat} {st : List Value} {h : gm_H} {Q : gm_R → gm_H → Prop} {lv : List Value} {x y : Int32} : gm_W E d 42 41 lv (.int y :: .int x :: st) h Q ↔ gm_W E d 42 42 lv (.int (x + y) :: st) h Q := gw_pure m42 f42_41 rfl
theorem f42_42 : gm_ft 42 42 = some (.aload_n 0, 1) := by decide +kernel
theorem r42_42 {E : Nat → Value} {d : Nat} {st : List Value} {h : gm_H} {Q : gm_R → gm_H → Prop} {a1 a2 a3 a4 a5 : Value} {x : Nat} : gm_W E d 42 42 [.ref x, a1, a2, a3, a4, a5] st h Q ↔ gm_W E d 42 43 [.ref x, a1, a2, a3, a4, a5] (.ref x :: st) h Q := gw_loc m42 f42_42 rfl rfl
theorem r42_42n {E : Nat → Value} {d : Nat} {st : List Value} {h : gm_H} {Q : gm_R → gm_H → Prop} {a1 a2 a3 a4 a5 : Value}  : gm_W E d 42 42 [.null, a1, a2, a3, a4, a5] st h Q ↔ gm_W E d 42 43 [.null, a1, a2, a3, a4, a5] (.null :: st) h Q := gw_loc m42 f42_42 rfl rfl
theorem f42_43 : gm_ft 42 43 = some (.getfield 142, 3) := by decide +kernel
theorem r42_43 {E : Nat → Value} {d : Nat} {st : List Value} {h : gm_H} {Q : gm_R → gm_H → Prop} {lv : List Value} {a : Nat} (hk : gm_kd h a = 5) : gm_W E d 42 43 lv (.ref a :: st) h Q ↔ gm_W E d 42 46 lv (gm_fv h a 5 :: st) h Q := gw_rd m42 f42_43 rfl rfl rfl rfl (gs_get k5_142 hk (by decide))
theorem f42_46 : gm_ft 42 46 = some (.if_icmp .le 4, 3) := by decide +kernel
theorem r42_46 {E : Nat → Value} {d : Nat} {st : List Value} {h : gm_H} {Q : gm_R → gm_H → Prop} {lv : List Value} {x y : Int32} : gm_W E d 42 46 lv (.int y :: .int x :: st) h Q ↔ (if x ≤ y then gm_W E d 42 50 lv st h Q else gm_W E d 42 49 lv st h Q) := (gw_br m42 f42_46 rfl rfl rfl rfl).trans gw_if
theorem f42_49 : gm_ft 42 49 = some (.return_, 1) := by decide +kernel
theorem r42_49 {E : Nat → Value} {d : Nat} {h : gm_H} {Q : gm_R → gm_H → Prop} {lv : List Value} : gm_W E d 42 49 lv [] h Q ↔ Q (.inl none) h := gw_ret m42 f42_49 rfl rfl rfl rfl rfl rfl rfl rfl rfl
theorem f42_50 : gm_ft 42 50 = some (.aload_n 0, 1) := by decide +kernel
theorem r42_50 {E : Nat → Value} {d : Nat} {st : List Value} {h : gm_H} {Q : gm_R → gm_H → Prop} {a1 a2 a3 a4 a5 : Value} {x : Nat} : gm_W E d 42 50 [.ref x, a1, a2, a3, a4, a5] st h Q ↔ gm_W E d 42 51 [.ref x, a1, a2, a3, a4, a5] (.ref x :: st) h Q := gw_loc m42 f42_50 rfl rfl
theorem r42_50n {E : Nat → Value} {d : Nat} {st : List Value} {h : gm_H} {Q : gm_R → gm_H → Prop} {a1 a2 a3 a4 a5 : Value}  : gm_W E d 42 50 [.null, a1, a2, a3, a4, a5] st h Q ↔ gm_W E d 42 51 [.null, a1, a2, a3, a4, a5] (.null :: st) h Q := gw_loc m42 f42_50 rfl rfl
theorem f42_51 : gm_ft 42 51 = some (.getfield 7, 3) := by decide +kernel
theorem r42_51 {E : Nat → Value} {d : Nat} {st : List Value} {h : gm_H} {Q : gm_R → gm_H → Prop} {lv : List Value} {a : Nat} (hk : gm_kd h a = 5) : gm_W E d 42 51 lv (.ref a :: st) h Q ↔ gm_W E d 42 54 lv (gm_fv h a 4 :: st) h Q := gw_rd m42 f42_51 rfl rfl rfl rfl (gs_get k5_7 hk (by decide))
theorem f42_54 : gm_ft 42 54 = some (.aload_n 0, 1) := by decide +kernel
theorem r42_54 {E : Nat → Value} {d : Nat} {st : List Value} {h : gm_H} {Q : gm_R → gm_H → Prop} {a1 a2 a3 a4 a5 : Value} {x : Nat} : gm_W E d 42 54 [.ref x, a1, a2, a3, a4, a5] st h Q ↔ gm_W E d 42 55 [.ref x, a1, a2, a3, a4, a5] (.ref x :: st) h Q := gw_loc m42 f42_54 rfl rfl
theorem r42_54n {E : Nat → Value} {d : Nat} {st : List Value} {h : gm_H} {Q : gm_R → gm_H → Prop} {a1 a2 a3 a4 a5 : Value}  : gm_W E d 42 54 [.null, a1, a2, a3, a4, a5] st h Q ↔ gm_W E d 42 55 [.null, a1, a2, a3, a4, a5] (.null :: st) h Q := gw_loc m42 f42_54 rfl rfl
theorem f42_55 : gm_ft 42 55 = some (.getfield 148, 3) := by decide +kernel
theorem r42_55 {E : Nat → Value} {d : Nat} {st : List Value} {h : gm_H} {Q : gm_R → gm_H → Prop} {lv : List Value} {a : Nat} (hk : gm_kd h a = 5) : gm_W E d 42 55 lv (.ref a :: st) h Q ↔ gm_W E d 42 58 lv (gm_fv h a 6 :: st) h Q := gw_rd m42 f42_55 rfl rfl rfl rfl (gs_get k5_148 hk (by decide))
theorem f42_58 : gm_ft 42 58 = some (.iaload, 1) := by decide +kernel
theorem r42_58 {E : Nat → Value} {d : Nat} {st : List Value} {h : gm_H} {Q : gm_R → gm_H → Prop} {lv : List Value} {a j : Nat} (hk : gm_kd h a % 100 = 0 ∧ 100 ≤ gm_kd h a ∧ gm_kd h a < 900) (hj : j < gm_ln h a) (hl : gm_ln h a < 2 ^ 31) : gm_W E d 42 58 lv (.int (nI j) :: .ref a :: st) h Q ↔ gm_W E d 42 59 lv (gm_fv h a j :: st) h Q := gw_rd m42 f42_58 rfl rfl rfl rfl (gs_ld (P := fun t => t == 0) hk.2 (by have := hk.1; simp [this] <;> omega) hj hl)
theorem f42_59 : gm_ft 42 59 = some (.bipush 119, 2) := by decide +kernel
theorem r42_59 {E : Nat → Value} {d : Nat} {st : List Value} {h : gm_H} {Q : gm_R → gm_H → Prop} {lv : List Value} : gm_W E d 42 59 lv st h Q ↔ gm_W E d 42 61 lv (.int (119 : Int32) :: st) h Q := gw_pure m42 f42_59 rfl
theorem f42_61 : gm_ft 42 61 = some (.if_icmp .ne 18, 3) := by decide +kernel
theorem r42_61 {E : Nat → Value} {d : Nat} {st : List Value} {h : gm_H} {Q : gm_R → gm_H → Prop} {lv : List Value} {x y : Int32} : gm_W E d 42 61 lv (.int y :: .int x :: st) h Q ↔ (if x = y then gm_W E d 42 64 lv st h Q else gm_W E d 42 79 lv st h Q) := (gw_br m42 f42_61 rfl rfl rfl rfl).trans gw_ifn
theorem f42_64 : gm_ft 42 64 = some (.aload_n 0, 1) := by decide +kernel
theorem r42_64 {E : Nat → Value} {d : Nat} {st : List Value} {h : gm_H} {Q : gm_R → gm_H → Prop} {a1 a2 a3 a4 a5 : Value} {x : Nat} : gm_W E d 42 64 [.ref x, a1, a2, a3, a4, a5] st h Q ↔ gm_W E d 42 65 [.ref x, a1, a2, a3, a4, a5] (.ref x :: st) h Q := gw_loc m42 f42_64 rfl rfl
theorem r42_64n {E : Nat → Value} {d : Nat} {st : List Value} {h : gm_H} {Q : gm_R → gm_H → Prop} {a1 a2 a3 a4 a5 : Value}  : gm_W E d 42 64 [.null, a1, a2, a3, a4, a5] st h Q ↔ gm_W E d 42 65 [.null, a1, a2, a3, a4, a5] (.null :: st) h Q := gw_loc m42 f42_64 rfl rfl
theorem f42_65 : gm_ft 42 65 = some (.getfield 7, 3) := by decide +kernel
theorem r42_65 {E : Nat → Value} {d : Nat} {st : List Value} {h : gm_H} {Q : gm_R → gm_H → Prop} {lv : List Value} {a : Nat} (hk : gm_kd h a = 5) : gm_W E d 42 65 lv (.ref a :: st) h Q ↔ gm_W E d 42 68 lv (gm_fv h a 4 :: st) h Q := gw_rd m42 f42_65 rfl rfl rfl rfl (gs_get k5_7 hk (by decide))
theorem f42_68 : gm_ft 42 68 = some (.aload_n 0, 1) := by decide +kernel
theorem r42_68 {E : Nat → Value} {d : Nat} {st : List Value} {h : gm_H} {Q : gm_R → gm_H → Prop} {a1 a2 a3 a4 a5 : Value} {x : Nat} : gm_W E d 42 68 [.ref x, a1, a2, a3, a4, a5] st h Q ↔ gm_W E d 42 69 [.ref x, a1, a2, a3, a4, a5] (.ref x :: st) h Q := gw_loc m42 f42_68 rfl rfl
theorem r42_68n {E : Nat → Value} {d : Nat} {st : List Value} {h : gm_H} {Q : gm_R → gm_H → Prop} {a1 a2 a3 a4 a5 : Value}  : gm_W E d 42 68 [.null, a1, a2, a3, a4, a5] st h Q ↔ gm_W E d 42 69 [.null, a1, a2, a3, a4, a5] (.null :: st) h Q := gw_loc m42 f42_68 rfl rfl
theorem f42_69 : gm_ft 42 69 = some (.getfield 148, 3) := by decide +kernel
theorem r42_69 {E : Nat → Value} {d : Nat} {st : List Value} {h : gm_H} {Q : gm_R → gm_H → Prop} {lv : List Value} {a : Nat} (hk : gm_kd h a = 5) : gm_W E d 42 69 lv (.ref a :: st) h Q ↔ gm_W E d 42 72 lv (gm_fv h a 6 :: st) h Q := gw_rd m42 f42_69 rfl rfl rfl rfl (gs_get k5_148 hk (by decide))
theorem f42_72 : gm_ft 42 72 = some (.iconst 1, 1) := by decide +kernel
theorem r42_72 {E : Nat → Value} {d : Nat} {st : List Value} {h : gm_H} {Q : gm_R → gm_H → Prop} {lv : List Value} : gm_W E d 42 72 lv st h Q ↔ gm_W E d 42 73 lv (.int (1 : Int32) :: st) h Q := gw_pure m42 f42_72 rfl
theorem f42_73 : gm_ft 42 73 = some (.iadd, 1) := by decide +kernel
theorem r42_73 {E : Nat → Value} {d : Nat} {st : List Value} {h : gm_H} {Q : gm_R → gm_H → Prop} {lv : List Value} {x y : Int32} : gm_W E d 42 73 lv (.int y :: .int x :: st) h Q ↔ gm_W E d 42 74 lv (.int (x + y) :: st) h Q := gw_pure m42 f42_73 rfl
theorem f42_74 : gm_ft 42 74 = some (.iaload, 1) := by decide +kernel
theorem r42_74 {E : Nat → Value} {d : Nat} {st : List Value} {h : gm_H} {Q : gm_R → gm_H → Prop} {lv : List Value} {a j : Nat} (hk : gm_kd h a % 100 = 0 ∧ 100 ≤ gm_kd h a ∧ gm_kd h a < 900) (hj : j < gm_ln h a) (hl : gm_ln h a < 2 ^ 31) : gm_W E d 42 74 lv (.int (nI j) :: .ref a :: st) h Q ↔ gm_W E d 42 75 lv (gm_fv h a j :: st) h Q := gw_rd m42 f42_74 rfl rfl rfl rfl (gs_ld (P := fun t => t == 0) hk.2 (by have := hk.1; simp [this] <;> omega) hj hl)
theorem f42_75 : gm_ft 42 75 = some (.iconst 4, 1) := by decide +kernel
theorem r42_75 {E : Nat → Value} {d : Nat} {st : List Value} {h : gm_H} {Q : gm_R → gm_H → Prop} {lv : List Value} : gm_W E d 42 75 lv st h Q ↔ gm_W E d 42 76 lv (.int (4 : Int32) :: st) h Q := gw_pure m42 f42_75 rfl
theorem f42_76 : gm_ft 42 76 = some (.if_icmp .ge 4, 3) := by decide +kernel
theorem r42_76 {E : Nat → Value} {d : Nat} {st : List Value} {h : gm_H} {Q : gm_R → gm_H → Prop} {lv : List Value} {x y : Int32} : gm_W E d 42 76 lv (.int y :: .int x :: st) h Q ↔ (if y ≤ x then gm_W E d 42 80 lv st h Q else gm_W E d 42 79 lv st h Q) := (gw_br m42 f42_76 rfl rfl rfl rfl).trans gw_if
theorem f42_79 : gm_ft 42 79 = some (.return_, 1) := by decide +kernel
theorem r42_79 {E : Nat → Value} {d : Nat} {h : gm_H} {Q : gm_R → gm_H → Prop} {lv : List Value} : gm_W E d 42 79 lv [] h Q ↔ Q (.inl none) h := gw_ret m42 f42_79 rfl rfl rfl rfl rfl rfl rfl rfl rfl
theorem f42_80 : gm_ft 42 80 = some (.iconst 0, 1) := by decide +kernel
theorem r42_80 {E : Nat → Value} {d : Nat} {st : List Value} {h : gm_H} {Q : gm_R → gm_H → Prop} {lv : List Value} : gm_W E d 42 80 lv st h Q ↔ gm_W E d 42 81 lv (.int (0 : Int32) :: st) h Q := gw_pure m42 f42_80 rfl
theorem f42_81 : gm_ft 42 81 = some (.istore 4, 2) := by decide +kernel
theorem r42_81 {E : Nat → Value} {d : Nat} {st : List Value} {h : gm_H} {Q : gm_R → gm_H → Prop} {a0 a1 a2 a3 a4 a5 : Value} {x : Int32} : gm_W E d 42 81 [a0, a1, a2, a3, a4, a5] (.int x :: st) h Q ↔ gm_W E d 42 83 [a0, a1, a2, gm_k a3, .int x, a5] st h Q := gw_loc m42 f42_81 rfl rfl
theorem f42_83 : gm_ft 42 83 = some (.iconst 2, 1) := by decide +kernel
theorem r42_83 {E : Nat → Value} {d : Nat} {st : List Value} {h : gm_H} {Q : gm_R → gm_H → Prop} {lv : List Value} : gm_W E d 42 83 lv st h Q ↔ gm_W E d 42 84 lv (.int (2 : Int32) :: st) h Q := gw_pure m42 f42_83 rfl
theorem f42_84 : gm_ft 42 84 = some (.istore 5, 2) := by decide +kernel
theorem r42_84 {E : Nat → Value} {d : Nat} {st : List Value} {h : gm_H} {Q : gm_R → gm_H → Prop} {a0 a1 a2 a3 a4 a5 : Value} {x : Int32} : gm_W E d 42 84 [a0, a1, a2, a3, a4, a5] (.int x :: st) h Q ↔ gm_W E d 42 86 [a0, a1, a2, a3, gm_k a4, .int x] st h Q := gw_loc m42 f42_84 rfl rfl
theorem f42_86 : gm_ft 42 86 = some (.iload 5, 2) := by decide +kernel
theorem r42_86 {E : Nat → Value} {d : Nat} {st : List Value} {h : gm_H} {Q : gm_R → gm_H → Prop} {a0 a1 a2 a3 a4 : Value} {x : Int32} : gm_W E d 42 86 [a0, a1, a2, a3, a4, .int x] st h Q ↔ gm_W E d 42 88 [a0, a1, a2, a3, a4, .int x] (.int x :: st) h Q := gw_loc m42 f42_86 rfl rfl
theorem f42_88 : gm_ft 42 88 = some (.bipush 6, 2) := by decide +kernel
theorem r42_88 {E : Nat → Value} {d : Nat} {st : List Value} {h : gm_H} {Q : gm_R → gm_H → Prop} {lv : List Value} : gm_W E d 42 88 lv st h Q ↔ gm_W E d 42 90 lv (.int (6 : Int32) :: st) h Q := gw_pure m42 f42_88 rfl
theorem f42_90 : gm_ft 42 90 = some (.if_icmp .ge 29, 3) := by decide +kernel
theorem r42_90 {E : Nat → Value} {d : Nat} {st : List Value} {h : gm_H} {Q : gm_R → gm_H → Prop} {lv : List Value} {x y : Int32} : gm_W E d 42 90 lv (.int y :: .int x :: st) h Q ↔ (if y ≤ x then gm_W E d 42 119 lv st h Q else gm_W E d 42 93 lv st h Q) := (gw_br m42 f42_90 rfl rfl rfl rfl).trans gw_if
theorem f42_93 : gm_ft 42 93 = some (.iload 4, 2) := by decide +kernel
theorem r42_93 {E : Nat → Value} {d : Nat} {st : List Value} {h : gm_H} {Q : gm_R → gm_H → Prop} {a0 a1 a2 a3 a5 : Value} {x : Int32} : gm_W E d 42 93 [a0, a1, a2, a3, .int x, a5] st h Q ↔ gm_W E d 42 95 [a0, a1, a2, a3, .int x, a5] (.int x :: st) h Q := gw_loc m42 f42_93 rfl rfl
theorem f42_95 : gm_ft 42 95 = some (.bipush 8, 2) := by decide +kernel
theorem r42_95 {E : Nat → Value} {d : Nat} {st : List Value} {h : gm_H} {Q : gm_R → gm_H → Prop} {lv : List Value} : gm_W E d 42 95 lv st h Q ↔ gm_W E d 42 97 lv (.int (8 : Int32) :: st) h Q := gw_pure m42 f42_95 rfl
theorem f42_97 : gm_ft 42 97 = some (.ishl, 1) := by decide +kernel
theorem r42_97 {E : Nat → Value} {d : Nat} {st : List Value} {h : gm_H} {Q : gm_R → gm_H → Prop} {lv : List Value} {x y : Int32} : gm_W E d 42 97 lv (.int y :: .int x :: st) h Q ↔ gm_W E d 42 98 lv (.int (x <<< (y &&& 31)) :: st) h Q := gw_pure m42 f42_97 rfl
theorem f42_98 : gm_ft 42 98 = some (.aload_n 0, 1) := by decide +kernel
theorem r42_98 {E : Nat → Value} {d : Nat} {st : List Value} {h : gm_H} {Q : gm_R → gm_H → Prop} {a1 a2 a3 a4 a5 : Value} {x : Nat} : gm_W E d 42 98 [.ref x, a1, a2, a3, a4, a5] st h Q ↔ gm_W E d 42 99 [.ref x, a1, a2, a3, a4, a5] (.ref x :: st) h Q := gw_loc m42 f42_98 rfl rfl
theorem r42_98n {E : Nat → Value} {d : Nat} {st : List Value} {h : gm_H} {Q : gm_R → gm_H → Prop} {a1 a2 a3 a4 a5 : Value}  : gm_W E d 42 98 [.null, a1, a2, a3, a4, a5] st h Q ↔ gm_W E d 42 99 [.null, a1, a2, a3, a4, a5] (.null :: st) h Q := gw_loc m42 f42_98 rfl rfl
theorem f42_99 : gm_ft 42 99 = some (.getfield 7, 3) := by decide +kernel
theorem r42_99 {E : Nat → Value} {d : Nat} {st : List Value} {h : gm_H} {Q : gm_R → gm_H → Prop} {lv : List Value} {a : Nat} (hk : gm_kd h a = 5) : gm_W E d 42 99 lv (.ref a :: st) h Q ↔ gm_W E d 42 102 lv (gm_fv h a 4 :: st) h Q := gw_rd m42 f42_99 rfl rfl rfl rfl (gs_get k5_7 hk (by decide))
theorem f42_102 : gm_ft 42 102 = some (.aload_n 0, 1) := by decide +kernel
theorem r42_102 {E : Nat → Value} {d : Nat} {st : List Value} {h : gm_H} {Q : gm_R → gm_H → Prop} {a1 a2 a3 a4 a5 : Value} {x : Nat} : gm_W E d 42 102 [.ref x, a1, a2, a3, a4, a5] st h Q ↔ gm_W E d 42 103 [.ref x, a1, a2, a3, a4, a5] (.ref x :: st) h Q := gw_loc m42 f42_102 rfl rfl
theorem r42_102n {E : Nat → Value} {d : Nat} {st : List Value} {h : gm_H} {Q : gm_R → gm_H → Prop} {a1 a2 a3 a4 a5 : Value}  : gm_W E d 42 102 [.null, a1, a2, a3, a4, a5] st h Q ↔ gm_W E d 42 103 [.null, a1, a2, a3, a4, a5] (.null :: st) h Q := gw_loc m42 f42_102 rfl rfl
theorem f42_103 : gm_ft 42 103 = some (.getfield 148, 3) := by decide +kernel
theorem r42_103 {E : Nat → Value} {d : Nat} {st : List Value} {h : gm_H} {Q : gm_R → gm_H → Prop} {lv : List Value} {a : Nat} (hk : gm_kd h a = 5) : gm_W E d 42 103 lv (.ref a :: st) h Q ↔ gm_W E d 42 106 lv (gm_fv h a 6 :: st) h Q := gw_rd m42 f42_103 rfl rfl rfl rfl (gs_get k5_148 hk (by decide))
theorem f42_106 : gm_ft 42 106 = some (.iload 5, 2) := by decide +kernel
theorem r42_106 {E : Nat → Value} {d : Nat} {st : List Value} {h : gm_H} {Q : gm_R → gm_H → Prop} {a0 a1 a2 a3 a4 : Value} {x : Int32} : gm_W E d 42 106 [a0, a1, a2, a3, a4, .int x] st h Q ↔ gm_W E d 42 108 [a0, a1, a2, a3, a4, .int x] (.int x :: st) h Q := gw_loc m42 f42_106 rfl rfl
theorem f42_108 : gm_ft 42 108 = some (.iadd, 1) := by decide +kernel
theorem r42_108 {E : Nat → Value} {d : Nat} {st : List Value} {h : gm_H} {Q : gm_R → gm_H → Prop} {lv : List Value} {x y : Int32} : gm_W E d 42 108 lv (.int y :: .int x :: st) h Q ↔ gm_W E d 42 109 lv (.int (x + y) :: st) h Q := gw_pure m42 f42_108 rfl
theorem f42_109 : gm_ft 42 109 = some (.iaload, 1) := by decide +kernel
theorem r42_109 {E : Nat → Value} {d : Nat} {st : List Value} {h : gm_H} {Q : gm_R → gm_H → Prop} {lv : List Value} {a j : Nat} (hk : gm_kd h a % 100 = 0 ∧ 100 ≤ gm_kd h a ∧ gm_kd h a < 900) (hj : j < gm_ln h a) (hl : gm_ln h a < 2 ^ 31) : gm_W E d 42 109 lv (.int (nI j) :: .ref a :: st) h Q ↔ gm_W E d 42 110 lv (gm_fv h a j :: st) h Q := gw_rd m42 f42_109 rfl rfl rfl rfl (gs_ld (P := fun t => t == 0) hk.2 (by have := hk.1; simp [this] <;> omega) hj hl)
theorem f42_110 : gm_ft 42 110 = some (.ior, 1) := by decide +kernel
theorem r42_110 {E : Nat → Value} {d : Nat} {st : List Value} {h : gm_H} {Q : gm_R → gm_H → Prop} {lv : List Value} {x y : Int32} : gm_W E d 42 110 lv (.int y :: .int x :: st) h Q ↔ gm_W E d 42 111 lv (.int (x ||| y) :: st) h Q := gw_pure m42 f42_110 rfl
theorem f42_111 : gm_ft 42 111 = some (.istore 4, 2) := by decide +kernel
theorem r42_111 {E : Nat → Value} {d : Nat} {st : List Value} {h : gm_H} {Q : gm_R → gm_H → Prop} {a0 a1 a2 a3 a4 a5 : Value} {x : Int32} : gm_W E d 42 111 [a0, a1, a2, a3, a4, a5] (.int x :: st) h Q ↔ gm_W E d 42 113 [a0, a1, a2, gm_k a3, .int x, a5] st h Q := gw_loc m42 f42_111 rfl rfl
theorem f42_113 : gm_ft 42 113 = some (.iinc 5 1, 3) := by decide +kernel
theorem r42_113 {E : Nat → Value} {d : Nat} {st : List Value} {h : gm_H} {Q : gm_R → gm_H → Prop} {a0 a1 a2 a3 a4 : Value} {x : Int32} : gm_W E d 42 113 [a0, a1, a2, a3, a4, .int x] st h Q ↔ gm_W E d 42 116 [a0, a1, a2, a3, gm_k a4, .int (x + (1 : Int32))] st h Q := gw_loc m42 f42_113 rfl rfl
theorem f42_116 : gm_ft 42 116 = some (.goto (-30), 3) := by decide +kernel
theorem r42_116 {E : Nat → Value} {d : Nat} {st : List Value} {h : gm_H} {Q : gm_R → gm_H → Prop} {lv : List Value} : gm_W E d 42 116 lv st h Q ↔ gm_W E d 42 86 lv st h Q := gw_brT m42 f42_116 rfl rfl rfl rfl
theorem f42_119 : gm_ft 42 119 = some (.aload_n 0, 1) := by decide +kernel
theorem r42_119 {E : Nat → Value} {d : Nat} {st : List Value} {h : gm_H} {Q : gm_R → gm_H → Prop} {a1 a2 a3 a4 a5 : Value} {x : Nat} : gm_W E d 42 119 [.ref x, a1, a2, a3, a4, a5] st h Q ↔ gm_W E d 42 120 [.ref x, a1, a2, a3, a4, a5] (.ref x :: st) h Q := gw_loc m42 f42_119 rfl rfl
theorem r42_119n {E : Nat → Value} {d : Nat} {st : List Value} {h : gm_H} {Q : gm_R → gm_H → Prop} {a1 a2 a3 a4 a5 : Value}  : gm_W E d 42 119 [.null, a1, a2, a3, a4, a5] st h Q ↔ gm_W E d 42 120 [.null, a1, a2, a3, a4, a5] (.null :: st) h Q := gw_loc m42 f42_119 rfl rfl
theorem f42_120 : gm_ft 42 120 = some (.getfield 51, 3) := by decide +kernel
theorem r42_120 {E : Nat → Value} {d : Nat} {st : List Value} {h : gm_H} {Q : gm_R → gm_H → Prop} {lv : List Value} {a : Nat} (hk : gm_kd h a = 5) : gm_W E d 42 120 lv (.ref a :: st) h Q ↔ gm_W E d 42 123 lv (gm_fv h a 22 :: st) h Q := gw_rd m42 f42_120 rfl rfl rfl rfl (gs_get k5_51 hk (by decide))
theorem f42_123 : gm_ft 42 123 = some (.iload_n 1, 1) := by decide +kernel
theorem r42_123 {E : Nat → Value} {d : Nat} {st : List Value} {h : gm_H} {Q : gm_R → gm_H → Prop} {a0 a2 a3 a4 a5 : Value} {x : Int32} : gm_W E d 42 123 [a0, .int x, a2, a3, a4, a5] st h Q ↔ gm_W E d 42 124 [a0, .int x, a2, a3, a4, a5] (.int x :: st) h Q := gw_loc m42 f42_123 rfl rfl
theorem f42_124 : gm_ft 42 124 = some (.iload 4, 2) := by decide +kernel
theorem r42_124 {E : Nat → Value} {d : Nat} {st : List Value} {h : gm_H} {Q : gm_R → gm_H → Prop} {a0 a1 a2 a3 a5 : Value} {x : Int32} : gm_W E d 42 124 [a0, a1, a2, a3, .int x, a5] st h Q ↔ gm_W E d 42 126 [a0, a1, a2, a3, .int x, a5] (.int x :: st) h Q := gw_loc m42 f42_124 rfl rfl
theorem f42_126 : gm_ft 42 126 = some (.iastore, 1) := by decide +kernel
theorem r42_126 {E : Nat → Value} {d : Nat} {st : List Value} {h : gm_H} {Q : gm_R → gm_H → Prop} {lv : List Value} {a j : Nat} {x : Int32} (hk : gm_kd h a = 200) (hj : j < gm_ln h a) (hl : gm_ln h a < 2 ^ 31) : gm_W E d 42 126 lv (.int x :: .int (nI j) :: .ref a :: st) h Q ↔ gm_W E d 42 127 lv st (gm_sf h a j (.int x)) Q := gw_wr m42 f42_126 rfl rfl rfl rfl rfl (gs_st hk (by decide) hj hl)
theorem f42_127 : gm_ft 42 127 = some (.return_, 1) := by decide +kernel
theorem r42_127 {E : Nat → Value} {d : Nat} {h : gm_H} {Q : gm_R → gm_H → Prop} {lv : List Value} : gm_W E d 42 127 lv [] h Q ↔ Q (.inl none) h := gw_ret m42 f42_127 rfl rfl rfl rfl rfl rfl rfl rfl rfl
/-! GraphReaderModel.block()I -/
theorem m43 : gm_mt[43]? = some (⟨"GraphReaderModel", "block", "()I"⟩, prog_7_method_42_code, 2, (some .int), [], 5, 2) := rfl
theorem f43_0 : gm_ft 43 0 = some (.aload_n 0, 1) := by decide +kernel
theorem r43_0 {E : Nat → Value} {d : Nat} {st : List Value} {h : gm_H} {Q : gm_R → gm_H → Prop} {a1 : Value} {x : Nat} : gm_W E d 43 0 [.ref x, a1] st h Q ↔ gm_W E d 43 1 [.ref x, a1] (.ref x :: st) h Q := gw_loc m43 f43_0 rfl rfl
theorem r43_0n {E : Nat → Value} {d : Nat} {st : List Value} {h : gm_H} {Q : gm_R → gm_H → Prop} {a1 : Value}  : gm_W E d 43 0 [.null, a1] st h Q ↔ gm_W E d 43 1 [.null, a1] (.null :: st) h Q := gw_loc m43 f43_0 rfl rfl
theorem f43_1 : gm_ft 43 1 = some (.invokevirtual 155, 3) := by decide +kernel
theorem c43_1 {E : Nat → Value} {d : Nat} {st : List Value} {h : gm_H} {Q : gm_R → gm_H → Prop} {lv : List Value} {a : Nat} {Qc : gm_R → gm_H → Prop} (hs : (st.map fun v => v.category).sum ≤ 8) (hr : gm_kd h a = 5) (hd : 1 ≤ d) (hc : gm_Ca E (d - 1) 11 [.ref a] h Qc) (kn : ∀ (v9 : Option Value) (h9 : gm_H), Qc (.inl v9) h9 → gm_W E d 43 4 lv (v9.toList ++ st) h9 Q) (kx : ∀ (x9 : Nat) (h9 : gm_H), Qc (.inr x9) h9 → Q (.inr x9) h9) : gm_W E d 43 1 lv (.ref a :: st) h Q := gw_call (gn_call m43 f43_1 rfl rfl rfl rfl rfl rfl rfl (gs_virt (bs := []) (w := 848) (L := 1) rfl rfl rfl rfl hs (by simp [gm_en1]) hr (by decide)) (by decide)) m43 rfl rfl hd hc kn kx
theorem f43_4 : gm_ft 43 4 = some (.bipush 119, 2) := by decide +kernel
theorem r43_4 {E : Nat → Value} {d : Nat} {st : List Value} {h : gm_H} {Q : gm_R → gm_H → Prop} {lv : List Value} : gm_W E d 43 4 lv st h Q ↔ gm_W E d 43 6 lv (.int (119 : Int32) :: st) h Q := gw_pure m43 f43_4 rfl
theorem f43_6 : gm_ft 43 6 = some (.if_icmp .ne 12, 3) := by decide +kernel
theorem r43_6 {E : Nat → Value} {d : Nat} {st : List Value} {h : gm_H} {Q : gm_R → gm_H → Prop} {lv : List Value} {x y : Int32} : gm_W E d 43 6 lv (.int y :: .int x :: st) h Q ↔ (if x = y then gm_W E d 43 9 lv st h Q else gm_W E d 43 18 lv st h Q) := (gw_br m43 f43_6 rfl rfl rfl rfl).trans gw_ifn
theorem f43_9 : gm_ft 43 9 = some (.aload_n 0, 1) := by decide +kernel
theorem r43_9 {E : Nat → Value} {d : Nat} {st : List Value} {h : gm_H} {Q : gm_R → gm_H → Prop} {a1 : Value} {x : Nat} : gm_W E d 43 9 [.ref x, a1] st h Q ↔ gm_W E d 43 10 [.ref x, a1] (.ref x :: st) h Q := gw_loc m43 f43_9 rfl rfl
theorem r43_9n {E : Nat → Value} {d : Nat} {st : List Value} {h : gm_H} {Q : gm_R → gm_H → Prop} {a1 : Value}  : gm_W E d 43 9 [.null, a1] st h Q ↔ gm_W E d 43 10 [.null, a1] (.null :: st) h Q := gw_loc m43 f43_9 rfl rfl
theorem f43_10 : gm_ft 43 10 = some (.iconst 1, 1) := by decide +kernel
theorem r43_10 {E : Nat → Value} {d : Nat} {st : List Value} {h : gm_H} {Q : gm_R → gm_H → Prop} {lv : List Value} : gm_W E d 43 10 lv st h Q ↔ gm_W E d 43 11 lv (.int (1 : Int32) :: st) h Q := gw_pure m43 f43_10 rfl
theorem f43_11 : gm_ft 43 11 = some (.invokevirtual 159, 3) := by decide +kernel
theorem c43_11 {E : Nat → Value} {d : Nat} {st : List Value} {h : gm_H} {Q : gm_R → gm_H → Prop} {lv : List Value} {b0 : Int32} {a : Nat} {Qc : gm_R → gm_H → Prop} (hs : (st.map fun v => v.category).sum ≤ 8) (hr : gm_kd h a = 5) (hd : 1 ≤ d) (hc : gm_Ca E (d - 1) 12 [.ref a, .int b0] h Qc) (kn : ∀ (v9 : Option Value) (h9 : gm_H), Qc (.inl v9) h9 → gm_W E d 43 14 lv (v9.toList ++ st) h9 Q) (kx : ∀ (x9 : Nat) (h9 : gm_H), Qc (.inr x9) h9 → Q (.inr x9) h9) : gm_W E d 43 11 lv (.int b0 :: .ref a :: st) h Q := gw_call (gn_call m43 f43_11 rfl rfl rfl rfl rfl rfl rfl (gs_virt (bs := [.int b0]) (w := 880) (L := 5) rfl rfl rfl rfl hs (by simp [gm_en1]) hr (by decide)) (by decide)) m43 rfl rfl hd hc kn kx
theorem f43_14 : gm_ft 43 14 = some (.l2i, 1) := by decide +kernel
theorem r43_14 {E : Nat → Value} {d : Nat} {st : List Value} {h : gm_H} {Q : gm_R → gm_H → Prop} {lv : List Value} {x : Int64} : gm_W E d 43 14 lv (.long x :: st) h Q ↔ gm_W E d 43 15 lv (.int (x.toInt32) :: st) h Q := gw_pure m43 f43_14 rfl
theorem f43_15 : gm_ft 43 15 = some (.goto 9, 3) := by decide +kernel
theorem r43_15 {E : Nat → Value} {d : Nat} {st : List Value} {h : gm_H} {Q : gm_R → gm_H → Prop} {lv : List Value} : gm_W E d 43 15 lv st h Q ↔ gm_W E d 43 24 lv st h Q := gw_brT m43 f43_15 rfl rfl rfl rfl
theorem f43_18 : gm_ft 43 18 = some (.aload_n 0, 1) := by decide +kernel
theorem r43_18 {E : Nat → Value} {d : Nat} {st : List Value} {h : gm_H} {Q : gm_R → gm_H → Prop} {a1 : Value} {x : Nat} : gm_W E d 43 18 [.ref x, a1] st h Q ↔ gm_W E d 43 19 [.ref x, a1] (.ref x :: st) h Q := gw_loc m43 f43_18 rfl rfl
theorem r43_18n {E : Nat → Value} {d : Nat} {st : List Value} {h : gm_H} {Q : gm_R → gm_H → Prop} {a1 : Value}  : gm_W E d 43 18 [.null, a1] st h Q ↔ gm_W E d 43 19 [.null, a1] (.null :: st) h Q := gw_loc m43 f43_18 rfl rfl
theorem f43_19 : gm_ft 43 19 = some (.iconst 4, 1) := by decide +kernel
theorem r43_19 {E : Nat → Value} {d : Nat} {st : List Value} {h : gm_H} {Q : gm_R → gm_H → Prop} {lv : List Value} : gm_W E d 43 19 lv st h Q ↔ gm_W E d 43 20 lv (.int (4 : Int32) :: st) h Q := gw_pure m43 f43_19 rfl
theorem f43_20 : gm_ft 43 20 = some (.invokevirtual 159, 3) := by decide +kernel
theorem c43_20 {E : Nat → Value} {d : Nat} {st : List Value} {h : gm_H} {Q : gm_R → gm_H → Prop} {lv : List Value} {b0 : Int32} {a : Nat} {Qc : gm_R → gm_H → Prop} (hs : (st.map fun v => v.category).sum ≤ 8) (hr : gm_kd h a = 5) (hd : 1 ≤ d) (hc : gm_Ca E (d - 1) 12 [.ref a, .int b0] h Qc) (kn : ∀ (v9 : Option Value) (h9 : gm_H), Qc (.inl v9) h9 → gm_W E d 43 23 lv (v9.toList ++ st) h9 Q) (kx : ∀ (x9 : Nat) (h9 : gm_H), Qc (.inr x9) h9 → Q (.inr x9) h9) : gm_W E d 43 20 lv (.int b0 :: .ref a :: st) h Q := gw_call (gn_call m43 f43_20 rfl rfl rfl rfl rfl rfl rfl (gs_virt (bs := [.int b0]) (w := 880) (L := 5) rfl rfl rfl rfl hs (by simp [gm_en1]) hr (by decide)) (by decide)) m43 rfl rfl hd hc kn kx
theorem f43_23 : gm_ft 43 23 = some (.l2i, 1) := by decide +kernel
theorem r43_23 {E : Nat → Value} {d : Nat} {st : List Value} {h : gm_H} {Q : gm_R → gm_H → Prop} {lv : List Value} {x : Int64} : gm_W E d 43 23 lv (.long x :: st) h Q ↔ gm_W E d 43 24 lv (.int (x.toInt32) :: st) h Q := gw_pure m43 f43_23 rfl
theorem f43_24 : gm_ft 43 24 = some (.istore_n 1, 1) := by decide +kernel
theorem r43_24 {E : Nat → Value} {d : Nat} {st : List Value} {h : gm_H} {Q : gm_R → gm_H → Prop} {a0 a1 : Value} {x : Int32} : gm_W E d 43 24 [a0, a1] (.int x :: st) h Q ↔ gm_W E d 43 25 [gm_k a0, .int x] st h Q := gw_loc m43 f43_24 rfl rfl
theorem f43_25 : gm_ft 43 25 = some (.aload_n 0, 1) := by decide +kernel
theorem r43_25 {E : Nat → Value} {d : Nat} {st : List Value} {h : gm_H} {Q : gm_R → gm_H → Prop} {a1 : Value} {x : Nat} : gm_W E d 43 25 [.ref x, a1] st h Q ↔ gm_W E d 43 26 [.ref x, a1] (.ref x :: st) h Q := gw_loc m43 f43_25 rfl rfl
theorem r43_25n {E : Nat → Value} {d : Nat} {st : List Value} {h : gm_H} {Q : gm_R → gm_H → Prop} {a1 : Value}  : gm_W E d 43 25 [.null, a1] st h Q ↔ gm_W E d 43 26 [.null, a1] (.null :: st) h Q := gw_loc m43 f43_25 rfl rfl
theorem f43_26 : gm_ft 43 26 = some (.getfield 145, 3) := by decide +kernel
theorem r43_26 {E : Nat → Value} {d : Nat} {st : List Value} {h : gm_H} {Q : gm_R → gm_H → Prop} {lv : List Value} {a : Nat} (hk : gm_kd h a = 5) : gm_W E d 43 26 lv (.ref a :: st) h Q ↔ gm_W E d 43 29 lv (gm_fv h a 8 :: st) h Q := gw_rd m43 f43_26 rfl rfl rfl rfl (gs_get k5_145 hk (by decide))
theorem f43_29 : gm_ft 43 29 = some (.ifCond .ne 13, 3) := by decide +kernel
theorem r43_29 {E : Nat → Value} {d : Nat} {st : List Value} {h : gm_H} {Q : gm_R → gm_H → Prop} {lv : List Value} {x : Int32} : gm_W E d 43 29 lv (.int x :: st) h Q ↔ (if x = 0 then gm_W E d 43 32 lv st h Q else gm_W E d 43 42 lv st h Q) := (gw_br m43 f43_29 rfl rfl rfl rfl).trans gw_ifn
theorem f43_32 : gm_ft 43 32 = some (.iload_n 1, 1) := by decide +kernel
theorem r43_32 {E : Nat → Value} {d : Nat} {st : List Value} {h : gm_H} {Q : gm_R → gm_H → Prop} {a0 : Value} {x : Int32} : gm_W E d 43 32 [a0, .int x] st h Q ↔ gm_W E d 43 33 [a0, .int x] (.int x :: st) h Q := gw_loc m43 f43_32 rfl rfl
theorem f43_33 : gm_ft 43 33 = some (.ifCond .ge 9, 3) := by decide +kernel
theorem r43_33 {E : Nat → Value} {d : Nat} {st : List Value} {h : gm_H} {Q : gm_R → gm_H → Prop} {lv : List Value} {x : Int32} : gm_W E d 43 33 lv (.int x :: st) h Q ↔ (if 0 ≤ x then gm_W E d 43 42 lv st h Q else gm_W E d 43 36 lv st h Q) := (gw_br m43 f43_33 rfl rfl rfl rfl).trans gw_if
theorem f43_36 : gm_ft 43 36 = some (.aload_n 0, 1) := by decide +kernel
theorem r43_36 {E : Nat → Value} {d : Nat} {st : List Value} {h : gm_H} {Q : gm_R → gm_H → Prop} {a1 : Value} {x : Nat} : gm_W E d 43 36 [.ref x, a1] st h Q ↔ gm_W E d 43 37 [.ref x, a1] (.ref x :: st) h Q := gw_loc m43 f43_36 rfl rfl
theorem r43_36n {E : Nat → Value} {d : Nat} {st : List Value} {h : gm_H} {Q : gm_R → gm_H → Prop} {a1 : Value}  : gm_W E d 43 36 [.null, a1] st h Q ↔ gm_W E d 43 37 [.null, a1] (.null :: st) h Q := gw_loc m43 f43_36 rfl rfl
theorem f43_37 : gm_ft 43 37 = some (.bipush (-4), 2) := by decide +kernel
theorem r43_37 {E : Nat → Value} {d : Nat} {st : List Value} {h : gm_H} {Q : gm_R → gm_H → Prop} {lv : List Value} : gm_W E d 43 37 lv st h Q ↔ gm_W E d 43 39 lv (.int (-4 : Int32) :: st) h Q := gw_pure m43 f43_37 rfl
theorem f43_39 : gm_ft 43 39 = some (.invokevirtual 151, 3) := by decide +kernel
theorem c43_39 {E : Nat → Value} {d : Nat} {st : List Value} {h : gm_H} {Q : gm_R → gm_H → Prop} {lv : List Value} {b0 : Int32} {a : Nat} {Qc : gm_R → gm_H → Prop} (hs : (st.map fun v => v.category).sum ≤ 8) (hr : gm_kd h a = 5) (hd : 1 ≤ d) (hc : gm_Ca E (d - 1) 10 [.ref a, .int b0] h Qc) (kn : ∀ (v9 : Option Value) (h9 : gm_H), Qc (.inl v9) h9 → gm_W E d 43 42 lv (v9.toList ++ st) h9 Q) (kx : ∀ (x9 : Nat) (h9 : gm_H), Qc (.inr x9) h9 → Q (.inr x9) h9) : gm_W E d 43 39 lv (.int b0 :: .ref a :: st) h Q := gw_call (gn_call m43 f43_39 rfl rfl rfl rfl rfl rfl rfl (gs_virt (bs := [.int b0]) (w := 844) (L := 2) rfl rfl rfl rfl hs (by simp [gm_en1]) hr (by decide)) (by decide)) m43 rfl rfl hd hc kn kx
theorem f43_42 : gm_ft 43 42 = some (.aload_n 0, 1) := by decide +kernel
theorem r43_42 {E : Nat → Value} {d : Nat} {st : List Value} {h : gm_H} {Q : gm_R → gm_H → Prop} {a1 : Value} {x : Nat} : gm_W E d 43 42 [.ref x, a1] st h Q ↔ gm_W E d 43 43 [.ref x, a1] (.ref x :: st) h Q := gw_loc m43 f43_42 rfl rfl
theorem r43_42n {E : Nat → Value} {d : Nat} {st : List Value} {h : gm_H} {Q : gm_R → gm_H → Prop} {a1 : Value}  : gm_W E d 43 42 [.null, a1] st h Q ↔ gm_W E d 43 43 [.null, a1] (.null :: st) h Q := gw_loc m43 f43_42 rfl rfl
theorem f43_43 : gm_ft 43 43 = some (.getfield 145, 3) := by decide +kernel
theorem r43_43 {E : Nat → Value} {d : Nat} {st : List Value} {h : gm_H} {Q : gm_R → gm_H → Prop} {lv : List Value} {a : Nat} (hk : gm_kd h a = 5) : gm_W E d 43 43 lv (.ref a :: st) h Q ↔ gm_W E d 43 46 lv (gm_fv h a 8 :: st) h Q := gw_rd m43 f43_43 rfl rfl rfl rfl (gs_get k5_145 hk (by decide))
theorem f43_46 : gm_ft 43 46 = some (.ifCond .ne 22, 3) := by decide +kernel
theorem r43_46 {E : Nat → Value} {d : Nat} {st : List Value} {h : gm_H} {Q : gm_R → gm_H → Prop} {lv : List Value} {x : Int32} : gm_W E d 43 46 lv (.int x :: st) h Q ↔ (if x = 0 then gm_W E d 43 49 lv st h Q else gm_W E d 43 68 lv st h Q) := (gw_br m43 f43_46 rfl rfl rfl rfl).trans gw_ifn
theorem f43_49 : gm_ft 43 49 = some (.iload_n 1, 1) := by decide +kernel
theorem r43_49 {E : Nat → Value} {d : Nat} {st : List Value} {h : gm_H} {Q : gm_R → gm_H → Prop} {a0 : Value} {x : Int32} : gm_W E d 43 49 [a0, .int x] st h Q ↔ gm_W E d 43 50 [a0, .int x] (.int x :: st) h Q := gw_loc m43 f43_49 rfl rfl
theorem f43_50 : gm_ft 43 50 = some (.aload_n 0, 1) := by decide +kernel
theorem r43_50 {E : Nat → Value} {d : Nat} {st : List Value} {h : gm_H} {Q : gm_R → gm_H → Prop} {a1 : Value} {x : Nat} : gm_W E d 43 50 [.ref x, a1] st h Q ↔ gm_W E d 43 51 [.ref x, a1] (.ref x :: st) h Q := gw_loc m43 f43_50 rfl rfl
theorem r43_50n {E : Nat → Value} {d : Nat} {st : List Value} {h : gm_H} {Q : gm_R → gm_H → Prop} {a1 : Value}  : gm_W E d 43 50 [.null, a1] st h Q ↔ gm_W E d 43 51 [.null, a1] (.null :: st) h Q := gw_loc m43 f43_50 rfl rfl
theorem f43_51 : gm_ft 43 51 = some (.getfield 142, 3) := by decide +kernel
theorem r43_51 {E : Nat → Value} {d : Nat} {st : List Value} {h : gm_H} {Q : gm_R → gm_H → Prop} {lv : List Value} {a : Nat} (hk : gm_kd h a = 5) : gm_W E d 43 51 lv (.ref a :: st) h Q ↔ gm_W E d 43 54 lv (gm_fv h a 5 :: st) h Q := gw_rd m43 f43_51 rfl rfl rfl rfl (gs_get k5_142 hk (by decide))
theorem f43_54 : gm_ft 43 54 = some (.aload_n 0, 1) := by decide +kernel
theorem r43_54 {E : Nat → Value} {d : Nat} {st : List Value} {h : gm_H} {Q : gm_R → gm_H → Prop} {a1 : Value} {x : Nat} : gm_W E d 43 54 [.ref x, a1] st h Q ↔ gm_W E d 43 55 [.ref x, a1] (.ref x :: st) h Q := gw_loc m43 f43_54 rfl rfl
theorem r43_54n {E : Nat → Value} {d : Nat} {st : List Value} {h : gm_H} {Q : gm_R → gm_H → Prop} {a1 : Value}  : gm_W E d 43 54 [.null, a1] st h Q ↔ gm_W E d 43 55 [.null, a1] (.null :: st) h Q := gw_loc m43 f43_54 rfl rfl
theorem f43_55 : gm_ft 43 55 = some (.getfield 148, 3) := by decide +kernel
theorem r43_55 {E : Nat → Value} {d : Nat} {st : List Value} {h : gm_H} {Q : gm_R → gm_H → Prop} {lv : List Value} {a : Nat} (hk : gm_kd h a = 5) : gm_W E d 43 55 lv (.ref a :: st) h Q ↔ gm_W E d 43 58 lv (gm_fv h a 6 :: st) h Q := gw_rd m43 f43_55 rfl rfl rfl rfl (gs_get k5_148 hk (by decide))
theorem f43_58 : gm_ft 43 58 = some (.isub, 1) := by decide +kernel
theorem r43_58 {E : Nat → Value} {d : Nat} {st : List Value} {h : gm_H} {Q : gm_R → gm_H → Prop} {lv : List Value} {x y : Int32} : gm_W E d 43 58 lv (.int y :: .int x :: st) h Q ↔ gm_W E d 43 59 lv (.int (x - y) :: st) h Q := gw_pure m43 f43_58 rfl
theorem f43_59 : gm_ft 43 59 = some (.if_icmp .le 9, 3) := by decide +kernel
theorem r43_59 {E : Nat → Value} {d : Nat} {st : List Value} {h : gm_H} {Q : gm_R → gm_H → Prop} {lv : List Value} {x y : Int32} : gm_W E d 43 59 lv (.int y :: .int x :: st) h Q ↔ (if x ≤ y then gm_W E d 43 68 lv st h Q else gm_W E d 43 62 lv st h Q) := (gw_br m43 f43_59 rfl rfl rfl rfl).trans gw_if
theorem f43_62 : gm_ft 43 62 = some (.aload_n 0, 1) := by decide +kernel
theorem r43_62 {E : Nat → Value} {d : Nat} {st : List Value} {h : gm_H} {Q : gm_R → gm_H → Prop} {a1 : Value} {x : Nat} : gm_W E d 43 62 [.ref x, a1] st h Q ↔ gm_W E d 43 63 [.ref x, a1] (.ref x :: st) h Q := gw_loc m43 f43_62 rfl rfl
theorem r43_62n {E : Nat → Value} {d : Nat} {st : List Value} {h : gm_H} {Q : gm_R → gm_H → Prop} {a1 : Value}  : gm_W E d 43 62 [.null, a1] st h Q ↔ gm_W E d 43 63 [.null, a1] (.null :: st) h Q := gw_loc m43 f43_62 rfl rfl
theorem f43_63 : gm_ft 43 63 = some (.bipush (-3), 2) := by decide +kernel
theorem r43_63 {E : Nat → Value} {d : Nat} {st : List Value} {h : gm_H} {Q : gm_R → gm_H → Prop} {lv : List Value} : gm_W E d 43 63 lv st h Q ↔ gm_W E d 43 65 lv (.int (-3 : Int32) :: st) h Q := gw_pure m43 f43_63 rfl
theorem f43_65 : gm_ft 43 65 = some (.invokevirtual 151, 3) := by decide +kernel
theorem c43_65 {E : Nat → Value} {d : Nat} {st : List Value} {h : gm_H} {Q : gm_R → gm_H → Prop} {lv : List Value} {b0 : Int32} {a : Nat} {Qc : gm_R → gm_H → Prop} (hs : (st.map fun v => v.category).sum ≤ 8) (hr : gm_kd h a = 5) (hd : 1 ≤ d) (hc : gm_Ca E (d - 1) 10 [.ref a, .int b0] h Qc) (kn : ∀ (v9 : Option Value) (h9 : gm_H), Qc (.inl v9) h9 → gm_W E d 43 68 lv (v9.toList ++ st) h9 Q) (kx : ∀ (x9 : Nat) (h9 : gm_H), Qc (.inr x9) h9 → Q (.inr x9) h9) : gm_W E d 43 65 lv (.int b0 :: .ref a :: st) h Q := gw_call (gn_call m43 f43_65 rfl rfl rfl rfl rfl rfl rfl (gs_virt (bs := [.int b0]) (w := 844) (L := 2) rfl rfl rfl rfl hs (by simp [gm_en1]) hr (by decide)) (by decide)) m43 rfl rfl hd hc kn kx
theorem f43_68 : gm_ft 43 68 = some (.aload_n 0, 1) := by decide +kernel
theorem r43_68 {E : Nat → Value} {d : Nat} {st : List Value} {h : gm_H} {Q : gm_R → gm_H → Prop} {a1 : Value} {x : Nat} : gm_W E d 43 68 [.ref x, a1] st h Q ↔ gm_W E d 43 69 [.ref x, a1] (.ref x :: st) h Q := gw_loc m43 f43_68 rfl rfl
theorem r43_68n {E : Nat → Value} {d : Nat} {st : List Value} {h : gm_H} {Q : gm_R → gm_H → Prop} {a1 : Value}  : gm_W E d 43 68 [.null, a1] st h Q ↔ gm_W E d 43 69 [.null, a1] (.null :: st) h Q := gw_loc m43 f43_68 rfl rfl
theorem f43_69 : gm_ft 43 69 = some (.getfield 145, 3) := by decide +kernel
theorem r43_69 {E : Nat → Value} {d : Nat} {st : List Value} {h : gm_H} {Q : gm_R → gm_H → Prop} {lv : List Value} {a : Nat} (hk : gm_kd h a = 5) : gm_W E d 43 69 lv (.ref a :: st) h Q ↔ gm_W E d 43 72 lv (gm_fv h a 8 :: st) h Q := gw_rd m43 f43_69 rfl rfl rfl rfl (gs_get k5_145 hk (by decide))
theorem f43_72 : gm_ft 43 72 = some (.ifCond .ne 13, 3) := by decide +kernel
theorem r43_72 {E : Nat → Value} {d : Nat} {st : List Value} {h : gm_H} {Q : gm_R → gm_H → Prop} {lv : List Value} {x : Int32} : gm_W E d 43 72 lv (.int x :: st) h Q ↔ (if x = 0 then gm_W E d 43 75 lv st h Q else gm_W E d 43 85 lv st h Q) := (gw_br m43 f43_72 rfl rfl rfl rfl).trans gw_ifn
theorem f43_75 : gm_ft 43 75 = some (.aload_n 0, 1) := by decide +kernel
theorem r43_75 {E : Nat → Value} {d : Nat} {st : List Value} {h : gm_H} {Q : gm_R → gm_H → Prop} {a1 : Value} {x : Nat} : gm_W E d 43 75 [.ref x, a1] st h Q ↔ gm_W E d 43 76 [.ref x, a1] (.ref x :: st) h Q := gw_loc m43 f43_75 rfl rfl
theorem r43_75n {E : Nat → Value} {d : Nat} {st : List Value} {h : gm_H} {Q : gm_R → gm_H → Prop} {a1 : Value}  : gm_W E d 43 75 [.null, a1] st h Q ↔ gm_W E d 43 76 [.null, a1] (.null :: st) h Q := gw_loc m43 f43_75 rfl rfl
theorem f43_76 : gm_ft 43 76 = some (.dup, 1) := by decide +kernel
theorem r43_76 {E : Nat → Value} {d : Nat} {st : List Value} {h : gm_H} {Q : gm_R → gm_H → Prop} {lv : List Value} {a : Nat} : gm_W E d 43 76 lv (.ref a :: st) h Q ↔ gm_W E d 43 77 lv (.ref a :: .ref a :: st) h Q := gw_pure m43 f43_76 rfl
theorem r43_76i {E : Nat → Value} {d : Nat} {st : List Value} {h : gm_H} {Q : gm_R → gm_H → Prop} {lv : List Value} {x : Int32} : gm_W E d 43 76 lv (.int x :: st) h Q ↔ gm_W E d 43 77 lv (.int x :: .int x :: st) h Q := gw_pure m43 f43_76 rfl
theorem f43_77 : gm_ft 43 77 = some (.getfield 148, 3) := by decide +kernel
theorem r43_77 {E : Nat → Value} {d : Nat} {st : List Value} {h : gm_H} {Q : gm_R → gm_H → Prop} {lv : List Value} {a : Nat} (hk : gm_kd h a = 5) : gm_W E d 43 77 lv (.ref a :: st) h Q ↔ gm_W E d 43 80 lv (gm_fv h a 6 :: st) h Q := gw_rd m43 f43_77 rfl rfl rfl rfl (gs_get k5_148 hk (by decide))
theorem f43_80 : gm_ft 43 80 = some (.iload_n 1, 1) := by decide +kernel
theorem r43_80 {E : Nat → Value} {d : Nat} {st : List Value} {h : gm_H} {Q : gm_R → gm_H → Prop} {a0 : Value} {x : Int32} : gm_W E d 43 80 [a0, .int x] st h Q ↔ gm_W E d 43 81 [a0, .int x] (.int x :: st) h Q := gw_loc m43 f43_80 rfl rfl
theorem f43_81 : gm_ft 43 81 = some (.iadd, 1) := by decide +kernel
theorem r43_81 {E : Nat → Value} {d : Nat} {st : List Value} {h : gm_H} {Q : gm_R → gm_H → Prop} {lv : List Value} {x y : Int32} : gm_W E d 43 81 lv (.int y :: .int x :: st) h Q ↔ gm_W E d 43 82 lv (.int (x + y) :: st) h Q := gw_pure m43 f43_81 rfl
theorem f43_82 : gm_ft 43 82 = some (.putfield 148, 3) := by decide +kernel
theorem r43_82 {E : Nat → Value} {d : Nat} {st : List Value} {h : gm_H} {Q : gm_R → gm_H → Prop} {lv : List Value} {a : Nat} {x : Int32} (hk : gm_kd h a = 5) : gm_W E d 43 82 lv (.int x :: .ref a :: st) h Q ↔ gm_W E d 43 85 lv st (gm_sf h a 6 (.int x)) Q := gw_wr m43 f43_82 rfl rfl rfl rfl rfl (gs_put k5_148 hk (by decide) (by decide) ⟨rfl, rfl⟩ (by decide))
theorem f43_85 : gm_ft 43 85 = some (.iload_n 1, 1) := by decide +kernel
theorem r43_85 {E : Nat → Value} {d : Nat} {st : List Value} {h : gm_H} {Q : gm_R → gm_H → Prop} {a0 : Value} {x : Int32} : gm_W E d 43 85 [a0, .int x] st h Q ↔ gm_W E d 43 86 [a0, .int x] (.int x :: st) h Q := gw_loc m43 f43_85 rfl rfl
theorem f43_86 : gm_ft 43 86 = some (.ireturn, 1) := by decide +kernel
theorem r43_86 {E : Nat → Value} {d : Nat} {h : gm_H} {Q : gm_R → gm_H → Prop} {lv : List Value} {x : Int32} : gm_W E d 43 86 lv [.int x] h Q ↔ Q (.inl (some (.int x))) h := gw_ret m43 f43_86 rfl rfl rfl rfl rfl rfl rfl rfl (by unfold gm_rt; dsimp only; rw [if_pos ⟨rfl, rfl⟩])
/-! GraphReaderModel.stepRest(I)V -/
theorem m44 : gm_mt[44]? = some (⟨"GraphReaderModel", "stepRest", "(I)V"⟩, prog_7_method_43_code, 4, none, [], 5, 2) := rfl
theorem f44_0 : gm_ft 44 0 = some (.aload_n 0, 1) := by decide +kernel
theorem r44_0 {E : Nat → Value} {d : Nat} {st : List Value} {h : gm_H} {Q : gm_R → gm_H → Prop} {a1 a2 a3 : Value} {x : Nat} : gm_W E d 44 0 [.ref x, a1, a2, a3] st h Q ↔ gm_W E d 44 1 [.ref x, a1, a2, a3] (.ref x :: st) h Q := gw_loc m44 f44_0 rfl rfl
theorem r44_0n {E : Nat → Value} {d : Nat} {st : List Value} {h : gm_H} {Q : gm_R → gm_H → Prop} {a1 a2 a3 : Value}  : gm_W E d 44 0 [.null, a1, a2, a3] st h Q ↔ gm_W E d 44 1 [.null, a1, a2, a3] (.null :: st) h Q := gw_loc m44 f44_0 rfl rfl
theorem f44_1 : gm_ft 44 1 = some (.getfield 148, 3) := by decide +kernel
theorem r44_1 {E : Nat → Value} {d : Nat} {st : List Value} {h : gm_H} {Q : gm_R → gm_H → Prop} {lv : List Value} {a : Nat} (hk : gm_kd h a = 5) : gm_W E d 44 1 lv (.ref a :: st) h Q ↔ gm_W E d 44 4 lv (gm_fv h a 6 :: st) h Q := gw_rd m44 f44_1 rfl rfl rfl rfl (gs_get k5_148 hk (by decide))
theorem f44_4 : gm_ft 44 4 = some (.aload_n 0, 1) := by decide +kernel
theorem r44_4 {E : Nat → Value} {d : Nat} {st : List Value} {h : gm_H} {Q : gm_R → gm_H → Prop} {a1 a2 a3 : Value} {x : Nat} : gm_W E d 44 4 [.ref x, a1, a2, a3] st h Q ↔ gm_W E d 44 5 [.ref x, a1, a2, a3] (.ref x :: st) h Q := gw_loc m44 f44_4 rfl rfl
theorem r44_4n {E : Nat → Value} {d : Nat} {st : List Value} {h : gm_H} {Q : gm_R → gm_H → Prop} {a1 a2 a3 : Value}  : gm_W E d 44 4 [.null, a1, a2, a3] st h Q ↔ gm_W E d 44 5 [.null, a1, a2, a3] (.null :: st) h Q := gw_loc m44 f44_4 rfl rfl
theorem f44_5 : gm_ft 44 5 = some (.getfield 142, 3) := by decide +kernel
theorem r44_5 {E : Nat → Value} {d : Nat} {st : List Value} {h : gm_H} {Q : gm_R → gm_H → Prop} {lv : List Value} {a : Nat} (hk : gm_kd h a = 5) : gm_W E d 44 5 lv (.ref a :: st) h Q ↔ gm_W E d 44 8 lv (gm_fv h a 5 :: st) h Q := gw_rd m44 f44_5 rfl rfl rfl rfl (gs_get k5_142 hk (by decide))
theorem f44_8 : gm_ft 44 8 = some (.if_icmp .ge 15, 3) := by decide +kernel
theorem r44_8 {E : Nat → Value} {d : Nat} {st : List Value} {h : gm_H} {Q : gm_R → gm_H → Prop} {lv : List Value} {x y : Int32} : gm_W E d 44 8 lv (.int y :: .int x :: st) h Q ↔ (if y ≤ x then gm_W E d 44 23 lv st h Q else gm_W E d 44 11 lv st h Q) := (gw_br m44 f44_8 rfl rfl rfl rfl).trans gw_if
theorem f44_11 : gm_ft 44 11 = some (.aload_n 0, 1) := by decide +kernel
theorem r44_11 {E : Nat → Value} {d : Nat} {st : List Value} {h : gm_H} {Q : gm_R → gm_H → Prop} {a1 a2 a3 : Value} {x : Nat} : gm_W E d 44 11 [.ref x, a1, a2, a3] st h Q ↔ gm_W E d 44 12 [.ref x, a1, a2, a3] (.ref x :: st) h Q := gw_loc m44 f44_11 rfl rfl
theorem r44_11n {E : Nat → Value} {d : Nat} {st : List Value} {h : gm_H} {Q : gm_R → gm_H → Prop} {a1 a2 a3 : Value}  : gm_W E d 44 11 [.null, a1, a2, a3] st h Q ↔ gm_W E d 44 12 [.null, a1, a2, a3] (.null :: st) h Q := gw_loc m44 f44_11 rfl rfl
theorem f44_12 : gm_ft 44 12 = some (.getfield 7, 3) := by decide +kernel
theorem r44_12 {E : Nat → Value} {d : Nat} {st : List Value} {h : gm_H} {Q : gm_R → gm_H → Prop} {lv : List Value} {a : Nat} (hk : gm_kd h a = 5) : gm_W E d 44 12 lv (.ref a :: st) h Q ↔ gm_W E d 44 15 lv (gm_fv h a 4 :: st) h Q := gw_rd m44 f44_12 rfl rfl rfl rfl (gs_get k5_7 hk (by decide))
theorem f44_15 : gm_ft 44 15 = some (.aload_n 0, 1) := by decide +kernel
theorem r44_15 {E : Nat → Value} {d : Nat} {st : List Value} {h : gm_H} {Q : gm_R → gm_H → Prop} {a1 a2 a3 : Value} {x : Nat} : gm_W E d 44 15 [.ref x, a1, a2, a3] st h Q ↔ gm_W E d 44 16 [.ref x, a1, a2, a3] (.ref x :: st) h Q := gw_loc m44 f44_15 rfl rfl
theorem r44_15n {E : Nat → Value} {d : Nat} {st : List Value} {h : gm_H} {Q : gm_R → gm_H → Prop} {a1 a2 a3 : Value}  : gm_W E d 44 15 [.null, a1, a2, a3] st h Q ↔ gm_W E d 44 16 [.null, a1, a2, a3] (.null :: st) h Q := gw_loc m44 f44_15 rfl rfl
theorem f44_16 : gm_ft 44 16 = some (.getfield 148, 3) := by decide +kernel
theorem r44_16 {E : Nat → Value} {d : Nat} {st : List Value} {h : gm_H} {Q : gm_R → gm_H → Prop} {lv : List Value} {a : Nat} (hk : gm_kd h a = 5) : gm_W E d 44 16 lv (.ref a :: st) h Q ↔ gm_W E d 44 19 lv (gm_fv h a 6 :: st) h Q := gw_rd m44 f44_16 rfl rfl rfl rfl (gs_get k5_148 hk (by decide))
theorem f44_19 : gm_ft 44 19 = some (.iaload, 1) := by decide +kernel
theorem r44_19 {E : Nat → Value} {d : Nat} {st : List Value} {h : gm_H} {Q : gm_R → gm_H → Prop} {lv : List Value} {a j : Nat} (hk : gm_kd h a % 100 = 0 ∧ 100 ≤ gm_kd h a ∧ gm_kd h a < 900) (hj : j < gm_ln h a) (hl : gm_ln h a < 2 ^ 31) : gm_W E d 44 19 lv (.int (nI j) :: .ref a :: st) h Q ↔ gm_W E d 44 20 lv (gm_fv h a j :: st) h Q := gw_rd m44 f44_19 rfl rfl rfl rfl (gs_ld (P := fun t => t == 0) hk.2 (by have := hk.1; simp [this] <;> omega) hj hl)
theorem f44_20 : gm_ft 44 20 = some (.goto 4, 3) := by decide +kernel
theorem r44_20 {E : Nat → Value} {d : Nat} {st : List Value} {h : gm_H} {Q : gm_R → gm_H → Prop} {lv : List Value} : gm_W E d 44 20 lv st h Q ↔ gm_W E d 44 24 lv st h Q := gw_brT m44 f44_20 rfl rfl rfl rfl
theorem f44_23 : gm_ft 44 23 = some (.iconst (-1), 1) := by decide +kernel
theorem r44_23 {E : Nat → Value} {d : Nat} {st : List Value} {h : gm_H} {Q : gm_R → gm_H → Prop} {lv : List Value} : gm_W E d 44 23 lv st h Q ↔ gm_W E d 44 24 lv (.int (-1 : Int32) :: st) h Q := gw_pure m44 f44_23 rfl
theorem f44_24 : gm_ft 44 24 = some (.istore_n 2, 1) := by decide +kernel
theorem r44_24 {E : Nat → Value} {d : Nat} {st : List Value} {h : gm_H} {Q : gm_R → gm_H → Prop} {a0 a1 a2 a3 : Value} {x : Int32} : gm_W E d 44 24 [a0, a1, a2, a3] (.int x :: st) h Q ↔ gm_W E d 44 25 [a0, gm_k a1, .int x, a3] st h Q := gw_loc m44 f44_24 rfl rfl
theorem f44_25 : gm_ft 44 25 = some (.iload_n 2, 1) := by decide +kernel
theorem r44_25 {E : Nat → Value} {d : Nat} {st : List Value} {h : gm_H} {Q : gm_R → gm_H → Prop} {a0 a1 a3 : Value} {x : Int32} : gm_W E d 44 25 [a0, a1, .int x, a3] st h Q ↔ gm_W E d 44 26 [a0, a1, .int x, a3] (.int x :: st) h Q := gw_loc m44 f44_25 rfl rfl
theorem f44_26 : gm_ft 44 26 = some (.bipush 120, 2) := by decide +kernel
theorem r44_26 {E : Nat → Value} {d : Nat} {st : List Value} {h : gm_H} {Q : gm_R → gm_H → Prop} {lv : List Value} : gm_W E d 44 26 lv st h Q ↔ gm_W E d 44 28 lv (.int (120 : Int32) :: st) h Q := gw_pure m44 f44_26 rfl
theorem f44_28 : gm_ft 44 28 = some (.if_icmp .ne 21, 3) := by decide +kernel
theorem r44_28 {E : Nat → Value} {d : Nat} {st : List Value} {h : gm_H} {Q : gm_R → gm_H → Prop} {lv : List Value} {x y : Int32} : gm_W E d 44 28 lv (.int y :: .int x :: st) h Q ↔ (if x = y then gm_W E d 44 31 lv st h Q else gm_W E d 44 49 lv st h Q) := (gw_br m44 f44_28 rfl rfl rfl rfl).trans gw_ifn
theorem f44_31 : gm_ft 44 31 = some (.aload_n 0, 1) := by decide +kernel
theorem r44_31 {E : Nat → Value} {d : Nat} {st : List Value} {h : gm_H} {Q : gm_R → gm_H → Prop} {a1 a2 a3 : Value} {x : Nat} : gm_W E d 44 31 [.ref x, a1, a2, a3] st h Q ↔ gm_W E d 44 32 [.ref x, a1, a2, a3] (.ref x :: st) h Q := gw_loc m44 f44_31 rfl rfl
theorem r44_31n {E : Nat → Value} {d : Nat} {st : List Value} {h : gm_H} {Q : gm_R → gm_H → Prop} {a1 a2 a3 : Value}  : gm_W E d 44 31 [.null, a1, a2, a3] st h Q ↔ gm_W E d 44 32 [.null, a1, a2, a3] (.null :: st) h Q := gw_loc m44 f44_31 rfl rfl
theorem f44_32 : gm_ft 44 32 = some (.dup, 1) := by decide +kernel
theorem r44_32 {E : Nat → Value} {d : Nat} {st : List Value} {h : gm_H} {Q : gm_R → gm_H → Prop} {lv : List Value} {a : Nat} : gm_W E d 44 32 lv (.ref a :: st) h Q ↔ gm_W E d 44 33 lv (.ref a :: .ref a :: st) h Q := gw_pure m44 f44_32 rfl
theorem r44_32i {E : Nat → Value} {d : Nat} {st : List Value} {h : gm_H} {Q : gm_R → gm_H → Prop} {lv : List Value} {x : Int32} : gm_W E d 44 32 lv (.int x :: st) h Q ↔ gm_W E d 44 33 lv (.int x :: .int x :: st) h Q := gw_pure m44 f44_32 rfl
theorem f44_33 : gm_ft 44 33 = some (.getfield 148, 3) := by decide +kernel
theorem r44_33 {E : Nat → Value} {d : Nat} {st : List Value} {h : gm_H} {Q : gm_R → gm_H → Prop} {lv : List Value} {a : Nat} (hk : gm_kd h a = 5) : gm_W E d 44 33 lv (.ref a :: st) h Q ↔ gm_W E d 44 36 lv (gm_fv h a 6 :: st) h Q := gw_rd m44 f44_33 rfl rfl rfl rfl (gs_get k5_148 hk (by decide))
theorem f44_36 : gm_ft 44 36 = some (.iconst 1, 1) := by decide +kernel
theorem r44_36 {E : Nat → Value} {d : Nat} {st : List Value} {h : gm_H} {Q : gm_R → gm_H → Prop} {lv : List Value} : gm_W E d 44 36 lv st h Q ↔ gm_W E d 44 37 lv (.int (1 : Int32) :: st) h Q := gw_pure m44 f44_36 rfl
theorem f44_37 : gm_ft 44 37 = some (.iadd, 1) := by decide +kernel
theorem r44_37 {E : Nat → Value} {d : Nat} {st : List Value} {h : gm_H} {Q : gm_R → gm_H → Prop} {lv : List Value} {x y : Int32} : gm_W E d 44 37 lv (.int y :: .int x :: st) h Q ↔ gm_W E d 44 38 lv (.int (x + y) :: st) h Q := gw_pure m44 f44_37 rfl
theorem f44_38 : gm_ft 44 38 = some (.putfield 148, 3) := by decide +kernel
theorem r44_38 {E : Nat → Value} {d : Nat} {st : List Value} {h : gm_H} {Q : gm_R → gm_H → Prop} {lv : List Value} {a : Nat} {x : Int32} (hk : gm_kd h a = 5) : gm_W E d 44 38 lv (.int x :: .ref a :: st) h Q ↔ gm_W E d 44 41 lv st (gm_sf h a 6 (.int x)) Q := gw_wr m44 f44_38 rfl rfl rfl rfl rfl (gs_put k5_148 hk (by decide) (by decide) ⟨rfl, rfl⟩ (by decide))
theorem f44_41 : gm_ft 44 41 = some (.aload_n 0, 1) := by decide +kernel
theorem r44_41 {E : Nat → Value} {d : Nat} {st : List Value} {h : gm_H} {Q : gm_R → gm_H → Prop} {a1 a2 a3 : Value} {x : Nat} : gm_W E d 44 41 [.ref x, a1, a2, a3] st h Q ↔ gm_W E d 44 42 [.ref x, a1, a2, a3] (.ref x :: st) h Q := gw_loc m44 f44_41 rfl rfl
theorem r44_41n {E : Nat → Value} {d : Nat} {st : List Value} {h : gm_H} {Q : gm_R → gm_H → Prop} {a1 a2 a3 : Value}  : gm_W E d 44 41 [.null, a1, a2, a3] st h Q ↔ gm_W E d 44 42 [.null, a1, a2, a3] (.null :: st) h Q := gw_loc m44 f44_41 rfl rfl
theorem f44_42 : gm_ft 44 42 = some (.iconst 0, 1) := by decide +kernel
theorem r44_42 {E : Nat → Value} {d : Nat} {st : List Value} {h : gm_H} {Q : gm_R → gm_H → Prop} {lv : List Value} : gm_W E d 44 42 lv st h Q ↔ gm_W E d 44 43 lv (.int (0 : Int32) :: st) h Q := gw_pure m44 f44_42 rfl
theorem f44_43 : gm_ft 44 43 = some (.invokevirtual 182, 3) := by decide +kernel
theorem c44_43 {E : Nat → Value} {d : Nat} {st : List Value} {h : gm_H} {Q : gm_R → gm_H → Prop} {lv : List Value} {b0 : Int32} {a : Nat} {Qc : gm_R → gm_H → Prop} (hs : (st.map fun v => v.category).sum ≤ 8) (hr : gm_kd h a = 5) (hd : 1 ≤ d) (hc : gm_Ca E (d - 1) 16 [.ref a, .int b0] h Qc) (kn : ∀ (v9 : Option Value) (h9 : gm_H), Qc (.inl v9) h9 → gm_W E d 44 46 lv (v9.toList ++ st) h9 Q) (kx : ∀ (x9 : Nat) (h9 : gm_H), Qc (.inr x9) h9 → Q (.inr x9) h9) : gm_W E d 44 43 lv (.int b0 :: .ref a :: st) h Q := gw_call (gn_call m44 f44_43 rfl rfl rfl rfl rfl rfl rfl (gs_virt (bs := [.int b0]) (w := 872) (L := 2) rfl rfl rfl rfl hs (by simp [gm_en1]) hr (by decide)) (by decide)) m44 rfl rfl hd hc kn kx
theorem f44_46 : gm_ft 44 46 = some (.goto 38, 3) := by decide +kernel
theorem r44_46 {E : Nat → Value} {d : Nat} {st : List Value} {h : gm_H} {Q : gm_R → gm_H → Prop} {lv : List Value} : gm_W E d 44 46 lv st h Q ↔ gm_W E d 44 84 lv st h Q := gw_brT m44 f44_46 rfl rfl rfl rfl
theorem f44_49 : gm_ft 44 49 = some (.iload_n 2, 1) := by decide +kernel
theorem r44_49 {E : Nat → Value} {d : Nat} {st : List Value} {h : gm_H} {Q : gm_R → gm_H → Prop} {a0 a1 a3 : Value} {x : Int32} : gm_W E d 44 49 [a0, a1, .int x, a3] st h Q ↔ gm_W E d 44 50 [a0, a1, .int x, a3] (.int x :: st) h Q := gw_loc m44 f44_49 rfl rfl
theorem f44_50 : gm_ft 44 50 = some (.bipush 119, 2) := by decide +kernel
theorem r44_50 {E : Nat → Value} {d : Nat} {st : List Value} {h : gm_H} {Q : gm_R → gm_H → Prop} {lv : List Value} : gm_W E d 44 50 lv st h Q ↔ gm_W E d 44 52 lv (.int (119 : Int32) :: st) h Q := gw_pure m44 f44_50 rfl
theorem f44_52 : gm_ft 44 52 = some (.if_icmp .eq 9, 3) := by decide +kernel
theorem r44_52 {E : Nat → Value} {d : Nat} {st : List Value} {h : gm_H} {Q : gm_R → gm_H → Prop} {lv : List Value} {x y : Int32} : gm_W E d 44 52 lv (.int y :: .int x :: st) h Q ↔ (if x = y then gm_W E d 44 61 lv st h Q else gm_W E d 44 55 lv st h Q) := (gw_br m44 f44_52 rfl rfl rfl rfl).trans gw_if
theorem f44_55 : gm_ft 44 55 = some (.iload_n 2, 1) := by decide +kernel
theorem r44_55 {E : Nat → Value} {d : Nat} {st : List Value} {h : gm_H} {Q : gm_R → gm_H → Prop} {a0 a1 a3 : Value} {x : Int32} : gm_W E d 44 55 [a0, a1, .int x, a3] st h Q ↔ gm_W E d 44 56 [a0, a1, .int x, a3] (.int x :: st) h Q := gw_loc m44 f44_55 rfl rfl
theorem f44_56 : gm_ft 44 56 = some (.bipush 122, 2) := by decide +kernel
theorem r44_56 {E : Nat → Value} {d : Nat} {st : List Value} {h : gm_H} {Q : gm_R → gm_H → Prop} {lv : List Value} : gm_W E d 44 56 lv st h Q ↔ gm_W E d 44 58 lv (.int (122 : Int32) :: st) h Q := gw_pure m44 f44_56 rfl
theorem f44_58 : gm_ft 44 58 = some (.if_icmp .ne 11, 3) := by decide +kernel
theorem r44_58 {E : Nat → Value} {d : Nat} {st : List Value} {h : gm_H} {Q : gm_R → gm_H → Prop} {lv : List Value} {x y : Int32} : gm_W E d 44 58 lv (.int y :: .int x :: st) h Q ↔ (if x = y then gm_W E d 44 61 lv st h Q else gm_W E d 44 69 lv st h Q) := (gw_br m44 f44_58 rfl rfl rfl rfl).trans gw_ifn
theorem f44_61 : gm_ft 44 61 = some (.aload_n 0, 1) := by decide +kernel
theorem r44_61 {E : Nat → Value} {d : Nat} {st : List Value} {h : gm_H} {Q : gm_R → gm_H → Prop} {a1 a2 a3 : Value} {x : Nat} : gm_W E d 44 61 [.ref x, a1, a2, a3] st h Q ↔ gm_W E d 44 62 [.ref x, a1, a2, a3] (.ref x :: st) h Q := gw_loc m44 f44_61 rfl rfl
theorem r44_61n {E : Nat → Value} {d : Nat} {st : List Value} {h : gm_H} {Q : gm_R → gm_H → Prop} {a1 a2 a3 : Value}  : gm_W E d 44 61 [.null, a1, a2, a3] st h Q ↔ gm_W E d 44 62 [.null, a1, a2, a3] (.null :: st) h Q := gw_loc m44 f44_61 rfl rfl
theorem f44_62 : gm_ft 44 62 = some (.invokevirtual 277, 3) := by decide +kernel
theorem c44_62 {E : Nat → Value} {d : Nat} {st : List Value} {h : gm_H} {Q : gm_R → gm_H → Prop} {lv : List Value} {a : Nat} {Qc : gm_R → gm_H → Prop} (hs : (st.map fun v => v.category).sum ≤ 8) (hr : gm_kd h a = 5) (hd : 1 ≤ d) (hc : gm_Ca E (d - 1) 43 [.ref a] h Qc) (kn : ∀ (v9 : Option Value) (h9 : gm_H), Qc (.inl v9) h9 → gm_W E d 44 65 lv (v9.toList ++ st) h9 Q) (kx : ∀ (x9 : Nat) (h9 : gm_H), Qc (.inr x9) h9 → Q (.inr x9) h9) : gm_W E d 44 62 lv (.ref a :: st) h Q := gw_call (gn_call m44 f44_62 rfl rfl rfl rfl rfl rfl rfl (gs_virt (bs := []) (w := 989) (L := 2) rfl rfl rfl rfl hs (by simp [gm_en1]) hr (by decide)) (by decide)) m44 rfl rfl hd hc kn kx
theorem f44_65 : gm_ft 44 65 = some (.istore_n 3, 1) := by decide +kernel
theorem r44_65 {E : Nat → Value} {d : Nat} {st : List Value} {h : gm_H} {Q : gm_R → gm_H → Prop} {a0 a1 a2 a3 : Value} {x : Int32} : gm_W E d 44 65 [a0, a1, a2, a3] (.int x :: st) h Q ↔ gm_W E d 44 66 [a0, a1, gm_k a2, .int x] st h Q := gw_loc m44 f44_65 rfl rfl
theorem f44_66 : gm_ft 44 66 = some (.goto 18, 3) := by decide +kernel
theorem r44_66 {E : Nat → Value} {d : Nat} {st : List Value} {h : gm_H} {Q : gm_R → gm_H → Prop} {lv : List Value} : gm_W E d 44 66 lv st h Q ↔ gm_W E d 44 84 lv st h Q := gw_brT m44 f44_66 rfl rfl rfl rfl
theorem f44_69 : gm_ft 44 69 = some (.aload_n 0, 1) := by decide +kernel
theorem r44_69 {E : Nat → Value} {d : Nat} {st : List Value} {h : gm_H} {Q : gm_R → gm_H → Prop} {a1 a2 a3 : Value} {x : Nat} : gm_W E d 44 69 [.ref x, a1, a2, a3] st h Q ↔ gm_W E d 44 70 [.ref x, a1, a2, a3] (.ref x :: st) h Q := gw_loc m44 f44_69 rfl rfl
theorem r44_69n {E : Nat → Value} {d : Nat} {st : List Value} {h : gm_H} {Q : gm_R → gm_H → Prop} {a1 a2 a3 : Value}  : gm_W E d 44 69 [.null, a1, a2, a3] st h Q ↔ gm_W E d 44 70 [.null, a1, a2, a3] (.null :: st) h Q := gw_loc m44 f44_69 rfl rfl
theorem f44_70 : gm_ft 44 70 = some (.iconst 1, 1) := by decide +kernel
theorem r44_70 {E : Nat → Value} {d : Nat} {st : List Value} {h : gm_H} {Q : gm_R → gm_H → Prop} {lv : List Value} : gm_W E d 44 70 lv st h Q ↔ gm_W E d 44 71 lv (.int (1 : Int32) :: st) h Q := gw_pure m44 f44_70 rfl
theorem f44_71 : gm_ft 44 71 = some (.aload_n 0, 1) := by decide +kernel
theorem r44_71 {E : Nat → Value} {d : Nat} {st : List Value} {h : gm_H} {Q : gm_R → gm_H → Prop} {a1 a2 a3 : Value} {x : Nat} : gm_W E d 44 71 [.ref x, a1, a2, a3] st h Q ↔ gm_W E d 44 72 [.ref x, a1, a2, a3] (.ref x :: st) h Q := gw_loc m44 f44_71 rfl rfl
theorem r44_71n {E : Nat → Value} {d : Nat} {st : List Value} {h : gm_H} {Q : gm_R → gm_H → Prop} {a1 a2 a3 : Value}  : gm_W E d 44 71 [.null, a1, a2, a3] st h Q ↔ gm_W E d 44 72 [.null, a1, a2, a3] (.null :: st) h Q := gw_loc m44 f44_71 rfl rfl
theorem f44_72 : gm_ft 44 72 = some (.getfield 99, 3) := by decide +kernel
theorem r44_72 {E : Nat → Value} {d : Nat} {st : List Value} {h : gm_H} {Q : gm_R → gm_H → Prop} {lv : List Value} {a : Nat} (hk : gm_kd h a = 5) : gm_W E d 44 72 lv (.ref a :: st) h Q ↔ gm_W E d 44 75 lv (gm_fv h a 42 :: st) h Q := gw_rd m44 f44_72 rfl rfl rfl rfl (gs_get k5_99 hk (by decide))
theorem f44_75 : gm_ft 44 75 = some (.iload_n 1, 1) := by decide +kernel
theorem r44_75 {E : Nat → Value} {d : Nat} {st : List Value} {h : gm_H} {Q : gm_R → gm_H → Prop} {a0 a2 a3 : Value} {x : Int32} : gm_W E d 44 75 [a0, .int x, a2, a3] st h Q ↔ gm_W E d 44 76 [a0, .int x, a2, a3] (.int x :: st) h Q := gw_loc m44 f44_75 rfl rfl
theorem f44_76 : gm_ft 44 76 = some (.iaload, 1) := by decide +kernel
theorem r44_76 {E : Nat → Value} {d : Nat} {st : List Value} {h : gm_H} {Q : gm_R → gm_H → Prop} {lv : List Value} {a j : Nat} (hk : gm_kd h a % 100 = 0 ∧ 100 ≤ gm_kd h a ∧ gm_kd h a < 900) (hj : j < gm_ln h a) (hl : gm_ln h a < 2 ^ 31) : gm_W E d 44 76 lv (.int (nI j) :: .ref a :: st) h Q ↔ gm_W E d 44 77 lv (gm_fv h a j :: st) h Q := gw_rd m44 f44_76 rfl rfl rfl rfl (gs_ld (P := fun t => t == 0) hk.2 (by have := hk.1; simp [this] <;> omega) hj hl)
theorem f44_77 : gm_ft 44 77 = some (.iconst 1, 1) := by decide +kernel
theorem r44_77 {E : Nat → Value} {d : Nat} {st : List Value} {h : gm_H} {Q : gm_R → gm_H → Prop} {lv : List Value} : gm_W E d 44 77 lv st h Q ↔ gm_W E d 44 78 lv (.int (1 : Int32) :: st) h Q := gw_pure m44 f44_77 rfl
theorem f44_78 : gm_ft 44 78 = some (.iadd, 1) := by decide +kernel
theorem r44_78 {E : Nat → Value} {d : Nat} {st : List Value} {h : gm_H} {Q : gm_R → gm_H → Prop} {lv : List Value} {x y : Int32} : gm_W E d 44 78 lv (.int y :: .int x :: st) h Q ↔ gm_W E d 44 79 lv (.int (x + y) :: st) h Q := gw_pure m44 f44_78 rfl
theorem f44_79 : gm_ft 44 79 = some (.iconst 0, 1) := by decide +kernel
theorem r44_79 {E : Nat → Value} {d : Nat} {st : List Value} {h : gm_H} {Q : gm_R → gm_H → Prop} {lv : List Value} : gm_W E d 44 79 lv st h Q ↔ gm_W E d 44 80 lv (.int (0 : Int32) :: st) h Q := gw_pure m44 f44_79 rfl
theorem f44_80 : gm_ft 44 80 = some (.iconst 0, 1) := by decide +kernel
theorem r44_80 {E : Nat → Value} {d : Nat} {st : List Value} {h : gm_H} {Q : gm_R → gm_H → Prop} {lv : List Value} : gm_W E d 44 80 lv st h Q ↔ gm_W E d 44 81 lv (.int (0 : Int32) :: st) h Q := gw_pure m44 f44_80 rfl
theorem f44_81 : gm_ft 44 81 = some (.invokevirtual 200, 3) := by decide +kernel
theorem c44_81 {E : Nat → Value} {d : Nat} {st : List Value} {h : gm_H} {Q : gm_R → gm_H → Prop} {lv : List Value} {b0 : Int32} {b1 : Int32} {b2 : Int32} {b3 : Int32} {a : Nat} {Qc : gm_R → gm_H → Prop} (hs : (st.map fun v => v.category).sum ≤ 8) (hr : gm_kd h a = 5) (hd : 1 ≤ d) (hc : gm_Ca E (d - 1) 15 [.ref a, .int b0, .int b1, .int b2, .int b3] h Qc) (kn : ∀ (v9 : Option Value) (h9 : gm_H), Qc (.inl v9) h9 → gm_W E d 44 84 lv (v9.toList ++ st) h9 Q) (kx : ∀ (x9 : Nat) (h9 : gm_H), Qc (.inr x9) h9 → Q (.inr x9) h9) : gm_W E d 44 81 lv (.int b3 :: .int b2 :: .int b1 :: .int b0 :: .ref a :: st) h Q := gw_call (gn_call m44 f44_81 rfl rfl rfl rfl rfl rfl rfl (gs_virt (bs := [.int b3, .int b2, .int b1, .int b0]) (w := 856) (L := 5) rfl rfl rfl rfl hs (by simp [gm_en1]) hr (by decide)) (by decide)) m44 rfl rfl hd hc kn kx
theorem f44_84 : gm_ft 44 84 = some (.return_, 1) := by decide +kernel
theorem r44_84 {E : Nat → Value} {d : Nat} {h : gm_H} {Q : gm_R → gm_H → Prop} {lv : List Value} : gm_W E d 44 84 lv [] h Q ↔ Q (.inl none) h := gw_ret m44 f44_84 rfl rfl rfl rfl rfl rfl rfl rfl rfl
/-! GraphReaderModel.step()V -/
theorem m45 : gm_mt[45]? = some (⟨"GraphReaderModel", "step", "()V"⟩, prog_7_method_44_code, 2, none, [], 5, 2) := rfl
theorem f45_0 : gm_ft 45 0 = some (.aload_n 0, 1) := by decide +kernel
theorem r45_0 {E : Nat → Value} {d : Nat} {st : List Value} {h : gm_H} {Q : gm_R → gm_H → Prop} {a1 : Value} {x : Nat} : gm_W E d 45 0 [.ref x, a1] st h Q ↔ gm_W E d 45 1 [.ref x, a1] (.ref x :: st) h Q := gw_loc m45 f45_0 rfl rfl
theorem r45_0n {E : Nat → Value} {d : Nat} {st : List Value} {h : gm_H} {Q : gm_R → gm_H → Prop} {a1 : Value}  : gm_W E d 45 0 [.null, a1] st h Q ↔ gm_W E d 45 1 [.null, a1] (.null :: st) h Q := gw_loc m45 f45_0 rfl rfl
theorem f45_1 : gm_ft 45 1 = some (.getfield 175, 3) := by decide +kernel
theorem r45_1 {E : Nat → Value} {d : Nat} {st : List Value} {h : gm_H} {Q : gm_R → gm_H → Prop} {lv : List Value} {a : Nat} (hk : gm_kd h a = 5) : gm_W E d 45 1 lv (.ref a :: st) h Q ↔ gm_W E d 45 4 lv (gm_fv h a 47 :: st) h Q := gw_rd m45 f45_1 rfl rfl rfl rfl (gs_get k5_175 hk (by decide))
theorem f45_4 : gm_ft 45 4 = some (.iconst 1, 1) := by decide +kernel
theorem r45_4 {E : Nat → Value} {d : Nat} {st : List Value} {h : gm_H} {Q : gm_R → gm_H → Prop} {lv : List Value} : gm_W E d 45 4 lv st h Q ↔ gm_W E d 45 5 lv (.int (1 : Int32) :: st) h Q := gw_pure m45 f45_4 rfl
theorem f45_5 : gm_ft 45 5 = some (.isub, 1) := by decide +kernel
theorem r45_5 {E : Nat → Value} {d : Nat} {st : List Value} {h : gm_H} {Q : gm_R → gm_H → Prop} {lv : List Value} {x y : Int32} : gm_W E d 45 5 lv (.int y :: .int x :: st) h Q ↔ gm_W E d 45 6 lv (.int (x - y) :: st) h Q := gw_pure m45 f45_5 rfl
theorem f45_6 : gm_ft 45 6 = some (.istore_n 1, 1) := by decide +kernel
theorem r45_6 {E : Nat → Value} {d : Nat} {st : List Value} {h : gm_H} {Q : gm_R → gm_H → Prop} {a0 a1 : Value} {x : Int32} : gm_W E d 45 6 [a0, a1] (.int x :: st) h Q ↔ gm_W E d 45 7 [gm_k a0, .int x] st h Q := gw_loc m45 f45_6 rfl rfl
theorem f45_7 : gm_ft 45 7 = some (.aload_n 0, 1) := by decide +kernel
theorem r45_7 {E : Nat → Value} {d : Nat} {st : List Value} {h : gm_H} {Q : gm_R → gm_H → Prop} {a1 : Value} {x : Nat} : gm_W E d 45 7 [.ref x, a1] st h Q ↔ gm_W E d 45 8 [.ref x, a1] (.ref x :: st) h Q := gw_loc m45 f45_7 rfl rfl
theorem r45_7n {E : Nat → Value} {d : Nat} {st : List Value} {h : gm_H} {Q : gm_R → gm_H → Prop} {a1 : Value}  : gm_W E d 45 7 [.null, a1] st h Q ↔ gm_W E d 45 8 [.null, a1] (.null :: st) h Q := gw_loc m45 f45_7 rfl rfl
theorem f45_8 : gm_ft 45 8 = some (.getfield 93, 3) := by decide +kernel
theorem r45_8 {E : Nat → Value} {d : Nat} {st : List Value} {h : gm_H} {Q : gm_R → gm_H → Prop} {lv : List Value} {a : Nat} (hk : gm_kd h a = 5) : gm_W E d 45 8 lv (.ref a :: st) h Q ↔ gm_W E d 45 11 lv (gm_fv h a 40 :: st) h Q := gw_rd m45 f45_8 rfl rfl rfl rfl (gs_get k5_93 hk (by decide))
theorem f45_11 : gm_ft 45 11 = some (.iload_n 1, 1) := by decide +kernel
theorem r45_11 {E : Nat → Value} {d : Nat} {st : List Value} {h : gm_H} {Q : gm_R → gm_H → Prop} {a0 : Value} {x : Int32} : gm_W E d 45 11 [a0, .int x] st h Q ↔ gm_W E d 45 12 [a0, .int x] (.int x :: st) h Q := gw_loc m45 f45_11 rfl rfl
theorem f45_12 : gm_ft 45 12 = some (.iaload, 1) := by decide +kernel
theorem r45_12 {E : Nat → Value} {d : Nat} {st : List Value} {h : gm_H} {Q : gm_R → gm_H → Prop} {lv : List Value} {a j : Nat} (hk : gm_kd h a % 100 = 0 ∧ 100 ≤ gm_kd h a ∧ gm_kd h a < 900) (hj : j < gm_ln h a) (hl : gm_ln h a < 2 ^ 31) : gm_W E d 45 12 lv (.int (nI j) :: .ref a :: st) h Q ↔ gm_W E d 45 13 lv (gm_fv h a j :: st) h Q := gw_rd m45 f45_12 rfl rfl rfl rfl (gs_ld (P := fun t => t == 0) hk.2 (by have := hk.1; simp [this] <;> omega) hj hl)
theorem f45_13 : gm_ft 45 13 = some (.iconst 1, 1) := by decide +kernel
theorem r45_13 {E : Nat → Value} {d : Nat} {st : List Value} {h : gm_H} {Q : gm_R → gm_H → Prop} {lv : List Value} : gm_W E d 45 13 lv st h Q ↔ gm_W E d 45 14 lv (.int (1 : Int32) :: st) h Q := gw_pure m45 f45_13 rfl
theorem f45_14 : gm_ft 45 14 = some (.if_icmp .ne 11, 3) := by decide +kernel
theorem r45_14 {E : Nat → Value} {d : Nat} {st : List Value} {h : gm_H} {Q : gm_R → gm_H → Prop} {lv : List Value} {x y : Int32} : gm_W E d 45 14 lv (.int y :: .int x :: st) h Q ↔ (if x = y then gm_W E d 45 17 lv st h Q else gm_W E d 45 25 lv st h Q) := (gw_br m45 f45_14 rfl rfl rfl rfl).trans gw_ifn
theorem f45_17 : gm_ft 45 17 = some (.aload_n 0, 1) := by decide +kernel
theorem r45_17 {E : Nat → Value} {d : Nat} {st : List Value} {h : gm_H} {Q : gm_R → gm_H → Prop} {a1 : Value} {x : Nat} : gm_W E d 45 17 [.ref x, a1] st h Q ↔ gm_W E d 45 18 [.ref x, a1] (.ref x :: st) h Q := gw_loc m45 f45_17 rfl rfl
theorem r45_17n {E : Nat → Value} {d : Nat} {st : List Value} {h : gm_H} {Q : gm_R → gm_H → Prop} {a1 : Value}  : gm_W E d 45 17 [.null, a1] st h Q ↔ gm_W E d 45 18 [.null, a1] (.null :: st) h Q := gw_loc m45 f45_17 rfl rfl
theorem f45_18 : gm_ft 45 18 = some (.iload_n 1, 1) := by decide +kernel
theorem r45_18 {E : Nat → Value} {d : Nat} {st : List Value} {h : gm_H} {Q : gm_R → gm_H → Prop} {a0 : Value} {x : Int32} : gm_W E d 45 18 [a0, .int x] st h Q ↔ gm_W E d 45 19 [a0, .int x] (.int x :: st) h Q := gw_loc m45 f45_18 rfl rfl
theorem f45_19 : gm_ft 45 19 = some (.invokevirtual 280, 3) := by decide +kernel
theorem c45_19 {E : Nat → Value} {d : Nat} {st : List Value} {h : gm_H} {Q : gm_R → gm_H → Prop} {lv : List Value} {b0 : Int32} {a : Nat} {Qc : gm_R → gm_H → Prop} (hs : (st.map fun v => v.category).sum ≤ 8) (hr : gm_kd h a = 5) (hd : 1 ≤ d) (hc : gm_Ca E (d - 1) 30 [.ref a, .int b0] h Qc) (kn : ∀ (v9 : Option Value) (h9 : gm_H), Qc (.inl v9) h9 → gm_W E d 45 22 lv (v9.toList ++ st) h9 Q) (kx : ∀ (x9 : Nat) (h9 : gm_H), Qc (.inr x9) h9 → Q (.inr x9) h9) : gm_W E d 45 19 lv (.int b0 :: .ref a :: st) h Q := gw_call (gn_call m45 f45_19 rfl rfl rfl rfl rfl rfl rfl (gs_virt (bs := [.int b0]) (w := 864) (L := 2) rfl rfl rfl rfl hs (by simp [gm_en1]) hr (by decide)) (by decide)) m45 rfl rfl hd hc kn kx
theorem f45_22 : gm_ft 45 22 = some (.goto 44, 3) := by decide +kernel
theorem r45_22 {E : Nat → Value} {d : Nat} {st : List Value} {h : gm_H} {Q : gm_R → gm_H → Prop} {lv : List Value} : gm_W E d 45 22 lv st h Q ↔ gm_W E d 45 66 lv st h Q := gw_brT m45 f45_22 rfl rfl rfl rfl
theorem f45_25 : gm_ft 45 25 = some (.aload_n 0, 1) := by decide +kernel
theorem r45_25 {E : Nat → Value} {d : Nat} {st : List Value} {h : gm_H} {Q : gm_R → gm_H → Prop} {a1 : Value} {x : Nat} : gm_W E d 45 25 [.ref x, a1] st h Q ↔ gm_W E d 45 26 [.ref x, a1] (.ref x :: st) h Q := gw_loc m45 f45_25 rfl rfl
theorem r45_25n {E : Nat → Value} {d : Nat} {st : List Value} {h : gm_H} {Q : gm_R → gm_H → Prop} {a1 : Value}  : gm_W E d 45 25 [.null, a1] st h Q ↔ gm_W E d 45 26 [.null, a1] (.null :: st) h Q := gw_loc m45 f45_25 rfl rfl
theorem f45_26 : gm_ft 45 26 = some (.getfield 93, 3) := by decide +kernel
theorem r45_26 {E : Nat → Value} {d : Nat} {st : List Value} {h : gm_H} {Q : gm_R → gm_H → Prop} {lv : List Value} {a : Nat} (hk : gm_kd h a = 5) : gm_W E d 45 26 lv (.ref a :: st) h Q ↔ gm_W E d 45 29 lv (gm_fv h a 40 :: st) h Q := gw_rd m45 f45_26 rfl rfl rfl rfl (gs_get k5_93 hk (by decide))
theorem f45_29 : gm_ft 45 29 = some (.iload_n 1, 1) := by decide +kernel
theorem r45_29 {E : Nat → Value} {d : Nat} {st : List Value} {h : gm_H} {Q : gm_R → gm_H → Prop} {a0 : Value} {x : Int32} : gm_W E d 45 29 [a0, .int x] st h Q ↔ gm_W E d 45 30 [a0, .int x] (.int x :: st) h Q := gw_loc m45 f45_29 rfl rfl
theorem f45_30 : gm_ft 45 30 = some (.iaload, 1) := by decide +kernel
theorem r45_30 {E : Nat → Value} {d : Nat} {st : List Value} {h : gm_H} {Q : gm_R → gm_H → Prop} {lv : List Value} {a j : Nat} (hk : gm_kd h a % 100 = 0 ∧ 100 ≤ gm_kd h a ∧ gm_kd h a < 900) (hj : j < gm_ln h a) (hl : gm_ln h a < 2 ^ 31) : gm_W E d 45 30 lv (.int (nI j) :: .ref a :: st) h Q ↔ gm_W E d 45 31 lv (gm_fv h a j :: st) h Q := gw_rd m45 f45_30 rfl rfl rfl rfl (gs_ld (P := fun t => t == 0) hk.2 (by have := hk.1; simp [this] <;> omega) hj hl)
theorem f45_31 : gm_ft 45 31 = some (.iconst 2, 1) := by decide +kernel
theorem r45_31 {E : Nat → Value} {d : Nat} {st : List Value} {h : gm_H} {Q : gm_R → gm_H → Prop} {lv : List Value} : gm_W E d 45 31 lv st h Q ↔ gm_W E d 45 32 lv (.int (2 : Int32) :: st) h Q := gw_pure m45 f45_31 rfl
theorem f45_32 : gm_ft 45 32 = some (.if_icmp .ne 11, 3) := by decide +kernel
theorem r45_32 {E : Nat → Value} {d : Nat} {st : List Value} {h : gm_H} {Q : gm_R → gm_H → Prop} {lv : List Value} {x y : Int32} : gm_W E d 45 32 lv (.int y :: .int x :: st) h Q ↔ (if x = y then gm_W E d 45 35 lv st h Q else gm_W E d 45 43 lv st h Q) := (gw_br m45 f45_32 rfl rfl rfl rfl).trans gw_ifn
theorem f45_35 : gm_ft 45 35 = some (.aload_n 0, 1) := by decide +kernel
theorem r45_35 {E : Nat → Value} {d : Nat} {st : List Value} {h : gm_H} {Q : gm_R → gm_H → Prop} {a1 : Value} {x : Nat} : gm_W E d 45 35 [.ref x, a1] st h Q ↔ gm_W E d 45 36 [.ref x, a1] (.ref x :: st) h Q := gw_loc m45 f45_35 rfl rfl
theorem r45_35n {E : Nat → Value} {d : Nat} {st : List Value} {h : gm_H} {Q : gm_R → gm_H → Prop} {a1 : Value}  : gm_W E d 45 35 [.null, a1] st h Q ↔ gm_W E d 45 36 [.null, a1] (.null :: st) h Q := gw_loc m45 f45_35 rfl rfl
theorem f45_36 : gm_ft 45 36 = some (.iload_n 1, 1) := by decide +kernel
theorem r45_36 {E : Nat → Value} {d : Nat} {st : List Value} {h : gm_H} {Q : gm_R → gm_H → Prop} {a0 : Value} {x : Int32} : gm_W E d 45 36 [a0, .int x] st h Q ↔ gm_W E d 45 37 [a0, .int x] (.int x :: st) h Q := gw_loc m45 f45_36 rfl rfl
theorem f45_37 : gm_ft 45 37 = some (.invokevirtual 283, 3) := by decide +kernel
theorem c45_37 {E : Nat → Value} {d : Nat} {st : List Value} {h : gm_H} {Q : gm_R → gm_H → Prop} {lv : List Value} {b0 : Int32} {a : Nat} {Qc : gm_R → gm_H → Prop} (hs : (st.map fun v => v.category).sum ≤ 8) (hr : gm_kd h a = 5) (hd : 1 ≤ d) (hc : gm_Ca E (d - 1) 37 [.ref a, .int b0] h Qc) (kn : ∀ (v9 : Option Value) (h9 : gm_H), Qc (.inl v9) h9 → gm_W E d 45 40 lv (v9.toList ++ st) h9 Q) (kx : ∀ (x9 : Nat) (h9 : gm_H), Qc (.inr x9) h9 → Q (.inr x9) h9) : gm_W E d 45 37 lv (.int b0 :: .ref a :: st) h Q := gw_call (gn_call m45 f45_37 rfl rfl rfl rfl rfl rfl rfl (gs_virt (bs := [.int b0]) (w := 931) (L := 2) rfl rfl rfl rfl hs (by simp [gm_en1]) hr (by decide)) (by decide)) m45 rfl rfl hd hc kn kx
theorem f45_40 : gm_ft 45 40 = some (.goto 26, 3) := by decide +kernel
theorem r45_40 {E : Nat → Value} {d : Nat} {st : List Value} {h : gm_H} {Q : gm_R → gm_H → Prop} {lv : List Value} : gm_W E d 45 40 lv st h Q ↔ gm_W E d 45 66 lv st h Q := gw_brT m45 f45_40 rfl rfl rfl rfl
theorem f45_43 : gm_ft 45 43 = some (.aload_n 0, 1) := by decide +kernel
theorem r45_43 {E : Nat → Value} {d : Nat} {st : List Value} {h : gm_H} {Q : gm_R → gm_H → Prop} {a1 : Value} {x : Nat} : gm_W E d 45 43 [.ref x, a1] st h Q ↔ gm_W E d 45 44 [.ref x, a1] (.ref x :: st) h Q := gw_loc m45 f45_43 rfl rfl
theorem r45_43n {E : Nat → Value} {d : Nat} {st : List Value} {h : gm_H} {Q : gm_R → gm_H → Prop} {a1 : Value}  : gm_W E d 45 43 [.null, a1] st h Q ↔ gm_W E d 45 44 [.null, a1] (.null :: st) h Q := gw_loc m45 f45_43 rfl rfl
theorem f45_44 : gm_ft 45 44 = some (.getfield 93, 3) := by decide +kernel
theorem r45_44 {E : Nat → Value} {d : Nat} {st : List Value} {h : gm_H} {Q : gm_R → gm_H → Prop} {lv : List Value} {a : Nat} (hk : gm_kd h a = 5) : gm_W E d 45 44 lv (.ref a :: st) h Q ↔ gm_W E d 45 47 lv (gm_fv h a 40 :: st) h Q := gw_rd m45 f45_44 rfl rfl rfl rfl (gs_get k5_93 hk (by decide))
theorem f45_47 : gm_ft 45 47 = some (.iload_n 1, 1) := by decide +kernel
theorem r45_47 {E : Nat → Value} {d : Nat} {st : List Value} {h : gm_H} {Q : gm_R → gm_H → Prop} {a0 : Value} {x : Int32} : gm_W E d 45 47 [a0, .int x] st h Q ↔ gm_W E d 45 48 [a0, .int x] (.int x :: st) h Q := gw_loc m45 f45_47 rfl rfl
theorem f45_48 : gm_ft 45 48 = some (.iaload, 1) := by decide +kernel
theorem r45_48 {E : Nat → Value} {d : Nat} {st : List Value} {h : gm_H} {Q : gm_R → gm_H → Prop} {lv : List Value} {a j : Nat} (hk : gm_kd h a % 100 = 0 ∧ 100 ≤ gm_kd h a ∧ gm_kd h a < 900) (hj : j < gm_ln h a) (hl : gm_ln h a < 2 ^ 31) : gm_W E d 45 48 lv (.int (nI j) :: .ref a :: st) h Q ↔ gm_W E d 45 49 lv (gm_fv h a j :: st) h Q := gw_rd m45 f45_48 rfl rfl rfl rfl (gs_ld (P := fun t => t == 0) hk.2 (by have := hk.1; simp [this] <;> omega) hj hl)
theorem f45_49 : gm_ft 45 49 = some (.iconst 3, 1) := by decide +kernel
theorem r45_49 {E : Nat → Value} {d : Nat} {st : List Value} {h : gm_H} {Q : gm_R → gm_H → Prop} {lv : List Value} : gm_W E d 45 49 lv st h Q ↔ gm_W E d 45 50 lv (.int (3 : Int32) :: st) h Q := gw_pure m45 f45_49 rfl
theorem f45_50 : gm_ft 45 50 = some (.if_icmp .ne 11, 3) := by decide +kernel
theorem r45_50 {E : Nat → Value} {d : Nat} {st : List Value} {h : gm_H} {Q : gm_R → gm_H → Prop} {lv : List Value} {x y : Int32} : gm_W E d 45 50 lv (.int y :: .int x :: st) h Q ↔ (if x = y then gm_W E d 45 53 lv st h Q else gm_W E d 45 61 lv st h Q) := (gw_br m45 f45_50 rfl rfl rfl rfl).trans gw_ifn
theorem f45_53 : gm_ft 45 53 = some (.aload_n 0, 1) := by decide +kernel
theorem r45_53 {E : Nat → Value} {d : Nat} {st : List Value} {h : gm_H} {Q : gm_R → gm_H → Prop} {a1 : Value} {x : Nat} : gm_W E d 45 53 [.ref x, a1] st h Q ↔ gm_W E d 45 54 [.ref x, a1] (.ref x :: st) h Q := gw_loc m45 f45_53 rfl rfl
theorem r45_53n {E : Nat → Value} {d : Nat} {st : List Value} {h : gm_H} {Q : gm_R → gm_H → Prop} {a1 : Value}  : gm_W E d 45 53 [.null, a1] st h Q ↔ gm_W E d 45 54 [.null, a1] (.null :: st) h Q := gw_loc m45 f45_53 rfl rfl
theorem f45_54 : gm_ft 45 54 = some (.iload_n 1, 1) := by decide +kernel
theorem r45_54 {E : Nat → Value} {d : Nat} {st : List Value} {h : gm_H} {Q : gm_R → gm_H → Prop} {a0 : Value} {x : Int32} : gm_W E d 45 54 [a0, .int x] st h Q ↔ gm_W E d 45 55 [a0, .int x] (.int x :: st) h Q := gw_loc m45 f45_54 rfl rfl
theorem f45_55 : gm_ft 45 55 = some (.invokevirtual 286, 3) := by decide +kernel
theorem c45_55 {E : Nat → Value} {d : Nat} {st : List Value} {h : gm_H} {Q : gm_R → gm_H → Prop} {lv : List Value} {b0 : Int32} {a : Nat} {Qc : gm_R → gm_H → Prop} (hs : (st.map fun v => v.category).sum ≤ 8) (hr : gm_kd h a = 5) (hd : 1 ≤ d) (hc : gm_Ca E (d - 1) 41 [.ref a, .int b0] h Qc) (kn : ∀ (v9 : Option Value) (h9 : gm_H), Qc (.inl v9) h9 → gm_W E d 45 58 lv (v9.toList ++ st) h9 Q) (kx : ∀ (x9 : Nat) (h9 : gm_H), Qc (.inr x9) h9 → Q (.inr x9) h9) : gm_W E d 45 55 lv (.int b0 :: .ref a :: st) h Q := gw_call (gn_call m45 f45_55 rfl rfl rfl rfl rfl rfl rfl (gs_virt (bs := [.int b0]) (w := 961) (L := 7) rfl rfl rfl rfl hs (by simp [gm_en1]) hr (by decide)) (by decide)) m45 rfl rfl hd hc kn kx
theorem f45_58 : gm_ft 45 58 = some (.goto 8, 3) := by decide +kernel
theorem r45_58 {E : Nat → Value} {d : Nat} {st : List Value} {h : gm_H} {Q : gm_R → gm_H → Prop} {lv : List Value} : gm_W E d 45 58 lv st h Q ↔ gm_W E d 45 66 lv st h Q := gw_brT m45 f45_58 rfl rfl rfl rfl
theorem f45_61 : gm_ft 45 61 = some (.aload_n 0, 1) := by decide +kernel
theorem r45_61 {E : Nat → Value} {d : Nat} {st : List Value} {h : gm_H} {Q : gm_R → gm_H → Prop} {a1 : Value} {x : Nat} : gm_W E d 45 61 [.ref x, a1] st h Q ↔ gm_W E d 45 62 [.ref x, a1] (.ref x :: st) h Q := gw_loc m45 f45_61 rfl rfl
theorem r45_61n {E : Nat → Value} {d : Nat} {st : List Value} {h : gm_H} {Q : gm_R → gm_H → Prop} {a1 : Value}  : gm_W E d 45 61 [.null, a1] st h Q ↔ gm_W E d 45 62 [.null, a1] (.null :: st) h Q := gw_loc m45 f45_61 rfl rfl
theorem f45_62 : gm_ft 45 62 = some (.iload_n 1, 1) := by decide +kernel
theorem r45_62 {E : Nat → Value} {d : Nat} {st : List Value} {h : gm_H} {Q : gm_R → gm_H → Prop} {a0 : Value} {x : Int32} : gm_W E d 45 62 [a0, .int x] st h Q ↔ gm_W E d 45 63 [a0, .int x] (.int x :: st) h Q := gw_loc m45 f45_62 rfl rfl
theorem f45_63 : gm_ft 45 63 = some (.invokevirtual 289, 3) := by decide +kernel
theorem c45_63 {E : Nat → Value} {d : Nat} {st : List Value} {h : gm_H} {Q : gm_R → gm_H → Prop} {lv : List Value} {b0 : Int32} {a : Nat} {Qc : gm_R → gm_H → Prop} (hs : (st.map fun v => v.category).sum ≤ 8) (hr : gm_kd h a = 5) (hd : 1 ≤ d) (hc : gm_Ca E (d - 1) 44 [.ref a, .int b0] h Qc) (kn : ∀ (v9 : Option Value) (h9 : gm_H), Qc (.inl v9) h9 → gm_W E d 45 66 lv (v9.toList ++ st) h9 Q) (kx : ∀ (x9 : Nat) (h9 : gm_H), Qc (.inr x9) h9 → Q (.inr x9) h9) : gm_W E d 45 63 lv (.int b0 :: .ref a :: st) h Q := gw_call (gn_call m45 f45_63 rfl rfl rfl rfl rfl rfl rfl (gs_virt (bs := [.int b0]) (w := 985) (L := 4) rfl rfl rfl rfl hs (by simp [gm_en1]) hr (by decide)) (by decide)) m45 rfl rfl hd hc kn kx
theorem f45_66 : gm_ft 45 66 = some (.return_, 1) := by decide +kernel
theorem r45_66 {E : Nat → Value} {d : Nat} {h : gm_H} {Q : gm_R → gm_H → Prop} {lv : List Value} : gm_W E d 45 66 lv [] h Q ↔ Q (.inl none) h := gw_ret m45 f45_66 rfl rfl rfl rfl rfl rfl rfl rfl rfl
/-! GraphReaderModel.read()I -/
theorem m46 : gm_mt[46]? = some (⟨"GraphReaderModel", "read", "()I"⟩, prog_7_method_45_code, 7, (some .int), [], 5, 2) := rfl
theorem f46_0 : gm_ft 46 0 = some (.aload_n 0, 1) := by decide +kernel
theorem r46_0 {E : Nat → Value} {d : Nat} {st : List Value} {h : gm_H} {Q : gm_R → gm_H → Prop} {a1 a2 a3 a4 a5 a6 : Value} {x : Nat} : gm_W E d 46 0 [.ref x, a1, a2, a3, a4, a5, a6] st h Q ↔ gm_W E d 46 1 [.ref x, a1, a2, a3, a4, a5, a6] (.ref x :: st) h Q := gw_loc m46 f46_0 rfl rfl
theorem r46_0n {E : Nat → Value} {d : Nat} {st : List Value} {h : gm_H} {Q : gm_R → gm_H → Prop} {a1 a2 a3 a4 a5 a6 : Value}  : gm_W E d 46 0 [.null, a1, a2, a3, a4, a5, a6] st h Q ↔ gm_W E d 46 1 [.null, a1, a2, a3, a4, a5, a6] (.null :: st) h Q := gw_loc m46 f46_0 rfl rfl
theorem f46_1 : gm_ft 46 1 = some (.getfield 172, 3) := by decide +kernel
theorem r46_1 {E : Nat → Value} {d : Nat} {st : List Value} {h : gm_H} {Q : gm_R → gm_H → Prop} {lv : List Value} {a : Nat} (hk : gm_kd h a = 5) : gm_W E d 46 1 lv (.ref a :: st) h Q ↔ gm_W E d 46 4 lv (gm_fv h a 7 :: st) h Q := gw_rd m46 f46_1 rfl rfl rfl rfl (gs_get k5_172 hk (by decide))
theorem f46_4 : gm_ft 46 4 = some (.ifCond .eq 8, 3) := by decide +kernel
theorem r46_4 {E : Nat → Value} {d : Nat} {st : List Value} {h : gm_H} {Q : gm_R → gm_H → Prop} {lv : List Value} {x : Int32} : gm_W E d 46 4 lv (.int x :: st) h Q ↔ (if x = 0 then gm_W E d 46 12 lv st h Q else gm_W E d 46 7 lv st h Q) := (gw_br m46 f46_4 rfl rfl rfl rfl).trans gw_if
theorem f46_7 : gm_ft 46 7 = some (.aload_n 0, 1) := by decide +kernel
theorem r46_7 {E : Nat → Value} {d : Nat} {st : List Value} {h : gm_H} {Q : gm_R → gm_H → Prop} {a1 a2 a3 a4 a5 a6 : Value} {x : Nat} : gm_W E d 46 7 [.ref x, a1, a2, a3, a4, a5, a6] st h Q ↔ gm_W E d 46 8 [.ref x, a1, a2, a3, a4, a5, a6] (.ref x :: st) h Q := gw_loc m46 f46_7 rfl rfl
theorem r46_7n {E : Nat → Value} {d : Nat} {st : List Value} {h : gm_H} {Q : gm_R → gm_H → Prop} {a1 a2 a3 a4 a5 a6 : Value}  : gm_W E d 46 7 [.null, a1, a2, a3, a4, a5, a6] st h Q ↔ gm_W E d 46 8 [.null, a1, a2, a3, a4, a5, a6] (.null :: st) h Q := gw_loc m46 f46_7 rfl rfl
theorem f46_8 : gm_ft 46 8 = some (.getfield 172, 3) := by decide +kernel
theorem r46_8 {E : Nat → Value} {d : Nat} {st : List Value} {h : gm_H} {Q : gm_R → gm_H → Prop} {lv : List Value} {a : Nat} (hk : gm_kd h a = 5) : gm_W E d 46 8 lv (.ref a :: st) h Q ↔ gm_W E d 46 11 lv (gm_fv h a 7 :: st) h Q := gw_rd m46 f46_8 rfl rfl rfl rfl (gs_get k5_172 hk (by decide))
theorem f46_11 : gm_ft 46 11 = some (.ireturn, 1) := by decide +kernel
theorem r46_11 {E : Nat → Value} {d : Nat} {h : gm_H} {Q : gm_R → gm_H → Prop} {lv : List Value} {x : Int32} : gm_W E d 46 11 lv [.int x] h Q ↔ Q (.inl (some (.int x))) h := gw_ret m46 f46_11 rfl rfl rfl rfl rfl rfl rfl rfl (by unfold gm_rt; dsimp only; rw [if_pos ⟨rfl, rfl⟩])
theorem f46_12 : gm_ft 46 12 = some (.aload_n 0, 1) := by decide +kernel
theorem r46_12 {E : Nat → Value} {d : Nat} {st : List Value} {h : gm_H} {Q : gm_R → gm_H → Prop} {a1 a2 a3 a4 a5 a6 : Value} {x : Nat} : gm_W E d 46 12 [.ref x, a1, a2, a3, a4, a5, a6] st h Q ↔ gm_W E d 46 13 [.ref x, a1, a2, a3, a4, a5, a6] (.ref x :: st) h Q := gw_loc m46 f46_12 rfl rfl
theorem r46_12n {E : Nat → Value} {d : Nat} {st : List Value} {h : gm_H} {Q : gm_R → gm_H → Prop} {a1 a2 a3 a4 a5 a6 : Value}  : gm_W E d 46 12 [.null, a1, a2, a3, a4, a5, a6] st h Q ↔ gm_W E d 46 13 [.null, a1, a2, a3, a4, a5, a6] (.null :: st) h Q := gw_loc m46 f46_12 rfl rfl
theorem f46_13 : gm_ft 46 13 = some (.getfield 148, 3) := by decide +kernel
theorem r46_13 {E : Nat → Value} {d : Nat} {st : List Value} {h : gm_H} {Q : gm_R → gm_H → Prop} {lv : List Value} {a : Nat} (hk : gm_kd h a = 5) : gm_W E d 46 13 lv (.ref a :: st) h Q ↔ gm_W E d 46 16 lv (gm_fv h a 6 :: st) h Q := gw_rd m46 f46_13 rfl rfl rfl rfl (gs_get k5_148 hk (by decide))
theorem f46_16 : gm_ft 46 16 = some (.istore_n 1, 1) := by decide +kernel
theorem r46_16 {E : Nat → Value} {d : Nat} {st : List Value} {h : gm_H} {Q : gm_R → gm_H → Prop} {a0 a1 a2 a3 a4 a5 a6 : Value} {x : Int32} : gm_W E d 46 16 [a0, a1, a2, a3, a4, a5, a6] (.int x :: st) h Q ↔ gm_W E d 46 17 [gm_k a0, .int x, a2, a3, a4, a5, a6] st h Q := gw_loc m46 f46_16 rfl rfl
theorem f46_17 : gm_ft 46 17 = some (.aload_n 0, 1) := by decide +kernel
theorem r46_17 {E : Nat → Value} {d : Nat} {st : List Value} {h : gm_H} {Q : gm_R → gm_H → Prop} {a1 a2 a3 a4 a5 a6 : Value} {x : Nat} : gm_W E d 46 17 [.ref x, a1, a2, a3, a4, a5, a6] st h Q ↔ gm_W E d 46 18 [.ref x, a1, a2, a3, a4, a5, a6] (.ref x :: st) h Q := gw_loc m46 f46_17 rfl rfl
theorem r46_17n {E : Nat → Value} {d : Nat} {st : List Value} {h : gm_H} {Q : gm_R → gm_H → Prop} {a1 a2 a3 a4 a5 a6 : Value}  : gm_W E d 46 17 [.null, a1, a2, a3, a4, a5, a6] st h Q ↔ gm_W E d 46 18 [.null, a1, a2, a3, a4, a5, a6] (.null :: st) h Q := gw_loc m46 f46_17 rfl rfl
theorem f46_18 : gm_ft 46 18 = some (.getfield 139, 3) := by decide +kernel
theorem r46_18 {E : Nat → Value} {d : Nat} {st : List Value} {h : gm_H} {Q : gm_R → gm_H → Prop} {lv : List Value} {a : Nat} (hk : gm_kd h a = 5) : gm_W E d 46 18 lv (.ref a :: st) h Q ↔ gm_W E d 46 21 lv (gm_fv h a 23 :: st) h Q := gw_rd m46 f46_18 rfl rfl rfl rfl (gs_get k5_139 hk (by decide))
theorem f46_21 : gm_ft 46 21 = some (.istore_n 2, 1) := by decide +kernel
theorem r46_21 {E : Nat → Value} {d : Nat} {st : List Value} {h : gm_H} {Q : gm_R → gm_H → Prop} {a0 a1 a2 a3 a4 a5 a6 : Value} {x : Int32} : gm_W E d 46 21 [a0, a1, a2, a3, a4, a5, a6] (.int x :: st) h Q ↔ gm_W E d 46 22 [a0, gm_k a1, .int x, a3, a4, a5, a6] st h Q := gw_loc m46 f46_21 rfl rfl
theorem f46_22 : gm_ft 46 22 = some (.aload_n 0, 1) := by decide +kernel
theorem r46_22 {E : Nat → Value} {d : Nat} {st : List Value} {h : gm_H} {Q : gm_R → gm_H → Prop} {a1 a2 a3 a4 a5 a6 : Value} {x : Nat} : gm_W E d 46 22 [.ref x, a1, a2, a3, a4, a5, a6] st h Q ↔ gm_W E d 46 23 [.ref x, a1, a2, a3, a4, a5, a6] (.ref x :: st) h Q := gw_loc m46 f46_22 rfl rfl
theorem r46_22n {E : Nat → Value} {d : Nat} {st : List Value} {h : gm_H} {Q : gm_R → gm_H → Prop} {a1 a2 a3 a4 a5 a6 : Value}  : gm_W E d 46 22 [.null, a1, a2, a3, a4, a5, a6] st h Q ↔ gm_W E d 46 23 [.null, a1, a2, a3, a4, a5, a6] (.null :: st) h Q := gw_loc m46 f46_22 rfl rfl
theorem f46_23 : gm_ft 46 23 = some (.getfield 163, 3) := by decide +kernel
theorem r46_23 {E : Nat → Value} {d : Nat} {st : List Value} {h : gm_H} {Q : gm_R → gm_H → Prop} {lv : List Value} {a : Nat} (hk : gm_kd h a = 5) : gm_W E d 46 23 lv (.ref a :: st) h Q ↔ gm_W E d 46 26 lv (gm_fv h a 25 :: st) h Q := gw_rd m46 f46_23 rfl rfl rfl rfl (gs_get k5_163 hk (by decide))
theorem f46_26 : gm_ft 46 26 = some (.istore_n 3, 1) := by decide +kernel
theorem r46_26 {E : Nat → Value} {d : Nat} {st : List Value} {h : gm_H} {Q : gm_R → gm_H → Prop} {a0 a1 a2 a3 a4 a5 a6 : Value} {x : Int32} : gm_W E d 46 26 [a0, a1, a2, a3, a4, a5, a6] (.int x :: st) h Q ↔ gm_W E d 46 27 [a0, a1, gm_k a2, .int x, a4, a5, a6] st h Q := gw_loc m46 f46_26 rfl rfl
theorem f46_27 : gm_ft 46 27 = some (.aload_n 0, 1) := by decide +kernel
theorem r46_27 {E : Nat → Value} {d : Nat} {st : List Value} {h : gm_H} {Q : gm_R → gm_H → Prop} {a1 a2 a3 a4 a5 a6 : Value} {x : Nat} : gm_W E d 46 27 [.ref x, a1, a2, a3, a4, a5, a6] st h Q ↔ gm_W E d 46 28 [.ref x, a1, a2, a3, a4, a5, a6] (.ref x :: st) h Q := gw_loc m46 f46_27 rfl rfl
theorem r46_27n {E : Nat → Value} {d : Nat} {st : List Value} {h : gm_H} {Q : gm_R → gm_H → Prop} {a1 a2 a3 a4 a5 a6 : Value}  : gm_W E d 46 27 [.null, a1, a2, a3, a4, a5, a6] st h Q ↔ gm_W E d 46 28 [.null, a1, a2, a3, a4, a5, a6] (.null :: st) h Q := gw_loc m46 f46_27 rfl rfl
theorem f46_28 : gm_ft 46 28 = some (.getfield 166, 3) := by decide +kernel
theorem r46_28 {E : Nat → Value} {d : Nat} {st : List Value} {h : gm_H} {Q : gm_R → gm_H → Prop} {lv : List Value} {a : Nat} (hk : gm_kd h a = 5) : gm_W E d 46 28 lv (.ref a :: st) h Q ↔ gm_W E d 46 31 lv (gm_fv h a 28 :: st) h Q := gw_rd m46 f46_28 rfl rfl rfl rfl (gs_get k5_166 hk (by decide))
theorem f46_31 : gm_ft 46 31 = some (.istore 4, 2) := by decide +kernel
theorem r46_31 {E : Nat → Value} {d : Nat} {st : List Value} {h : gm_H} {Q : gm_R → gm_H → Prop} {a0 a1 a2 a3 a4 a5 a6 : Value} {x : Int32} : gm_W E d 46 31 [a0, a1, a2, a3, a4, a5, a6] (.int x :: st) h Q ↔ gm_W E d 46 33 [a0, a1, a2, gm_k a3, .int x, a5, a6] st h Q := gw_loc m46 f46_31 rfl rfl
theorem f46_33 : gm_ft 46 33 = some (.aload_n 0, 1) := by decide +kernel
theorem r46_33 {E : Nat → Value} {d : Nat} {st : List Value} {h : gm_H} {Q : gm_R → gm_H → Prop} {a1 a2 a3 a4 a5 a6 : Value} {x : Nat} : gm_W E d 46 33 [.ref x, a1, a2, a3, a4, a5, a6] st h Q ↔ gm_W E d 46 34 [.ref x, a1, a2, a3, a4, a5, a6] (.ref x :: st) h Q := gw_loc m46 f46_33 rfl rfl
theorem r46_33n {E : Nat → Value} {d : Nat} {st : List Value} {h : gm_H} {Q : gm_R → gm_H → Prop} {a1 a2 a3 a4 a5 a6 : Value}  : gm_W E d 46 33 [.null, a1, a2, a3, a4, a5, a6] st h Q ↔ gm_W E d 46 34 [.null, a1, a2, a3, a4, a5, a6] (.null :: st) h Q := gw_loc m46 f46_33 rfl rfl
theorem f46_34 : gm_ft 46 34 = some (.getfield 169, 3) := by decide +kernel
theorem r46_34 {E : Nat → Value} {d : Nat} {st : List Value} {h : gm_H} {Q : gm_R → gm_H → Prop} {lv : List Value} {a : Nat} (hk : gm_kd h a = 5) : gm_W E d 46 34 lv (.ref a :: st) h Q ↔ gm_W E d 46 37 lv (gm_fv h a 39 :: st) h Q := gw_rd m46 f46_34 rfl rfl rfl rfl (gs_get k5_169 hk (by decide))
theorem f46_37 : gm_ft 46 37 = some (.istore 5, 2) := by decide +kernel
theorem r46_37 {E : Nat → Value} {d : Nat} {st : List Value} {h : gm_H} {Q : gm_R → gm_H → Prop} {a0 a1 a2 a3 a4 a5 a6 : Value} {x : Int32} : gm_W E d 46 37 [a0, a1, a2, a3, a4, a5, a6] (.int x :: st) h Q ↔ gm_W E d 46 39 [a0, a1, a2, a3, gm_k a4, .int x, a6] st h Q := gw_loc m46 f46_37 rfl rfl
theorem f46_39 : gm_ft 46 39 = some (.iconst 0, 1) := by decide +kernel
theorem r46_39 {E : Nat → Value} {d : Nat} {st : List Value} {h : gm_H} {Q : gm_R → gm_H → Prop} {lv : List Value} : gm_W E d 46 39 lv st h Q ↔ gm_W E d 46 40 lv (.int (0 : Int32) :: st) h Q := gw_pure m46 f46_39 rfl
theorem f46_40 : gm_ft 46 40 = some (.istore 6, 2) := by decide +kernel
theorem r46_40 {E : Nat → Value} {d : Nat} {st : List Value} {h : gm_H} {Q : gm_R → gm_H → Prop} {a0 a1 a2 a3 a4 a5 a6 : Value} {x : Int32} : gm_W E d 46 40 [a0, a1, a2, a3, a4, a5, a6] (.int x :: st) h Q ↔ gm_W E d 46 42 [a0, a1, a2, a3, a4, gm_k a5, .int x] st h Q := gw_loc m46 f46_40 rfl rfl
theorem f46_42 : gm_ft 46 42 = some (.iload 6, 2) := by decide +kernel
theorem r46_42 {E : Nat → Value} {d : Nat} {st : List Value} {h : gm_H} {Q : gm_R → gm_H → Prop} {a0 a1 a2 a3 a4 a5 : Value} {x : Int32} : gm_W E d 46 42 [a0, a1, a2, a3, a4, a5, .int x] st h Q ↔ gm_W E d 46 44 [a0, a1, a2, a3, a4, a5, .int x] (.int x :: st) h Q := gw_loc m46 f46_42 rfl rfl
theorem f46_44 : gm_ft 46 44 = some (.aload_n 0, 1) := by decide +kernel
theorem r46_44 {E : Nat → Value} {d : Nat} {st : List Value} {h : gm_H} {Q : gm_R → gm_H → Prop} {a1 a2 a3 a4 a5 a6 : Value} {x : Nat} : gm_W E d 46 44 [.ref x, a1, a2, a3, a4, a5, a6] st h Q ↔ gm_W E d 46 45 [.ref x, a1, a2, a3, a4, a5, a6] (.ref x :: st) h Q := gw_loc m46 f46_44 rfl rfl
theorem r46_44n {E : Nat → Value} {d : Nat} {st : List Value} {h : gm_H} {Q : gm_R → gm_H → Prop} {a1 a2 a3 a4 a5 a6 : Value}  : gm_W E d 46 44 [.null, a1, a2, a3, a4, a5, a6] st h Q ↔ gm_W E d 46 45 [.null, a1, a2, a3, a4, a5, a6] (.null :: st) h Q := gw_loc m46 f46_44 rfl rfl
theorem f46_45 : gm_ft 46 45 = some (.getfield 166, 3) := by decide +kernel
theorem r46_45 {E : Nat → Value} {d : Nat} {st : List Value} {h : gm_H} {Q : gm_R → gm_H → Prop} {lv : List Value} {a : Nat} (hk : gm_kd h a = 5) : gm_W E d 46 45 lv (.ref a :: st) h Q ↔ gm_W E d 46 48 lv (gm_fv h a 28 :: st) h Q := gw_rd m46 f46_45 rfl rfl rfl rfl (gs_get k5_166 hk (by decide))
theorem f46_48 : gm_ft 46 48 = some (.if_icmp .ge 37, 3) := by decide +kernel
theorem r46_48 {E : Nat → Value} {d : Nat} {st : List Value} {h : gm_H} {Q : gm_R → gm_H → Prop} {lv : List Value} {x y : Int32} : gm_W E d 46 48 lv (.int y :: .int x :: st) h Q ↔ (if y ≤ x then gm_W E d 46 85 lv st h Q else gm_W E d 46 51 lv st h Q) := (gw_br m46 f46_48 rfl rfl rfl rfl).trans gw_if
theorem f46_51 : gm_ft 46 51 = some (.aload_n 0, 1) := by decide +kernel
theorem r46_51 {E : Nat → Value} {d : Nat} {st : List Value} {h : gm_H} {Q : gm_R → gm_H → Prop} {a1 a2 a3 a4 a5 a6 : Value} {x : Nat} : gm_W E d 46 51 [.ref x, a1, a2, a3, a4, a5, a6] st h Q ↔ gm_W E d 46 52 [.ref x, a1, a2, a3, a4, a5, a6] (.ref x :: st) h Q := gw_loc m46 f46_51 rfl rfl
theorem r46_51n {E : Nat → Value} {d : Nat} {st : List Value} {h : gm_H} {Q : gm_R → gm_H → Prop} {a1 a2 a3 a4 a5 a6 : Value}  : gm_W E d 46 51 [.null, a1, a2, a3, a4, a5, a6] st h Q ↔ gm_W E d 46 52 [.null, a1, a2, a3, a4, a5, a6] (.null :: st) h Q := gw_loc m46 f46_51 rfl rfl
theorem f46_52 : gm_ft 46 52 = some (.getfield 63, 3) := by decide +kernel
theorem r46_52 {E : Nat → Value} {d : Nat} {st : List Value} {h : gm_H} {Q : gm_R → gm_H → Prop} {lv : List Value} {a : Nat} (hk : gm_kd h a = 5) : gm_W E d 46 52 lv (.ref a :: st) h Q ↔ gm_W E d 46 55 lv (gm_fv h a 29 :: st) h Q := gw_rd m46 f46_52 rfl rfl rfl rfl (gs_get k5_63 hk (by decide))
theorem f46_55 : gm_ft 46 55 = some (.iload 6, 2) := by decide +kernel
theorem r46_55 {E : Nat → Value} {d : Nat} {st : List Value} {h : gm_H} {Q : gm_R → gm_H → Prop} {a0 a1 a2 a3 a4 a5 : Value} {x : Int32} : gm_W E d 46 55 [a0, a1, a2, a3, a4, a5, .int x] st h Q ↔ gm_W E d 46 57 [a0, a1, a2, a3, a4, a5, .int x] (.int x :: st) h Q := gw_loc m46 f46_55 rfl rfl
theorem f46_57 : gm_ft 46 57 = some (.aload_n 0, 1) := by decide +kernel
theorem r46_57 {E : Nat → Value} {d : Nat} {st : List Value} {h : gm_H} {Q : gm_R → gm_H → Prop} {a1 a2 a3 a4 a5 a6 : Value} {x : Nat} : gm_W E d 46 57 [.ref x, a1, a2, a3, a4, a5, a6] st h Q ↔ gm_W E d 46 58 [.ref x, a1, a2, a3, a4, a5, a6] (.ref x :: st) h Q := gw_loc m46 f46_57 rfl rfl
theorem r46_57n {E : Nat → Value} {d : Nat} {st : List Value} {h : gm_H} {Q : gm_R → gm_H → Prop} {a1 a2 a3 a4 a5 a6 : Value}  : gm_W E d 46 57 [.null, a1, a2, a3, a4, a5, a6] st h Q ↔ gm_W E d 46 58 [.null, a1, a2, a3, a4, a5, a6] (.null :: st) h Q := gw_loc m46 f46_57 rfl rfl
theorem f46_58 : gm_ft 46 58 = some (.getfield 57, 3) := by decide +kernel
theorem r46_58 {E : Nat → Value} {d : Nat} {st : List Value} {h : gm_H} {Q : gm_R → gm_H → Prop} {lv : List Value} {a : Nat} (hk : gm_kd h a = 5) : gm_W E d 46 58 lv (.ref a :: st) h Q ↔ gm_W E d 46 61 lv (gm_fv h a 26 :: st) h Q := gw_rd m46 f46_58 rfl rfl rfl rfl (gs_get k5_57 hk (by decide))
theorem f46_61 : gm_ft 46 61 = some (.iload 6, 2) := by decide +kernel
theorem r46_61 {E : Nat → Value} {d : Nat} {st : List Value} {h : gm_H} {Q : gm_R → gm_H → Prop} {a0 a1 a2 a3 a4 a5 : Value} {x : Int32} : gm_W E d 46 61 [a0, a1, a2, a3, a4, a5, .int x] st h Q ↔ gm_W E d 46 63 [a0, a1, a2, a3, a4, a5, .int x] (.int x :: st) h Q := gw_loc m46 f46_61 rfl rfl
theorem f46_63 : gm_ft 46 63 = some (.iaload, 1) := by decide +kernel
theorem r46_63 {E : Nat → Value} {d : Nat} {st : List Value} {h : gm_H} {Q : gm_R → gm_H → Prop} {lv : List Value} {a j : Nat} (hk : gm_kd h a % 100 = 0 ∧ 100 ≤ gm_kd h a ∧ gm_kd h a < 900) (hj : j < gm_ln h a) (hl : gm_ln h a < 2 ^ 31) : gm_W E d 46 63 lv (.int (nI j) :: .ref a :: st) h Q ↔ gm_W E d 46 64 lv (gm_fv h a j :: st) h Q := gw_rd m46 f46_63 rfl rfl rfl rfl (gs_ld (P := fun t => t == 0) hk.2 (by have := hk.1; simp [this] <;> omega) hj hl)
theorem f46_64 : gm_ft 46 64 = some (.iastore, 1) := by decide +kernel
theorem r46_64 {E : Nat → Value} {d : Nat} {st : List Value} {h : gm_H} {Q : gm_R → gm_H → Prop} {lv : List Value} {a j : Nat} {x : Int32} (hk : gm_kd h a = 200) (hj : j < gm_ln h a) (hl : gm_ln h a < 2 ^ 31) : gm_W E d 46 64 lv (.int x :: .int (nI j) :: .ref a :: st) h Q ↔ gm_W E d 46 65 lv st (gm_sf h a j (.int x)) Q := gw_wr m46 f46_64 rfl rfl rfl rfl rfl (gs_st hk (by decide) hj hl)
theorem f46_65 : gm_ft 46 65 = some (.aload_n 0, 1) := by decide +kernel
theorem r46_65 {E : Nat → Value} {d : Nat} {st : List Value} {h : gm_H} {Q : gm_R → gm_H → Prop} {a1 a2 a3 a4 a5 a6 : Value} {x : Nat} : gm_W E d 46 65 [.ref x, a1, a2, a3, a4, a5, a6] st h Q ↔ gm_W E d 46 66 [.ref x, a1, a2, a3, a4, a5, a6] (.ref x :: st) h Q := gw_loc m46 f46_65 rfl rfl
theorem r46_65n {E : Nat → Value} {d : Nat} {st : List Value} {h : gm_H} {Q : gm_R → gm_H → Prop} {a1 a2 a3 a4 a5 a6 : Value}  : gm_W E d 46 65 [.null, a1, a2, a3, a4, a5, a6] st h Q ↔ gm_W E d 46 66 [.null, a1, a2, a3, a4, a5, a6] (.null :: st) h Q := gw_loc m46 f46_65 rfl rfl
theorem f46_66 : gm_ft 46 66 = some (.getfield 66, 3) := by decide +kernel
theorem r46_66 {E : Nat → Value} {d : Nat} {st : List Value} {h : gm_H} {Q : gm_R → gm_H → Prop} {lv : List Value} {a : Nat} (hk : gm_kd h a = 5) : gm_W E d 46 66 lv (.ref a :: st) h Q ↔ gm_W E d 46 69 lv (gm_fv h a 30 :: st) h Q := gw_rd m46 f46_66 rfl rfl rfl rfl (gs_get k5_66 hk (by decide))
theorem f46_69 : gm_ft 46 69 = some (.iload 6, 2) := by decide +kernel
theorem r46_69 {E : Nat → Value} {d : Nat} {st : List Value} {h : gm_H} {Q : gm_R → gm_H → Prop} {a0 a1 a2 a3 a4 a5 : Value} {x : Int32} : gm_W E d 46 69 [a0, a1, a2, a3, a4, a5, .int x] st h Q ↔ gm_W E d 46 71 [a0, a1, a2, a3, a4, a5, .int x] (.int x :: st) h Q := gw_loc m46 f46_69 rfl rfl
theorem f46_71 : gm_ft 46 71 = some (.aload_n 0, 1) := by decide +kernel
theorem r46_71 {E : Nat → Value} {d : Nat} {st : List Value} {h : gm_H} {Q : gm_R → gm_H → Prop} {a1 a2 a3 a4 a5 a6 : Value} {x : Nat} : gm_W E d 46 71 [.ref x, a1, a2, a3, a4, a5, a6] st h Q ↔ gm_W E d 46 72 [.ref x, a1, a2, a3, a4, a5, a6] (.ref x :: st) h Q := gw_loc m46 f46_71 rfl rfl
theorem r46_71n {E : Nat → Value} {d : Nat} {st : List Value} {h : gm_H} {Q : gm_R → gm_H → Prop} {a1 a2 a3 a4 a5 a6 : Value}  : gm_W E d 46 71 [.null, a1, a2, a3, a4, a5, a6] st h Q ↔ gm_W E d 46 72 [.null, a1, a2, a3, a4, a5, a6] (.null :: st) h Q := gw_loc m46 f46_71 rfl rfl
theorem f46_72 : gm_ft 46 72 = some (.getfield 60, 3) := by decide +kernel
theorem r46_72 {E : Nat → Value} {d : Nat} {st : List Value} {h : gm_H} {Q : gm_R → gm_H → Prop} {lv : List Value} {a : Nat} (hk : gm_kd h a = 5) : gm_W E d 46 72 lv (.ref a :: st) h Q ↔ gm_W E d 46 75 lv (gm_fv h a 27 :: st) h Q := gw_rd m46 f46_72 rfl rfl rfl rfl (gs_get k5_60 hk (by decide))
theorem f46_75 : gm_ft 46 75 = some (.iload 6, 2) := by decide +kernel
theorem r46_75 {E : Nat → Value} {d : Nat} {st : List Value} {h : gm_H} {Q : gm_R → gm_H → Prop} {a0 a1 a2 a3 a4 a5 : Value} {x : Int32} : gm_W E d 46 75 [a0, a1, a2, a3, a4, a5, .int x] st h Q ↔ gm_W E d 46 77 [a0, a1, a2, a3, a4, a5, .int x] (.int x :: st) h Q := gw_loc m46 f46_75 rfl rfl
theorem f46_77 : gm_ft 46 77 = some (.iaload, 1) := by decide +kernel
theorem r46_77 {E : Nat → Value} {d : Nat} {st : List Value} {h : gm_H} {Q : gm_R → gm_H → Prop} {lv : List Value} {a j : Nat} (hk : gm_kd h a % 100 = 0 ∧ 100 ≤ gm_kd h a ∧ gm_kd h a < 900) (hj : j < gm_ln h a) (hl : gm_ln h a < 2 ^ 31) : gm_W E d 46 77 lv (.int (nI j) :: .ref a :: st) h Q ↔ gm_W E d 46 78 lv (gm_fv h a j :: st) h Q := gw_rd m46 f46_77 rfl rfl rfl rfl (gs_ld (P := fun t => t == 0) hk.2 (by have := hk.1; simp [this] <;> omega) hj hl)
theorem f46_78 : gm_ft 46 78 = some (.iastore, 1) := by decide +kernel
theorem r46_78 {E : Nat → Value} {d : Nat} {st : List Value} {h : gm_H} {Q : gm_R → gm_H → Prop} {lv : List Value} {a j : Nat} {x : Int32} (hk : gm_kd h a = 200) (hj : j < gm_ln h a) (hl : gm_ln h a < 2 ^ 31) : gm_W E d 46 78 lv (.int x :: .int (nI j) :: .ref a :: st) h Q ↔ gm_W E d 46 79 lv st (gm_sf h a j (.int x)) Q := gw_wr m46 f46_78 rfl rfl rfl rfl rfl (gs_st hk (by decide) hj hl)
theorem f46_79 : gm_ft 46 79 = some (.iinc 6 1, 3) := by decide +kernel
theorem r46_79 {E : Nat → Value} {d : Nat} {st : List Value} {h : gm_H} {Q : gm_R → gm_H → Prop} {a0 a1 a2 a3 a4 a5 : Value} {x : Int32} : gm_W E d 46 79 [a0, a1, a2, a3, a4, a5, .int x] st h Q ↔ gm_W E d 46 82 [a0, a1, a2, a3, a4, gm_k a5, .int (x + (1 : Int32))] st h Q := gw_loc m46 f46_79 rfl rfl
theorem f46_82 : gm_ft 46 82 = some (.goto (-40), 3) := by decide +kernel
theorem r46_82 {E : Nat → Value} {d : Nat} {st : List Value} {h : gm_H} {Q : gm_R → gm_H → Prop} {lv : List Value} : gm_W E d 46 82 lv st h Q ↔ gm_W E d 46 42 lv st h Q := gw_brT m46 f46_82 rfl rfl rfl rfl
theorem f46_85 : gm_ft 46 85 = some (.aload_n 0, 1) := by decide +kernel
theorem r46_85 {E : Nat → Value} {d : Nat} {st : List Value} {h : gm_H} {Q : gm_R → gm_H → Prop} {a1 a2 a3 a4 a5 a6 : Value} {x : Nat} : gm_W E d 46 85 [.ref x, a1, a2, a3, a4, a5, a6] st h Q ↔ gm_W E d 46 86 [.ref x, a1, a2, a3, a4, a5, a6] (.ref x :: st) h Q := gw_loc m46 f46_85 rfl rfl
theorem r46_85n {E : Nat → Value} {d : Nat} {st : List Value} {h : gm_H} {Q : gm_R → gm_H → Prop} {a1 a2 a3 a4 a5 a6 : Value}  : gm_W E d 46 85 [.null, a1, a2, a3, a4, a5, a6] st h Q ↔ gm_W E d 46 86 [.null, a1, a2, a3, a4, a5, a6] (.null :: st) h Q := gw_loc m46 f46_85 rfl rfl
theorem f46_86 : gm_ft 46 86 = some (.iconst 0, 1) := by decide +kernel
theorem r46_86 {E : Nat → Value} {d : Nat} {st : List Value} {h : gm_H} {Q : gm_R → gm_H → Prop} {lv : List Value} : gm_W E d 46 86 lv st h Q ↔ gm_W E d 46 87 lv (.int (0 : Int32) :: st) h Q := gw_pure m46 f46_86 rfl
theorem f46_87 : gm_ft 46 87 = some (.putfield 145, 3) := by decide +kernel
theorem r46_87 {E : Nat → Value} {d : Nat} {st : List Value} {h : gm_H} {Q : gm_R → gm_H → Prop} {lv : List Value} {a : Nat} {x : Int32} (hk : gm_kd h a = 5) : gm_W E d 46 87 lv (.int x :: .ref a :: st) h Q ↔ gm_W E d 46 90 lv st (gm_sf h a 8 (.int x)) Q := gw_wr m46 f46_87 rfl rfl rfl rfl rfl (gs_put k5_145 hk (by decide) (by decide) ⟨rfl, rfl⟩ (by decide))
theorem f46_90 : gm_ft 46 90 = some (.aload_n 0, 1) := by decide +kernel
theorem r46_90 {E : Nat → Value} {d : Nat} {st : List Value} {h : gm_H} {Q : gm_R → gm_H → Prop} {a1 a2 a3 a4 a5 a6 : Value} {x : Nat} : gm_W E d 46 90 [.ref x, a1, a2, a3, a4, a5, a6] st h Q ↔ gm_W E d 46 91 [.ref x, a1, a2, a3, a4, a5, a6] (.ref x :: st) h Q := gw_loc m46 f46_90 rfl rfl
theorem r46_90n {E : Nat → Value} {d : Nat} {st : List Value} {h : gm_H} {Q : gm_R → gm_H → Prop} {a1 a2 a3 a4 a5 a6 : Value}  : gm_W E d 46 90 [.null, a1, a2, a3, a4, a5, a6] st h Q ↔ gm_W E d 46 91 [.null, a1, a2, a3, a4, a5, a6] (.null :: st) h Q := gw_loc m46 f46_90 rfl rfl
theorem f46_91 : gm_ft 46 91 = some (.iconst 0, 1) := by decide +kernel
theorem r46_91 {E : Nat → Value} {d : Nat} {st : List Value} {h : gm_H} {Q : gm_R → gm_H → Prop} {lv : List Value} : gm_W E d 46 91 lv st h Q ↔ gm_W E d 46 92 lv (.int (0 : Int32) :: st) h Q := gw_pure m46 f46_91 rfl
theorem f46_92 : gm_ft 46 92 = some (.putfield 175, 3) := by decide +kernel
theorem r46_92 {E : Nat → Value} {d : Nat} {st : List Value} {h : gm_H} {Q : gm_R → gm_H → Prop} {lv : List Value} {a : Nat} {x : Int32} (hk : gm_kd h a = 5) : gm_W E d 46 92 lv (.int x :: .ref a :: st) h Q ↔ gm_W E d 46 95 lv st (gm_sf h a 47 (.int x)) Q := gw_wr m46 f46_92 rfl rfl rfl rfl rfl (gs_put k5_175 hk (by decide) (by decide) ⟨rfl, rfl⟩ (by decide))
theorem f46_95 : gm_ft 46 95 = some (.aload_n 0, 1) := by decide +kernel
theorem r46_95 {E : Nat → Value} {d : Nat} {st : List Value} {h : gm_H} {Q : gm_R → gm_H → Prop} {a1 a2 a3 a4 a5 a6 : Value} {x : Nat} : gm_W E d 46 95 [.ref x, a1, a2, a3, a4, a5, a6] st h Q ↔ gm_W E d 46 96 [.ref x, a1, a2, a3, a4, a5, a6] (.ref x :: st) h Q := gw_loc m46 f46_95 rfl rfl
theorem r46_95n {E : Nat → Value} {d : Nat} {st : List Value} {h : gm_H} {Q : gm_R → gm_H → Prop} {a1 a2 a3 a4 a5 a6 : Value}  : gm_W E d 46 95 [.null, a1, a2, a3, a4, a5, a6] st h Q ↔ gm_W E d 46 96 [.null, a1, a2, a3, a4, a5, a6] (.null :: st) h Q := gw_loc m46 f46_95 rfl rfl
theorem f46_96 : gm_ft 46 96 = some (.iconst 1, 1) := by decide +kernel
theorem r46_96 {E : Nat → Value} {d : Nat} {st : List Value} {h : gm_H} {Q : gm_R → gm_H → Prop} {lv : List Value} : gm_W E d 46 96 lv st h Q ↔ gm_W E d 46 97 lv (.int (1 : Int32) :: st) h Q := gw_pure m46 f46_96 rfl
theorem f46_97 : gm_ft 46 97 = some (.iconst 1, 1) := by decide +kernel
theorem r46_97 {E : Nat → Value} {d : Nat} {st : List Value} {h : gm_H} {Q : gm_R → gm_H → Prop} {lv : List Value} : gm_W E d 46 97 lv st h Q ↔ gm_W E d 46 98 lv (.int (1 : Int32) :: st) h Q := gw_pure m46 f46_97 rfl
theorem f46_98 : gm_ft 46 98 = some (.iconst 0, 1) := by decide +kernel
theorem r46_98 {E : Nat → Value} {d : Nat} {st : List Value} {h : gm_H} {Q : gm_R → gm_H → Prop} {lv : List Value} : gm_W E d 46 98 lv st h Q ↔ gm_W E d 46 99 lv (.int (0 : Int32) :: st) h Q := gw_pure m46 f46_98 rfl
theorem f46_99 : gm_ft 46 99 = some (.iconst 0, 1) := by decide +kernel
theorem r46_99 {E : Nat → Value} {d : Nat} {st : List Value} {h : gm_H} {Q : gm_R → gm_H → Prop} {lv : List Value} : gm_W E d 46 99 lv st h Q ↔ gm_W E d 46 100 lv (.int (0 : Int32) :: st) h Q := gw_pure m46 f46_99 rfl
theorem f46_100 : gm_ft 46 100 = some (.invokevirtual 200, 3) := by decide +kernel
theorem c46_100 {E : Nat → Value} {d : Nat} {st : List Value} {h : gm_H} {Q : gm_R → gm_H → Prop} {lv : List Value} {b0 : Int32} {b1 : Int32} {b2 : Int32} {b3 : Int32} {a : Nat} {Qc : gm_R → gm_H → Prop} (hs : (st.map fun v => v.category).sum ≤ 8) (hr : gm_kd h a = 5) (hd : 1 ≤ d) (hc : gm_Ca E (d - 1) 15 [.ref a, .int b0, .int b1, .int b2, .int b3] h Qc) (kn : ∀ (v9 : Option Value) (h9 : gm_H), Qc (.inl v9) h9 → gm_W E d 46 103 lv (v9.toList ++ st) h9 Q) (kx : ∀ (x9 : Nat) (h9 : gm_H), Qc (.inr x9) h9 → Q (.inr x9) h9) : gm_W E d 46 100 lv (.int b3 :: .int b2 :: .int b1 :: .int b0 :: .ref a :: st) h Q := gw_call (gn_call m46 f46_100 rfl rfl rfl rfl rfl rfl rfl (gs_virt (bs := [.int b3, .int b2, .int b1, .int b0]) (w := 856) (L := 5) rfl rfl rfl rfl hs (by simp [gm_en1]) hr (by decide)) (by decide)) m46 rfl rfl hd hc kn kx
theorem f46_103 : gm_ft 46 103 = some (.aload_n 0, 1) := by decide +kernel
theorem r46_103 {E : Nat → Value} {d : Nat} {st : List Value} {h : gm_H} {Q : gm_R → gm_H → Prop} {a1 a2 a3 a4 a5 a6 : Value} {x : Nat} : gm_W E d 46 103 [.ref x, a1, a2, a3, a4, a5, a6] st h Q ↔ gm_W E d 46 104 [.ref x, a1, a2, a3, a4, a5, a6] (.ref x :: st) h Q := gw_loc m46 f46_103 rfl rfl
theorem r46_103n {E : Nat → Value} {d : Nat} {st : List Value} {h : gm_H} {Q : gm_R → gm_H → Prop} {a1 a2 a3 a4 a5 a6 : Value}  : gm_W E d 46 103 [.null, a1, a2, a3, a4, a5, a6] st h Q ↔ gm_W E d 46 104 [.null, a1, a2, a3, a4, a5, a6] (.null :: st) h Q := gw_loc m46 f46_103 rfl rfl
theorem f46_104 : gm_ft 46 104 = some (.getfield 175, 3) := by decide +kernel
theorem r46_104 {E : Nat → Value} {d : Nat} {st : List Value} {h : gm_H} {Q : gm_R → gm_H → Prop} {lv : List Value} {a : Nat} (hk : gm_kd h a = 5) : gm_W E d 46 104 lv (.ref a :: st) h Q ↔ gm_W E d 46 107 lv (gm_fv h a 47 :: st) h Q := gw_rd m46 f46_104 rfl rfl rfl rfl (gs_get k5_175 hk (by decide))
theorem f46_107 : gm_ft 46 107 = some (.ifCond .le 17, 3) := by decide +kernel
theorem r46_107 {E : Nat → Value} {d : Nat} {st : List Value} {h : gm_H} {Q : gm_R → gm_H → Prop} {lv : List Value} {x : Int32} : gm_W E d 46 107 lv (.int x :: st) h Q ↔ (if x ≤ 0 then gm_W E d 46 124 lv st h Q else gm_W E d 46 110 lv st h Q) := (gw_br m46 f46_107 rfl rfl rfl rfl).trans gw_if
theorem f46_110 : gm_ft 46 110 = some (.aload_n 0, 1) := by decide +kernel
theorem r46_110 {E : Nat → Value} {d : Nat} {st : List Value} {h : gm_H} {Q : gm_R → gm_H → Prop} {a1 a2 a3 a4 a5 a6 : Value} {x : Nat} : gm_W E d 46 110 [.ref x, a1, a2, a3, a4, a5, a6] st h Q ↔ gm_W E d 46 111 [.ref x, a1, a2, a3, a4, a5, a6] (.ref x :: st) h Q := gw_loc m46 f46_110 rfl rfl
theorem r46_110n {E : Nat → Value} {d : Nat} {st : List Value} {h : gm_H} {Q : gm_R → gm_H → Prop} {a1 a2 a3 a4 a5 a6 : Value}  : gm_W E d 46 110 [.null, a1, a2, a3, a4, a5, a6] st h Q ↔ gm_W E d 46 111 [.null, a1, a2, a3, a4, a5, a6] (.null :: st) h Q := gw_loc m46 f46_110 rfl rfl
theorem f46_111 : gm_ft 46 111 = some (.getfield 145, 3) := by decide +kernel
theorem r46_111 {E : Nat → Value} {d : Nat} {st : List Value} {h : gm_H} {Q : gm_R → gm_H → Prop} {lv : List Value} {a : Nat} (hk : gm_kd h a = 5) : gm_W E d 46 111 lv (.ref a :: st) h Q ↔ gm_W E d 46 114 lv (gm_fv h a 8 :: st) h Q := gw_rd m46 f46_111 rfl rfl rfl rfl (gs_get k5_145 hk (by decide))
theorem f46_114 : gm_ft 46 114 = some (.ifCond .ne 10, 3) := by decide +kernel
theorem r46_114 {E : Nat → Value} {d : Nat} {st : List Value} {h : gm_H} {Q : gm_R → gm_H → Prop} {lv : List Value} {x : Int32} : gm_W E d 46 114 lv (.int x :: st) h Q ↔ (if x = 0 then gm_W E d 46 117 lv st h Q else gm_W E d 46 124 lv st h Q) := (gw_br m46 f46_114 rfl rfl rfl rfl).trans gw_ifn
theorem f46_117 : gm_ft 46 117 = some (.aload_n 0, 1) := by decide +kernel
theorem r46_117 {E : Nat → Value} {d : Nat} {st : List Value} {h : gm_H} {Q : gm_R → gm_H → Prop} {a1 a2 a3 a4 a5 a6 : Value} {x : Nat} : gm_W E d 46 117 [.ref x, a1, a2, a3, a4, a5, a6] st h Q ↔ gm_W E d 46 118 [.ref x, a1, a2, a3, a4, a5, a6] (.ref x :: st) h Q := gw_loc m46 f46_117 rfl rfl
theorem r46_117n {E : Nat → Value} {d : Nat} {st : List Value} {h : gm_H} {Q : gm_R → gm_H → Prop} {a1 a2 a3 a4 a5 a6 : Value}  : gm_W E d 46 117 [.null, a1, a2, a3, a4, a5, a6] st h Q ↔ gm_W E d 46 118 [.null, a1, a2, a3, a4, a5, a6] (.null :: st) h Q := gw_loc m46 f46_117 rfl rfl
theorem f46_118 : gm_ft 46 118 = some (.invokevirtual 292, 3) := by decide +kernel
theorem c46_118 {E : Nat → Value} {d : Nat} {st : List Value} {h : gm_H} {Q : gm_R → gm_H → Prop} {lv : List Value} {a : Nat} {Qc : gm_R → gm_H → Prop} (hs : (st.map fun v => v.category).sum ≤ 8) (hr : gm_kd h a = 5) (hd : 1 ≤ d) (hc : gm_Ca E (d - 1) 45 [.ref a] h Qc) (kn : ∀ (v9 : Option Value) (h9 : gm_H), Qc (.inl v9) h9 → gm_W E d 46 121 lv (v9.toList ++ st) h9 Q) (kx : ∀ (x9 : Nat) (h9 : gm_H), Qc (.inr x9) h9 → Q (.inr x9) h9) : gm_W E d 46 118 lv (.ref a :: st) h Q := gw_call (gn_call m46 f46_118 rfl rfl rfl rfl rfl rfl rfl (gs_virt (bs := []) (w := 860) (L := 2) rfl rfl rfl rfl hs (by simp [gm_en1]) hr (by decide)) (by decide)) m46 rfl rfl hd hc kn kx
theorem f46_121 : gm_ft 46 121 = some (.goto (-18), 3) := by decide +kernel
theorem r46_121 {E : Nat → Value} {d : Nat} {st : List Value} {h : gm_H} {Q : gm_R → gm_H → Prop} {lv : List Value} : gm_W E d 46 121 lv st h Q ↔ gm_W E d 46 103 lv st h Q := gw_brT m46 f46_121 rfl rfl rfl rfl
theorem f46_124 : gm_ft 46 124 = some (.aload_n 0, 1) := by decide +kernel
theorem r46_124 {E : Nat → Value} {d : Nat} {st : List Value} {h : gm_H} {Q : gm_R → gm_H → Prop} {a1 a2 a3 a4 a5 a6 : Value} {x : Nat} : gm_W E d 46 124 [.ref x, a1, a2, a3, a4, a5, a6] st h Q ↔ gm_W E d 46 125 [.ref x, a1, a2, a3, a4, a5, a6] (.ref x :: st) h Q := gw_loc m46 f46_124 rfl rfl
theorem r46_124n {E : Nat → Value} {d : Nat} {st : List Value} {h : gm_H} {Q : gm_R → gm_H → Prop} {a1 a2 a3 a4 a5 a6 : Value}  : gm_W E d 46 124 [.null, a1, a2, a3, a4, a5, a6] st h Q ↔ gm_W E d 46 125 [.null, a1, a2, a3, a4, a5, a6] (.null :: st) h Q := gw_loc m46 f46_124 rfl rfl
theorem f46_125 : gm_ft 46 125 = some (.getfield 145, 3) := by decide +kernel
theorem r46_125 {E : Nat → Value} {d : Nat} {st : List Value} {h : gm_H} {Q : gm_R → gm_H → Prop} {lv : List Value} {a : Nat} (hk : gm_kd h a = 5) : gm_W E d 46 125 lv (.ref a :: st) h Q ↔ gm_W E d 46 128 lv (gm_fv h a 8 :: st) h Q := gw_rd m46 f46_125 rfl rfl rfl rfl (gs_get k5_145 hk (by decide))
theorem f46_128 : gm_ft 46 128 = some (.ifCond .ne 8, 3) := by decide +kernel
theorem r46_128 {E : Nat → Value} {d : Nat} {st : List Value} {h : gm_H} {Q : gm_R → gm_H → Prop} {lv : List Value} {x : Int32} : gm_W E d 46 128 lv (.int x :: st) h Q ↔ (if x = 0 then gm_W E d 46 131 lv st h Q else gm_W E d 46 136 lv st h Q) := (gw_br m46 f46_128 rfl rfl rfl rfl).trans gw_ifn
theorem f46_131 : gm_ft 46 131 = some (.aload_n 0, 1) := by decide +kernel
theorem r46_131 {E : Nat → Value} {d : Nat} {st : List Value} {h : gm_H} {Q : gm_R → gm_H → Prop} {a1 a2 a3 a4 a5 a6 : Value} {x : Nat} : gm_W E d 46 131 [.ref x, a1, a2, a3, a4, a5, a6] st h Q ↔ gm_W E d 46 132 [.ref x, a1, a2, a3, a4, a5, a6] (.ref x :: st) h Q := gw_loc m46 f46_131 rfl rfl
theorem r46_131n {E : Nat → Value} {d : Nat} {st : List Value} {h : gm_H} {Q : gm_R → gm_H → Prop} {a1 a2 a3 a4 a5 a6 : Value}  : gm_W E d 46 131 [.null, a1, a2, a3, a4, a5, a6] st h Q ↔ gm_W E d 46 132 [.null, a1, a2, a3, a4, a5, a6] (.null :: st) h Q := gw_loc m46 f46_131 rfl rfl
theorem f46_132 : gm_ft 46 132 = some (.getfield 178, 3) := by decide +kernel
theorem r46_132 {E : Nat → Value} {d : Nat} {st : List Value} {h : gm_H} {Q : gm_R → gm_H → Prop} {lv : List Value} {a : Nat} (hk : gm_kd h a = 5) : gm_W E d 46 132 lv (.ref a :: st) h Q ↔ gm_W E d 46 135 lv (gm_fv h a 9 :: st) h Q := gw_rd m46 f46_132 rfl rfl rfl rfl (gs_get k5_178 hk (by decide))
theorem f46_135 : gm_ft 46 135 = some (.ireturn, 1) := by decide +kernel
theorem r46_135 {E : Nat → Value} {d : Nat} {h : gm_H} {Q : gm_R → gm_H → Prop} {lv : List Value} {x : Int32} : gm_W E d 46 135 lv [.int x] h Q ↔ Q (.inl (some (.int x))) h := gw_ret m46 f46_135 rfl rfl rfl rfl rfl rfl rfl rfl (by unfold gm_rt; dsimp only; rw [if_pos ⟨rfl, rfl⟩])
theorem f46_136 : gm_ft 46 136 = some (.aload_n 0, 1) := by decide +kernel
theorem r46_136 {E : Nat → Value} {d : Nat} {st : List Value} {h : gm_H} {Q : gm_R → gm_H → Prop} {a1 a2 a3 a4 a5 a6 : Value} {x : Nat} : gm_W E d 46 136 [.ref x, a1, a2, a3, a4, a5, a6] st h Q ↔ gm_W E d 46 137 [.ref x, a1, a2, a3, a4, a5, a6] (.ref x :: st) h Q := gw_loc m46 f46_136 rfl rfl
theorem r46_136n {E : Nat → Value} {d : Nat} {st : List Value} {h : gm_H} {Q : gm_R → gm_H → Prop} {a1 a2 a3 a4 a5 a6 : Value}  : gm_W E d 46 136 [.null, a1, a2, a3, a4, a5, a6] st h Q ↔ gm_W E d 46 137 [.null, a1, a2, a3, a4, a5, a6] (.null :: st) h Q := gw_loc m46 f46_136 rfl rfl
theorem f46_137 : gm_ft 46 137 = some (.iload_n 1, 1) := by decide +kernel
theorem r46_137 {E : Nat → Value} {d : Nat} {st : List Value} {h : gm_H} {Q : gm_R → gm_H → Prop} {a0 a2 a3 a4 a5 a6 : Value} {x : Int32} : gm_W E d 46 137 [a0, .int x, a2, a3, a4, a5, a6] st h Q ↔ gm_W E d 46 138 [a0, .int x, a2, a3, a4, a5, a6] (.int x :: st) h Q := gw_loc m46 f46_137 rfl rfl
theorem f46_138 : gm_ft 46 138 = some (.putfield 148, 3) := by decide +kernel
theorem r46_138 {E : Nat → Value} {d : Nat} {st : List Value} {h : gm_H} {Q : gm_R → gm_H → Prop} {lv : List Value} {a : Nat} {x : Int32} (hk : gm_kd h a = 5) : gm_W E d 46 138 lv (.int x :: .ref a :: st) h Q ↔ gm_W E d 46 141 lv st (gm_sf h a 6 (.int x)) Q := gw_wr m46 f46_138 rfl rfl rfl rfl rfl (gs_put k5_148 hk (by decide) (by decide) ⟨rfl, rfl⟩ (by decide))
theorem f46_141 : gm_ft 46 141 = some (.aload_n 0, 1) := by decide +kernel
theorem r46_141 {E : Nat → Value} {d : Nat} {st : List Value} {h : gm_H} {Q : gm_R → gm_H → Prop} {a1 a2 a3 a4 a5 a6 : Value} {x : Nat} : gm_W E d 46 141 [.ref x, a1, a2, a3, a4, a5, a6] st h Q ↔ gm_W E d 46 142 [.ref x, a1, a2, a3, a4, a5, a6] (.ref x :: st) h Q := gw_loc m46 f46_141 rfl rfl
theorem r46_141n {E : Nat → Value} {d : Nat} {st : List Value} {h : gm_H} {Q : gm_R → gm_H → Prop} {a1 a2 a3 a4 a5 a6 : Value}  : gm_W E d 46 141 [.null, a1, a2, a3, a4, a5, a6] st h Q ↔ gm_W E d 46 142 [.null, a1, a2, a3, a4, a5, a6] (.null :: st) h Q := gw_loc m46 f46_141 rfl rfl
theorem f46_142 : gm_ft 46 142 = some (.iload_n 2, 1) := by decide +kernel
theorem r46_142 {E : Nat → Value} {d : Nat} {st : List Value} {h : gm_H} {Q : gm_R → gm_H → Prop} {a0 a1 a3 a4 a5 a6 : Value} {x : Int32} : gm_W E d 46 142 [a0, a1, .int x, a3, a4, a5, a6] st h Q ↔ gm_W E d 46 143 [a0, a1, .int x, a3, a4, a5, a6] (.int x :: st) h Q := gw_loc m46 f46_142 rfl rfl
theorem f46_143 : gm_ft 46 143 = some (.putfield 139, 3) := by decide +kernel
theorem r46_143 {E : Nat → Value} {d : Nat} {st : List Value} {h : gm_H} {Q : gm_R → gm_H → Prop} {lv : List Value} {a : Nat} {x : Int32} (hk : gm_kd h a = 5) : gm_W E d 46 143 lv (.int x :: .ref a :: st) h Q ↔ gm_W E d 46 146 lv st (gm_sf h a 23 (.int x)) Q := gw_wr m46 f46_143 rfl rfl rfl rfl rfl (gs_put k5_139 hk (by decide) (by decide) ⟨rfl, rfl⟩ (by decide))
theorem f46_146 : gm_ft 46 146 = some (.aload_n 0, 1) := by decide +kernel
theorem r46_146 {E : Nat → Value} {d : Nat} {st : List Value} {h : gm_H} {Q : gm_R → gm_H → Prop} {a1 a2 a3 a4 a5 a6 : Value} {x : Nat} : gm_W E d 46 146 [.ref x, a1, a2, a3, a4, a5, a6] st h Q ↔ gm_W E d 46 147 [.ref x, a1, a2, a3, a4, a5, a6] (.ref x :: st) h Q := gw_loc m46 f46_146 rfl rfl
theorem r46_146n {E : Nat → Value} {d : Nat} {st : List Value} {h : gm_H} {Q : gm_R → gm_H → Prop} {a1 a2 a3 a4 a5 a6 : Value}  : gm_W E d 46 146 [.null, a1, a2, a3, a4, a5, a6] st h Q ↔ gm_W E d 46 147 [.null, a1, a2, a3, a4, a5, a6] (.null :: st) h Q := gw_loc m46 f46_146 rfl rfl
theorem f46_147 : gm_ft 46 147 = some (.iload_n 3, 1) := by decide +kernel
theorem r46_147 {E : Nat → Value} {d : Nat} {st : List Value} {h : gm_H} {Q : gm_R → gm_H → Prop} {a0 a1 a2 a4 a5 a6 : Value} {x : Int32} : gm_W E d 46 147 [a0, a1, a2, .int x, a4, a5, a6] st h Q ↔ gm_W E d 46 148 [a0, a1, a2, .int x, a4, a5, a6] (.int x :: st) h Q := gw_loc m46 f46_147 rfl rfl
theorem f46_148 : gm_ft 46 148 = some (.putfield 163, 3) := by decide +kernel
theorem r46_148 {E : Nat → Value} {d : Nat} {st : List Value} {h : gm_H} {Q : gm_R → gm_H → Prop} {lv : List Value} {a : Nat} {x : Int32} (hk : gm_kd h a = 5) : gm_W E d 46 148 lv (.int x :: .ref a :: st) h Q ↔ gm_W E d 46 151 lv st (gm_sf h a 25 (.int x)) Q := gw_wr m46 f46_148 rfl rfl rfl rfl rfl (gs_put k5_163 hk (by decide) (by decide) ⟨rfl, rfl⟩ (by decide))
theorem f46_151 : gm_ft 46 151 = some (.aload_n 0, 1) := by decide +kernel
theorem r46_151 {E : Nat → Value} {d : Nat} {st : List Value} {h : gm_H} {Q : gm_R → gm_H → Prop} {a1 a2 a3 a4 a5 a6 : Value} {x : Nat} : gm_W E d 46 151 [.ref x, a1, a2, a3, a4, a5, a6] st h Q ↔ gm_W E d 46 152 [.ref x, a1, a2, a3, a4, a5, a6] (.ref x :: st) h Q := gw_loc m46 f46_151 rfl rfl
theorem r46_151n {E : Nat → Value} {d : Nat} {st : List Value} {h : gm_H} {Q : gm_R → gm_H → Prop} {a1 a2 a3 a4 a5 a6 : Value}  : gm_W E d 46 151 [.null, a1, a2, a3, a4, a5, a6] st h Q ↔ gm_W E d 46 152 [.null, a1, a2, a3, a4, a5, a6] (.null :: st) h Q := gw_loc m46 f46_151 rfl rfl
theorem f46_152 : gm_ft 46 152 = some (.iload 4, 2) := by decide +kernel
theorem r46_152 {E : Nat → Value} {d : Nat} {st : List Value} {h : gm_H} {Q : gm_R → gm_H → Prop} {a0 a1 a2 a3 a5 a6 : Value} {x : Int32} : gm_W E d 46 152 [a0, a1, a2, a3, .int x, a5, a6] st h Q ↔ gm_W E d 46 154 [a0, a1, a2, a3, .int x, a5, a6] (.int x :: st) h Q := gw_loc m46 f46_152 rfl rfl
theorem f46_154 : gm_ft 46 154 = some (.putfield 166, 3) := by decide +kernel
theorem r46_154 {E : Nat → Value} {d : Nat} {st : List Value} {h : gm_H} {Q : gm_R → gm_H → Prop} {lv : List Value} {a : Nat} {x : Int32} (hk : gm_kd h a = 5) : gm_W E d 46 154 lv (.int x :: .ref a :: st) h Q ↔ gm_W E d 46 157 lv st (gm_sf h a 28 (.int x)) Q := gw_wr m46 f46_154 rfl rfl rfl rfl rfl (gs_put k5_166 hk (by decide) (by decide) ⟨rfl, rfl⟩ (by decide))
theorem f46_157 : gm_ft 46 157 = some (.aload_n 0, 1) := by decide +kernel
theorem r46_157 {E : Nat → Value} {d : Nat} {st : List Value} {h : gm_H} {Q : gm_R → gm_H → Prop} {a1 a2 a3 a4 a5 a6 : Value} {x : Nat} : gm_W E d 46 157 [.ref x, a1, a2, a3, a4, a5, a6] st h Q ↔ gm_W E d 46 158 [.ref x, a1, a2, a3, a4, a5, a6] (.ref x :: st) h Q := gw_loc m46 f46_157 rfl rfl
theorem r46_157n {E : Nat → Value} {d : Nat} {st : List Value} {h : gm_H} {Q : gm_R → gm_H → Prop} {a1 a2 a3 a4 a5 a6 : Value}  : gm_W E d 46 157 [.null, a1, a2, a3, a4, a5, a6] st h Q ↔ gm_W E d 46 158 [.null, a1, a2, a3, a4, a5, a6] (.null :: st) h Q := gw_loc m46 f46_157 rfl rfl
theorem f46_158 : gm_ft 46 158 = some (.iload 5, 2) := by decide +kernel
theorem r46_158 {E : Nat → Value} {d : Nat} {st : List Value} {h : gm_H} {Q : gm_R → gm_H → Prop} {a0 a1 a2 a3 a4 a6 : Value} {x : Int32} : gm_W E d 46 158 [a0, a1, a2, a3, a4, .int x, a6] st h Q ↔ gm_W E d 46 160 [a0, a1, a2, a3, a4, .int x, a6] (.int x :: st) h Q := gw_loc m46 f46_158 rfl rfl
theorem f46_160 : gm_ft 46 160 = some (.putfield 169, 3) := by decide +kernel
theorem r46_160 {E : Nat → Value} {d : Nat} {st : List Value} {h : gm_H} {Q : gm_R → gm_H → Prop} {lv : List Value} {a : Nat} {x : Int32} (hk : gm_kd h a = 5) : gm_W E d 46 160 lv (.int x :: .ref a :: st) h Q ↔ gm_W E d 46 163 lv st (gm_sf h a 39 (.int x)) Q := gw_wr m46 f46_160 rfl rfl rfl rfl rfl (gs_put k5_169 hk (by decide) (by decide) ⟨rfl, rfl⟩ (by decide))
theorem f46_163 : gm_ft 46 163 = some (.iconst 0, 1) := by decide +kernel
theorem r46_163 {E : Nat → Value} {d : Nat} {st : List Value} {h : gm_H} {Q : gm_R → gm_H → Prop} {lv : List Value} : gm_W E d 46 163 lv st h Q ↔ gm_W E d 46 164 lv (.int (0 : Int32) :: st) h Q := gw_pure m46 f46_163 rfl
theorem f46_164 : gm_ft 46 164 = some (.istore 6, 2) := by decide +kernel
theorem r46_164 {E : Nat → Value} {d : Nat} {st : List Value} {h : gm_H} {Q : gm_R → gm_H → Prop} {a0 a1 a2 a3 a4 a5 a6 : Value} {x : Int32} : gm_W E d 46 164 [a0, a1, a2, a3, a4, a5, a6] (.int x :: st) h Q ↔ gm_W E d 46 166 [a0, a1, a2, a3, a4, gm_k a5, .int x] st h Q := gw_loc m46 f46_164 rfl rfl
theorem f46_166 : gm_ft 46 166 = some (.iload 6, 2) := by decide +kernel
theorem r46_166 {E : Nat → Value} {d : Nat} {st : List Value} {h : gm_H} {Q : gm_R → gm_H → Prop} {a0 a1 a2 a3 a4 a5 : Value} {x : Int32} : gm_W E d 46 166 [a0, a1, a2, a3, a4, a5, .int x] st h Q ↔ gm_W E d 46 168 [a0, a1, a2, a3, a4, a5, .int x] (.int x :: st) h Q := gw_loc m46 f46_166 rfl rfl
theorem f46_168 : gm_ft 46 168 = some (.aload_n 0, 1) := by decide +kernel
theorem r46_168 {E : Nat → Value} {d : Nat} {st : List Value} {h : gm_H} {Q : gm_R → gm_H → Prop} {a1 a2 a3 a4 a5 a6 : Value} {x : Nat} : gm_W E d 46 168 [.ref x, a1, a2, a3, a4, a5, a6] st h Q ↔ gm_W E d 46 169 [.ref x, a1, a2, a3, a4, a5, a6] (.ref x :: st) h Q := gw_loc m46 f46_168 rfl rfl
theorem r46_168n {E : Nat → Value} {d : Nat} {st : List Value} {h : gm_H} {Q : gm_R → gm_H → Prop} {a1 a2 a3 a4 a5 a6 : Value}  : gm_W E d 46 168 [.null, a1, a2, a3, a4, a5, a6] st h Q ↔ gm_W E d 46 169 [.null, a1, a2, a3, a4, a5, a6] (.null :: st) h Q := gw_loc m46 f46_168 rfl rfl
theorem f46_169 : gm_ft 46 169 = some (.getfield 166, 3) := by decide +kernel
theorem r46_169 {E : Nat → Value} {d : Nat} {st : List Value} {h : gm_H} {Q : gm_R → gm_H → Prop} {lv : List Value} {a : Nat} (hk : gm_kd h a = 5) : gm_W E d 46 169 lv (.ref a :: st) h Q ↔ gm_W E d 46 172 lv (gm_fv h a 28 :: st) h Q := gw_rd m46 f46_169 rfl rfl rfl rfl (gs_get k5_166 hk (by decide))
theorem f46_172 : gm_ft 46 172 = some (.if_icmp .ge 37, 3) := by decide +kernel
theorem r46_172 {E : Nat → Value} {d : Nat} {st : List Value} {h : gm_H} {Q : gm_R → gm_H → Prop} {lv : List Value} {x y : Int32} : gm_W E d 46 172 lv (.int y :: .int x :: st) h Q ↔ (if y ≤ x then gm_W E d 46 209 lv st h Q else gm_W E d 46 175 lv st h Q) := (gw_br m46 f46_172 rfl rfl rfl rfl).trans gw_if
theorem f46_175 : gm_ft 46 175 = some (.aload_n 0, 1) := by decide +kernel
theorem r46_175 {E : Nat → Value} {d : Nat} {st : List Value} {h : gm_H} {Q : gm_R → gm_H → Prop} {a1 a2 a3 a4 a5 a6 : Value} {x : Nat} : gm_W E d 46 175 [.ref x, a1, a2, a3, a4, a5, a6] st h Q ↔ gm_W E d 46 176 [.ref x, a1, a2, a3, a4, a5, a6] (.ref x :: st) h Q := gw_loc m46 f46_175 rfl rfl
theorem r46_175n {E : Nat → Value} {d : Nat} {st : List Value} {h : gm_H} {Q : gm_R → gm_H → Prop} {a1 a2 a3 a4 a5 a6 : Value}  : gm_W E d 46 175 [.null, a1, a2, a3, a4, a5, a6] st h Q ↔ gm_W E d 46 176 [.null, a1, a2, a3, a4, a5, a6] (.null :: st) h Q := gw_loc m46 f46_175 rfl rfl
theorem f46_176 : gm_ft 46 176 = some (.getfield 57, 3) := by decide +kernel
theorem r46_176 {E : Nat → Value} {d : Nat} {st : List Value} {h : gm_H} {Q : gm_R → gm_H → Prop} {lv : List Value} {a : Nat} (hk : gm_kd h a = 5) : gm_W E d 46 176 lv (.ref a :: st) h Q ↔ gm_W E d 46 179 lv (gm_fv h a 26 :: st) h Q := gw_rd m46 f46_176 rfl rfl rfl rfl (gs_get k5_57 hk (by decide))
theorem f46_179 : gm_ft 46 179 = some (.iload 6, 2) := by decide +kernel
theorem r46_179 {E : Nat → Value} {d : Nat} {st : List Value} {h : gm_H} {Q : gm_R → gm_H → Prop} {a0 a1 a2 a3 a4 a5 : Value} {x : Int32} : gm_W E d 46 179 [a0, a1, a2, a3, a4, a5, .int x] st h Q ↔ gm_W E d 46 181 [a0, a1, a2, a3, a4, a5, .int x] (.int x :: st) h Q := gw_loc m46 f46_179 rfl rfl
theorem f46_181 : gm_ft 46 181 = some (.aload_n 0, 1) := by decide +kernel
theorem r46_181 {E : Nat → Value} {d : Nat} {st : List Value} {h : gm_H} {Q : gm_R → gm_H → Prop} {a1 a2 a3 a4 a5 a6 : Value} {x : Nat} : gm_W E d 46 181 [.ref x, a1, a2, a3, a4, a5, a6] st h Q ↔ gm_W E d 46 182 [.ref x, a1, a2, a3, a4, a5, a6] (.ref x :: st) h Q := gw_loc m46 f46_181 rfl rfl
theorem r46_181n {E : Nat → Value} {d : Nat} {st : List Value} {h : gm_H} {Q : gm_R → gm_H → Prop} {a1 a2 a3 a4 a5 a6 : Value}  : gm_W E d 46 181 [.null, a1, a2, a3, a4, a5, a6] st h Q ↔ gm_W E d 46 182 [.null, a1, a2, a3, a4, a5, a6] (.null :: st) h Q := gw_loc m46 f46_181 rfl rfl
theorem f46_182 : gm_ft 46 182 = some (.getfield 63, 3) := by decide +kernel
theorem r46_182 {E : Nat → Value} {d : Nat} {st : List Value} {h : gm_H} {Q : gm_R → gm_H → Prop} {lv : List Value} {a : Nat} (hk : gm_kd h a = 5) : gm_W E d 46 182 lv (.ref a :: st) h Q ↔ gm_W E d 46 185 lv (gm_fv h a 29 :: st) h Q := gw_rd m46 f46_182 rfl rfl rfl rfl (gs_get k5_63 hk (by decide))
theorem f46_185 : gm_ft 46 185 = some (.iload 6, 2) := by decide +kernel
theorem r46_185 {E : Nat → Value} {d : Nat} {st : List Value} {h : gm_H} {Q : gm_R → gm_H → Prop} {a0 a1 a2 a3 a4 a5 : Value} {x : Int32} : gm_W E d 46 185 [a0, a1, a2, a3, a4, a5, .int x] st h Q ↔ gm_W E d 46 187 [a0, a1, a2, a3, a4, a5, .int x] (.int x :: st) h Q := gw_loc m46 f46_185 rfl rfl
theorem f46_187 : gm_ft 46 187 = some (.iaload, 1) := by decide +kernel
theorem r46_187 {E : Nat → Value} {d : Nat} {st : List Value} {h : gm_H} {Q : gm_R → gm_H → Prop} {lv : List Value} {a j : Nat} (hk : gm_kd h a % 100 = 0 ∧ 100 ≤ gm_kd h a ∧ gm_kd h a < 900) (hj : j < gm_ln h a) (hl : gm_ln h a < 2 ^ 31) : gm_W E d 46 187 lv (.int (nI j) :: .ref a :: st) h Q ↔ gm_W E d 46 188 lv (gm_fv h a j :: st) h Q := gw_rd m46 f46_187 rfl rfl rfl rfl (gs_ld (P := fun t => t == 0) hk.2 (by have := hk.1; simp [this] <;> omega) hj hl)
theorem f46_188 : gm_ft 46 188 = some (.iastore, 1) := by decide +kernel
theorem r46_188 {E : Nat → Value} {d : Nat} {st : List Value} {h : gm_H} {Q : gm_R → gm_H → Prop} {lv : List Value} {a j : Nat} {x : Int32} (hk : gm_kd h a = 200) (hj : j < gm_ln h a) (hl : gm_ln h a < 2 ^ 31) : gm_W E d 46 188 lv (.int x :: .int (nI j) :: .ref a :: st) h Q ↔ gm_W E d 46 189 lv st (gm_sf h a j (.int x)) Q := gw_wr m46 f46_188 rfl rfl rfl rfl rfl (gs_st hk (by decide) hj hl)
theorem f46_189 : gm_ft 46 189 = some (.aload_n 0, 1) := by decide +kernel
theorem r46_189 {E : Nat → Value} {d : Nat} {st : List Value} {h : gm_H} {Q : gm_R → gm_H → Prop} {a1 a2 a3 a4 a5 a6 : Value} {x : Nat} : gm_W E d 46 189 [.ref x, a1, a2, a3, a4, a5, a6] st h Q ↔ gm_W E d 46 190 [.ref x, a1, a2, a3, a4, a5, a6] (.ref x :: st) h Q := gw_loc m46 f46_189 rfl rfl
theorem r46_189n {E : Nat → Value} {d : Nat} {st : List Value} {h : gm_H} {Q : gm_R → gm_H → Prop} {a1 a2 a3 a4 a5 a6 : Value}  : gm_W E d 46 189 [.null, a1, a2, a3, a4, a5, a6] st h Q ↔ gm_W E d 46 190 [.null, a1, a2, a3, a4, a5, a6] (.null :: st) h Q := gw_loc m46 f46_189 rfl rfl
theorem f46_190 : gm_ft 46 190 = some (.getfield 60, 3) := by decide +kernel
theorem r46_190 {E : Nat → Value} {d : Nat} {st : List Value} {h : gm_H} {Q : gm_R → gm_H → Prop} {lv : List Value} {a : Nat} (hk : gm_kd h a = 5) : gm_W E d 46 190 lv (.ref a :: st) h Q ↔ gm_W E d 46 193 lv (gm_fv h a 27 :: st) h Q := gw_rd m46 f46_190 rfl rfl rfl rfl (gs_get k5_60 hk (by decide))
theorem f46_193 : gm_ft 46 193 = some (.iload 6, 2) := by decide +kernel
theorem r46_193 {E : Nat → Value} {d : Nat} {st : List Value} {h : gm_H} {Q : gm_R → gm_H → Prop} {a0 a1 a2 a3 a4 a5 : Value} {x : Int32} : gm_W E d 46 193 [a0, a1, a2, a3, a4, a5, .int x] st h Q ↔ gm_W E d 46 195 [a0, a1, a2, a3, a4, a5, .int x] (.int x :: st) h Q := gw_loc m46 f46_193 rfl rfl
theorem f46_195 : gm_ft 46 195 = some (.aload_n 0, 1) := by decide +kernel
theorem r46_195 {E : Nat → Value} {d : Nat} {st : List Value} {h : gm_H} {Q : gm_R → gm_H → Prop} {a1 a2 a3 a4 a5 a6 : Value} {x : Nat} : gm_W E d 46 195 [.ref x, a1, a2, a3, a4, a5, a6] st h Q ↔ gm_W E d 46 196 [.ref x, a1, a2, a3, a4, a5, a6] (.ref x :: st) h Q := gw_loc m46 f46_195 rfl rfl
theorem r46_195n {E : Nat → Value} {d : Nat} {st : List Value} {h : gm_H} {Q : gm_R → gm_H → Prop} {a1 a2 a3 a4 a5 a6 : Value}  : gm_W E d 46 195 [.null, a1, a2, a3, a4, a5, a6] st h Q ↔ gm_W E d 46 196 [.null, a1, a2, a3, a4, a5, a6] (.null :: st) h Q := gw_loc m46 f46_195 rfl rfl
theorem f46_196 : gm_ft 46 196 = some (.getfield 66, 3) := by decide +kernel
theorem r46_196 {E : Nat → Value} {d : Nat} {st : List Value} {h : gm_H} {Q : gm_R → gm_H → Prop} {lv : List Value} {a : Nat} (hk : gm_kd h a = 5) : gm_W E d 46 196 lv (.ref a :: st) h Q ↔ gm_W E d 46 199 lv (gm_fv h a 30 :: st) h Q := gw_rd m46 f46_196 rfl rfl rfl rfl (gs_get k5_66 hk (by decide))
theorem f46_199 : gm_ft 46 199 = some (.iload 6, 2) := by decide +kernel
theorem r46_199 {E : Nat → Value} {d : Nat} {st : List Value} {h : gm_H} {Q : gm_R → gm_H → Prop} {a0 a1 a2 a3 a4 a5 : Value} {x : Int32} : gm_W E d 46 199 [a0, a1, a2, a3, a4, a5, .int x] st h Q ↔ gm_W E d 46 201 [a0, a1, a2, a3, a4, a5, .int x] (.int x :: st) h Q := gw_loc m46 f46_199 rfl rfl
theorem f46_201 : gm_ft 46 201 = some (.iaload, 1) := by decide +kernel
theorem r46_201 {E : Nat → Value} {d : Nat} {st : List Value} {h : gm_H} {Q : gm_R → gm_H → Prop} {lv : List Value} {a j : Nat} (hk : gm_kd h a % 100 = 0 ∧ 100 ≤ gm_kd h a ∧ gm_kd h a < 900) (hj : j < gm_ln h a) (hl : gm_ln h a < 2 ^ 31) : gm_W E d 46 201 lv (.int (nI j) :: .ref a :: st) h Q ↔ gm_W E d 46 202 lv (gm_fv h a j :: st) h Q := gw_rd m46 f46_201 rfl rfl rfl rfl (gs_ld (P := fun t => t == 0) hk.2 (by have := hk.1; simp [this] <;> omega) hj hl)
theorem f46_202 : gm_ft 46 202 = some (.iastore, 1) := by decide +kernel
theorem r46_202 {E : Nat → Value} {d : Nat} {st : List Value} {h : gm_H} {Q : gm_R → gm_H → Prop} {lv : List Value} {a j : Nat} {x : Int32} (hk : gm_kd h a = 200) (hj : j < gm_ln h a) (hl : gm_ln h a < 2 ^ 31) : gm_W E d 46 202 lv (.int x :: .int (nI j) :: .ref a :: st) h Q ↔ gm_W E d 46 203 lv st (gm_sf h a j (.int x)) Q := gw_wr m46 f46_202 rfl rfl rfl rfl rfl (gs_st hk (by decide) hj hl)
theorem f46_203 : gm_ft 46 203 = some (.iinc 6 1, 3) := by decide +kernel
theorem r46_203 {E : Nat → Value} {d : Nat} {st : List Value} {h : gm_H} {Q : gm_R → gm_H → Prop} {a0 a1 a2 a3 a4 a5 : Value} {x : Int32} : gm_W E d 46 203 [a0, a1, a2, a3, a4, a5, .int x] st h Q ↔ gm_W E d 46 206 [a0, a1, a2, a3, a4, gm_k a5, .int (x + (1 : Int32))] st h Q := gw_loc m46 f46_203 rfl rfl
theorem f46_206 : gm_ft 46 206 = some (.goto (-40), 3) := by decide +kernel
theorem r46_206 {E : Nat → Value} {d : Nat} {st : List Value} {h : gm_H} {Q : gm_R → gm_H → Prop} {lv : List Value} : gm_W E d 46 206 lv st h Q ↔ gm_W E d 46 166 lv st h Q := gw_brT m46 f46_206 rfl rfl rfl rfl
theorem f46_209 : gm_ft 46 209 = some (.aload_n 0, 1) := by decide +kernel
theorem r46_209 {E : Nat → Value} {d : Nat} {st : List Value} {h : gm_H} {Q : gm_R → gm_H → Prop} {a1 a2 a3 a4 a5 a6 : Value} {x : Nat} : gm_W E d 46 209 [.ref x, a1, a2, a3, a4, a5, a6] st h Q ↔ gm_W E d 46 210 [.ref x, a1, a2, a3, a4, a5, a6] (.ref x :: st) h Q := gw_loc m46 f46_209 rfl rfl
theorem r46_209n {E : Nat → Value} {d : Nat} {st : List Value} {h : gm_H} {Q : gm_R → gm_H → Prop} {a1 a2 a3 a4 a5 a6 : Value}  : gm_W E d 46 209 [.null, a1, a2, a3, a4, a5, a6] st h Q ↔ gm_W E d 46 210 [.null, a1, a2, a3, a4, a5, a6] (.null :: st) h Q := gw_loc m46 f46_209 rfl rfl
theorem f46_210 : gm_ft 46 210 = some (.getfield 145, 3) := by decide +kernel
theorem r46_210 {E : Nat → Value} {d : Nat} {st : List Value} {h : gm_H} {Q : gm_R → gm_H → Prop} {lv : List Value} {a : Nat} (hk : gm_kd h a = 5) : gm_W E d 46 210 lv (.ref a :: st) h Q ↔ gm_W E d 46 213 lv (gm_fv h a 8 :: st) h Q := gw_rd m46 f46_210 rfl rfl rfl rfl (gs_get k5_145 hk (by decide))
theorem f46_213 : gm_ft 46 213 = some (.bipush (-7), 2) := by decide +kernel
theorem r46_213 {E : Nat → Value} {d : Nat} {st : List Value} {h : gm_H} {Q : gm_R → gm_H → Prop} {lv : List Value} : gm_W E d 46 213 lv st h Q ↔ gm_W E d 46 215 lv (.int (-7 : Int32) :: st) h Q := gw_pure m46 f46_213 rfl
theorem f46_215 : gm_ft 46 215 = some (.if_icmp .eq 11, 3) := by decide +kernel
theorem r46_215 {E : Nat → Value} {d : Nat} {st : List Value} {h : gm_H} {Q : gm_R → gm_H → Prop} {lv : List Value} {x y : Int32} : gm_W E d 46 215 lv (.int y :: .int x :: st) h Q ↔ (if x = y then gm_W E d 46 226 lv st h Q else gm_W E d 46 218 lv st h Q) := (gw_br m46 f46_215 rfl rfl rfl rfl).trans gw_if
theorem f46_218 : gm_ft 46 218 = some (.aload_n 0, 1) := by decide +kernel
theorem r46_218 {E : Nat → Value} {d : Nat} {st : List Value} {h : gm_H} {Q : gm_R → gm_H → Prop} {a1 a2 a3 a4 a5 a6 : Value} {x : Nat} : gm_W E d 46 218 [.ref x, a1, a2, a3, a4, a5, a6] st h Q ↔ gm_W E d 46 219 [.ref x, a1, a2, a3, a4, a5, a6] (.ref x :: st) h Q := gw_loc m46 f46_218 rfl rfl
theorem r46_218n {E : Nat → Value} {d : Nat} {st : List Value} {h : gm_H} {Q : gm_R → gm_H → Prop} {a1 a2 a3 a4 a5 a6 : Value}  : gm_W E d 46 218 [.null, a1, a2, a3, a4, a5, a6] st h Q ↔ gm_W E d 46 219 [.null, a1, a2, a3, a4, a5, a6] (.null :: st) h Q := gw_loc m46 f46_218 rfl rfl
theorem f46_219 : gm_ft 46 219 = some (.aload_n 0, 1) := by decide +kernel
theorem r46_219 {E : Nat → Value} {d : Nat} {st : List Value} {h : gm_H} {Q : gm_R → gm_H → Prop} {a1 a2 a3 a4 a5 a6 : Value} {x : Nat} : gm_W E d 46 219 [.ref x, a1, a2, a3, a4, a5, a6] st h Q ↔ gm_W E d 46 220 [.ref x, a1, a2, a3, a4, a5, a6] (.ref x :: st) h Q := gw_loc m46 f46_219 rfl rfl
theorem r46_219n {E : Nat → Value} {d : Nat} {st : List Value} {h : gm_H} {Q : gm_R → gm_H → Prop} {a1 a2 a3 a4 a5 a6 : Value}  : gm_W E d 46 219 [.null, a1, a2, a3, a4, a5, a6] st h Q ↔ gm_W E d 46 220 [.null, a1, a2, a3, a4, a5, a6] (.null :: st) h Q := gw_loc m46 f46_219 rfl rfl
theorem f46_220 : gm_ft 46 220 = some (.getfield 145, 3) := by decide +kernel
theorem r46_220 {E : Nat → Value} {d : Nat} {st : List Value} {h : gm_H} {Q : gm_R → gm_H → Prop} {lv : List Value} {a : Nat} (hk : gm_kd h a = 5) : gm_W E d 46 220 lv (.ref a :: st) h Q ↔ gm_W E d 46 223 lv (gm_fv h a 8 :: st) h Q := gw_rd m46 f46_220 rfl rfl rfl rfl (gs_get k5_145 hk (by decide))
theorem f46_223 : gm_ft 46 223 = some (.putfield 172, 3) := by decide +kernel
theorem r46_223 {E : Nat → Value} {d : Nat} {st : List Value} {h : gm_H} {Q : gm_R → gm_H → Prop} {lv : List Value} {a : Nat} {x : Int32} (hk : gm_kd h a = 5) : gm_W E d 46 223 lv (.int x :: .ref a :: st) h Q ↔ gm_W E d 46 226 lv st (gm_sf h a 7 (.int x)) Q := gw_wr m46 f46_223 rfl rfl rfl rfl rfl (gs_put k5_172 hk (by decide) (by decide) ⟨rfl, rfl⟩ (by decide))
theorem f46_226 : gm_ft 46 226 = some (.aload_n 0, 1) := by decide +kernel
theorem r46_226 {E : Nat → Value} {d : Nat} {st : List Value} {h : gm_H} {Q : gm_R → gm_H → Prop} {a1 a2 a3 a4 a5 a6 : Value} {x : Nat} : gm_W E d 46 226 [.ref x, a1, a2, a3, a4, a5, a6] st h Q ↔ gm_W E d 46 227 [.ref x, a1, a2, a3, a4, a5, a6] (.ref x :: st) h Q := gw_loc m46 f46_226 rfl rfl
theorem r46_226n {E : Nat → Value} {d : Nat} {st : List Value} {h : gm_H} {Q : gm_R → gm_H → Prop} {a1 a2 a3 a4 a5 a6 : Value}  : gm_W E d 46 226 [.null, a1, a2, a3, a4, a5, a6] st h Q ↔ gm_W E d 46 227 [.null, a1, a2, a3, a4, a5, a6] (.null :: st) h Q := gw_loc m46 f46_226 rfl rfl
theorem f46_227 : gm_ft 46 227 = some (.getfield 145, 3) := by decide +kernel
theorem r46_227 {E : Nat → Value} {d : Nat} {st : List Value} {h : gm_H} {Q : gm_R → gm_H → Prop} {lv : List Value} {a : Nat} (hk : gm_kd h a = 5) : gm_W E d 46 227 lv (.ref a :: st) h Q ↔ gm_W E d 46 230 lv (gm_fv h a 8 :: st) h Q := gw_rd m46 f46_227 rfl rfl rfl rfl (gs_get k5_145 hk (by decide))
theorem f46_230 : gm_ft 46 230 = some (.ireturn, 1) := by decide +kernel
theorem r46_230 {E : Nat → Value} {d : Nat} {h : gm_H} {Q : gm_R → gm_H → Prop} {lv : List Value} {x : Int32} : gm_W E d 46 230 lv [.int x] h Q ↔ Q (.inl (some (.int x))) h := gw_ret m46 f46_230 rfl rfl rfl rfl rfl rfl rfl rfl (by unfold gm_rt; dsimp only; rw [if_pos ⟨rfl, rfl⟩])
/-! GraphReaderModel.passBlock()I -/
theorem m47 : gm_mt[47]? = some (⟨"GraphReaderModel", "passBlock", "()I"⟩, prog_7_method_46_code, 3, (some .int), [], 5, 2) := rfl
theorem f47_0 : gm_ft 47 0 = some (.aload_n 0, 1) := by decide +kernel
theorem r47_0 {E : Nat → Value} {d : Nat} {st : List Value} {h : gm_H} {Q : gm_R → gm_H → Prop} {a1 a2 : Value} {x : Nat} : gm_W E d 47 0 [.ref x, a1, a2] st h Q ↔ gm_W E d 47 1 [.ref x, a1, a2] (.ref x :: st) h Q := gw_loc m47 f47_0 rfl rfl
theorem r47_0n {E : Nat → Value} {d : Nat} {st : List Value} {h : gm_H} {Q : gm_R → gm_H → Prop} {a1 a2 : Value}  : gm_W E d 47 0 [.null, a1, a2] st h Q ↔ gm_W E d 47 1 [.null, a1, a2] (.null :: st) h Q := gw_loc m47 f47_0 rfl rfl
theorem f47_1 : gm_ft 47 1 = some (.getfield 172, 3) := by decide +kernel
theorem r47_1 {E : Nat → Value} {d : Nat} {st : List Value} {h : gm_H} {Q : gm_R → gm_H → Prop} {lv : List Value} {a : Nat} (hk : gm_kd h a = 5) : gm_W E d 47 1 lv (.ref a :: st) h Q ↔ gm_W E d 47 4 lv (gm_fv h a 7 :: st) h Q := gw_rd m47 f47_1 rfl rfl rfl rfl (gs_get k5_172 hk (by decide))
theorem f47_4 : gm_ft 47 4 = some (.ifCond .eq 8, 3) := by decide +kernel
theorem r47_4 {E : Nat → Value} {d : Nat} {st : List Value} {h : gm_H} {Q : gm_R → gm_H → Prop} {lv : List Value} {x : Int32} : gm_W E d 47 4 lv (.int x :: st) h Q ↔ (if x = 0 then gm_W E d 47 12 lv st h Q else gm_W E d 47 7 lv st h Q) := (gw_br m47 f47_4 rfl rfl rfl rfl).trans gw_if
theorem f47_7 : gm_ft 47 7 = some (.aload_n 0, 1) := by decide +kernel
theorem r47_7 {E : Nat → Value} {d : Nat} {st : List Value} {h : gm_H} {Q : gm_R → gm_H → Prop} {a1 a2 : Value} {x : Nat} : gm_W E d 47 7 [.ref x, a1, a2] st h Q ↔ gm_W E d 47 8 [.ref x, a1, a2] (.ref x :: st) h Q := gw_loc m47 f47_7 rfl rfl
theorem r47_7n {E : Nat → Value} {d : Nat} {st : List Value} {h : gm_H} {Q : gm_R → gm_H → Prop} {a1 a2 : Value}  : gm_W E d 47 7 [.null, a1, a2] st h Q ↔ gm_W E d 47 8 [.null, a1, a2] (.null :: st) h Q := gw_loc m47 f47_7 rfl rfl
theorem f47_8 : gm_ft 47 8 = some (.getfield 172, 3) := by decide +kernel
theorem r47_8 {E : Nat → Value} {d : Nat} {st : List Value} {h : gm_H} {Q : gm_R → gm_H → Prop} {lv : List Value} {a : Nat} (hk : gm_kd h a = 5) : gm_W E d 47 8 lv (.ref a :: st) h Q ↔ gm_W E d 47 11 lv (gm_fv h a 7 :: st) h Q := gw_rd m47 f47_8 rfl rfl rfl rfl (gs_get k5_172 hk (by decide))
theorem f47_11 : gm_ft 47 11 = some (.ireturn, 1) := by decide +kernel
theorem r47_11 {E : Nat → Value} {d : Nat} {h : gm_H} {Q : gm_R → gm_H → Prop} {lv : List Value} {x : Int32} : gm_W E d 47 11 lv [.int x] h Q ↔ Q (.inl (some (.int x))) h := gw_ret m47 f47_11 rfl rfl rfl rfl rfl rfl rfl rfl (by unfold gm_rt; dsimp only; rw [if_pos ⟨rfl, rfl⟩])
theorem f47_12 : gm_ft 47 12 = some (.aload_n 0, 1) := by decide +kernel
theorem r47_12 {E : Nat → Value} {d : Nat} {st : List Value} {h : gm_H} {Q : gm_R → gm_H → Prop} {a1 a2 : Value} {x : Nat} : gm_W E d 47 12 [.ref x, a1, a2] st h Q ↔ gm_W E d 47 13 [.ref x, a1, a2] (.ref x :: st) h Q := gw_loc m47 f47_12 rfl rfl
theorem r47_12n {E : Nat → Value} {d : Nat} {st : List Value} {h : gm_H} {Q : gm_R → gm_H → Prop} {a1 a2 : Value}  : gm_W E d 47 12 [.null, a1, a2] st h Q ↔ gm_W E d 47 13 [.null, a1, a2] (.null :: st) h Q := gw_loc m47 f47_12 rfl rfl
theorem f47_13 : gm_ft 47 13 = some (.getfield 148, 3) := by decide +kernel
theorem r47_13 {E : Nat → Value} {d : Nat} {st : List Value} {h : gm_H} {Q : gm_R → gm_H → Prop} {lv : List Value} {a : Nat} (hk : gm_kd h a = 5) : gm_W E d 47 13 lv (.ref a :: st) h Q ↔ gm_W E d 47 16 lv (gm_fv h a 6 :: st) h Q := gw_rd m47 f47_13 rfl rfl rfl rfl (gs_get k5_148 hk (by decide))
theorem f47_16 : gm_ft 47 16 = some (.aload_n 0, 1) := by decide +kernel
theorem r47_16 {E : Nat → Value} {d : Nat} {st : List Value} {h : gm_H} {Q : gm_R → gm_H → Prop} {a1 a2 : Value} {x : Nat} : gm_W E d 47 16 [.ref x, a1, a2] st h Q ↔ gm_W E d 47 17 [.ref x, a1, a2] (.ref x :: st) h Q := gw_loc m47 f47_16 rfl rfl
theorem r47_16n {E : Nat → Value} {d : Nat} {st : List Value} {h : gm_H} {Q : gm_R → gm_H → Prop} {a1 a2 : Value}  : gm_W E d 47 16 [.null, a1, a2] st h Q ↔ gm_W E d 47 17 [.null, a1, a2] (.null :: st) h Q := gw_loc m47 f47_16 rfl rfl
theorem f47_17 : gm_ft 47 17 = some (.getfield 142, 3) := by decide +kernel
theorem r47_17 {E : Nat → Value} {d : Nat} {st : List Value} {h : gm_H} {Q : gm_R → gm_H → Prop} {lv : List Value} {a : Nat} (hk : gm_kd h a = 5) : gm_W E d 47 17 lv (.ref a :: st) h Q ↔ gm_W E d 47 20 lv (gm_fv h a 5 :: st) h Q := gw_rd m47 f47_17 rfl rfl rfl rfl (gs_get k5_142 hk (by decide))
theorem f47_20 : gm_ft 47 20 = some (.if_icmp .ge 31, 3) := by decide +kernel
theorem r47_20 {E : Nat → Value} {d : Nat} {st : List Value} {h : gm_H} {Q : gm_R → gm_H → Prop} {lv : List Value} {x y : Int32} : gm_W E d 47 20 lv (.int y :: .int x :: st) h Q ↔ (if y ≤ x then gm_W E d 47 51 lv st h Q else gm_W E d 47 23 lv st h Q) := (gw_br m47 f47_20 rfl rfl rfl rfl).trans gw_if
theorem f47_23 : gm_ft 47 23 = some (.aload_n 0, 1) := by decide +kernel
theorem r47_23 {E : Nat → Value} {d : Nat} {st : List Value} {h : gm_H} {Q : gm_R → gm_H → Prop} {a1 a2 : Value} {x : Nat} : gm_W E d 47 23 [.ref x, a1, a2] st h Q ↔ gm_W E d 47 24 [.ref x, a1, a2] (.ref x :: st) h Q := gw_loc m47 f47_23 rfl rfl
theorem r47_23n {E : Nat → Value} {d : Nat} {st : List Value} {h : gm_H} {Q : gm_R → gm_H → Prop} {a1 a2 : Value}  : gm_W E d 47 23 [.null, a1, a2] st h Q ↔ gm_W E d 47 24 [.null, a1, a2] (.null :: st) h Q := gw_loc m47 f47_23 rfl rfl
theorem f47_24 : gm_ft 47 24 = some (.getfield 7, 3) := by decide +kernel
theorem r47_24 {E : Nat → Value} {d : Nat} {st : List Value} {h : gm_H} {Q : gm_R → gm_H → Prop} {lv : List Value} {a : Nat} (hk : gm_kd h a = 5) : gm_W E d 47 24 lv (.ref a :: st) h Q ↔ gm_W E d 47 27 lv (gm_fv h a 4 :: st) h Q := gw_rd m47 f47_24 rfl rfl rfl rfl (gs_get k5_7 hk (by decide))
theorem f47_27 : gm_ft 47 27 = some (.aload_n 0, 1) := by decide +kernel
theorem r47_27 {E : Nat → Value} {d : Nat} {st : List Value} {h : gm_H} {Q : gm_R → gm_H → Prop} {a1 a2 : Value} {x : Nat} : gm_W E d 47 27 [.ref x, a1, a2] st h Q ↔ gm_W E d 47 28 [.ref x, a1, a2] (.ref x :: st) h Q := gw_loc m47 f47_27 rfl rfl
theorem r47_27n {E : Nat → Value} {d : Nat} {st : List Value} {h : gm_H} {Q : gm_R → gm_H → Prop} {a1 a2 : Value}  : gm_W E d 47 27 [.null, a1, a2] st h Q ↔ gm_W E d 47 28 [.null, a1, a2] (.null :: st) h Q := gw_loc m47 f47_27 rfl rfl
theorem f47_28 : gm_ft 47 28 = some (.getfield 148, 3) := by decide +kernel
theorem r47_28 {E : Nat → Value} {d : Nat} {st : List Value} {h : gm_H} {Q : gm_R → gm_H → Prop} {lv : List Value} {a : Nat} (hk : gm_kd h a = 5) : gm_W E d 47 28 lv (.ref a :: st) h Q ↔ gm_W E d 47 31 lv (gm_fv h a 6 :: st) h Q := gw_rd m47 f47_28 rfl rfl rfl rfl (gs_get k5_148 hk (by decide))
theorem f47_31 : gm_ft 47 31 = some (.iaload, 1) := by decide +kernel
theorem r47_31 {E : Nat → Value} {d : Nat} {st : List Value} {h : gm_H} {Q : gm_R → gm_H → Prop} {lv : List Value} {a j : Nat} (hk : gm_kd h a % 100 = 0 ∧ 100 ≤ gm_kd h a ∧ gm_kd h a < 900) (hj : j < gm_ln h a) (hl : gm_ln h a < 2 ^ 31) : gm_W E d 47 31 lv (.int (nI j) :: .ref a :: st) h Q ↔ gm_W E d 47 32 lv (gm_fv h a j :: st) h Q := gw_rd m47 f47_31 rfl rfl rfl rfl (gs_ld (P := fun t => t == 0) hk.2 (by have := hk.1; simp [this] <;> omega) hj hl)
theorem f47_32 : gm_ft 47 32 = some (.bipush 119, 2) := by decide +kernel
theorem r47_32 {E : Nat → Value} {d : Nat} {st : List Value} {h : gm_H} {Q : gm_R → gm_H → Prop} {lv : List Value} : gm_W E d 47 32 lv st h Q ↔ gm_W E d 47 34 lv (.int (119 : Int32) :: st) h Q := gw_pure m47 f47_32 rfl
theorem f47_34 : gm_ft 47 34 = some (.if_icmp .eq 19, 3) := by decide +kernel
theorem r47_34 {E : Nat → Value} {d : Nat} {st : List Value} {h : gm_H} {Q : gm_R → gm_H → Prop} {lv : List Value} {x y : Int32} : gm_W E d 47 34 lv (.int y :: .int x :: st) h Q ↔ (if x = y then gm_W E d 47 53 lv st h Q else gm_W E d 47 37 lv st h Q) := (gw_br m47 f47_34 rfl rfl rfl rfl).trans gw_if
theorem f47_37 : gm_ft 47 37 = some (.aload_n 0, 1) := by decide +kernel
theorem r47_37 {E : Nat → Value} {d : Nat} {st : List Value} {h : gm_H} {Q : gm_R → gm_H → Prop} {a1 a2 : Value} {x : Nat} : gm_W E d 47 37 [.ref x, a1, a2] st h Q ↔ gm_W E d 47 38 [.ref x, a1, a2] (.ref x :: st) h Q := gw_loc m47 f47_37 rfl rfl
theorem r47_37n {E : Nat → Value} {d : Nat} {st : List Value} {h : gm_H} {Q : gm_R → gm_H → Prop} {a1 a2 : Value}  : gm_W E d 47 37 [.null, a1, a2] st h Q ↔ gm_W E d 47 38 [.null, a1, a2] (.null :: st) h Q := gw_loc m47 f47_37 rfl rfl
theorem f47_38 : gm_ft 47 38 = some (.getfield 7, 3) := by decide +kernel
theorem r47_38 {E : Nat → Value} {d : Nat} {st : List Value} {h : gm_H} {Q : gm_R → gm_H → Prop} {lv : List Value} {a : Nat} (hk : gm_kd h a = 5) : gm_W E d 47 38 lv (.ref a :: st) h Q ↔ gm_W E d 47 41 lv (gm_fv h a 4 :: st) h Q := gw_rd m47 f47_38 rfl rfl rfl rfl (gs_get k5_7 hk (by decide))
theorem f47_41 : gm_ft 47 41 = some (.aload_n 0, 1) := by decide +kernel
theorem r47_41 {E : Nat → Value} {d : Nat} {st : List Value} {h : gm_H} {Q : gm_R → gm_H → Prop} {a1 a2 : Value} {x : Nat} : gm_W E d 47 41 [.ref x, a1, a2] st h Q ↔ gm_W E d 47 42 [.ref x, a1, a2] (.ref x :: st) h Q := gw_loc m47 f47_41 rfl rfl
theorem r47_41n {E : Nat → Value} {d : Nat} {st : List Value} {h : gm_H} {Q : gm_R → gm_H → Prop} {a1 a2 : Value}  : gm_W E d 47 41 [.null, a1, a2] st h Q ↔ gm_W E d 47 42 [.null, a1, a2] (.null :: st) h Q := gw_loc m47 f47_41 rfl rfl
theorem f47_42 : gm_ft 47 42 = some (.getfield 148, 3) := by decide +kernel
theorem r47_42 {E : Nat → Value} {d : Nat} {st : List Value} {h : gm_H} {Q : gm_R → gm_H → Prop} {lv : List Value} {a : Nat} (hk : gm_kd h a = 5) : gm_W E d 47 42 lv (.ref a :: st) h Q ↔ gm_W E d 47 45 lv (gm_fv h a 6 :: st) h Q := gw_rd m47 f47_42 rfl rfl rfl rfl (gs_get k5_148 hk (by decide))
theorem f47_45 : gm_ft 47 45 = some (.iaload, 1) := by decide +kernel
theorem r47_45 {E : Nat → Value} {d : Nat} {st : List Value} {h : gm_H} {Q : gm_R → gm_H → Prop} {lv : List Value} {a j : Nat} (hk : gm_kd h a % 100 = 0 ∧ 100 ≤ gm_kd h a ∧ gm_kd h a < 900) (hj : j < gm_ln h a) (hl : gm_ln h a < 2 ^ 31) : gm_W E d 47 45 lv (.int (nI j) :: .ref a :: st) h Q ↔ gm_W E d 47 46 lv (gm_fv h a j :: st) h Q := gw_rd m47 f47_45 rfl rfl rfl rfl (gs_ld (P := fun t => t == 0) hk.2 (by have := hk.1; simp [this] <;> omega) hj hl)
theorem f47_46 : gm_ft 47 46 = some (.bipush 122, 2) := by decide +kernel
theorem r47_46 {E : Nat → Value} {d : Nat} {st : List Value} {h : gm_H} {Q : gm_R → gm_H → Prop} {lv : List Value} : gm_W E d 47 46 lv st h Q ↔ gm_W E d 47 48 lv (.int (122 : Int32) :: st) h Q := gw_pure m47 f47_46 rfl
theorem f47_48 : gm_ft 47 48 = some (.if_icmp .eq 5, 3) := by decide +kernel
theorem r47_48 {E : Nat → Value} {d : Nat} {st : List Value} {h : gm_H} {Q : gm_R → gm_H → Prop} {lv : List Value} {x y : Int32} : gm_W E d 47 48 lv (.int y :: .int x :: st) h Q ↔ (if x = y then gm_W E d 47 53 lv st h Q else gm_W E d 47 51 lv st h Q) := (gw_br m47 f47_48 rfl rfl rfl rfl).trans gw_if
theorem f47_51 : gm_ft 47 51 = some (.iconst (-1), 1) := by decide +kernel
theorem r47_51 {E : Nat → Value} {d : Nat} {st : List Value} {h : gm_H} {Q : gm_R → gm_H → Prop} {lv : List Value} : gm_W E d 47 51 lv st h Q ↔ gm_W E d 47 52 lv (.int (-1 : Int32) :: st) h Q := gw_pure m47 f47_51 rfl
theorem f47_52 : gm_ft 47 52 = some (.ireturn, 1) := by decide +kernel
theorem r47_52 {E : Nat → Value} {d : Nat} {h : gm_H} {Q : gm_R → gm_H → Prop} {lv : List Value} {x : Int32} : gm_W E d 47 52 lv [.int x] h Q ↔ Q (.inl (some (.int x))) h := gw_ret m47 f47_52 rfl rfl rfl rfl rfl rfl rfl rfl (by unfold gm_rt; dsimp only; rw [if_pos ⟨rfl, rfl⟩])
theorem f47_53 : gm_ft 47 53 = some (.aload_n 0, 1) := by decide +kernel
theorem r47_53 {E : Nat → Value} {d : Nat} {st : List Value} {h : gm_H} {Q : gm_R → gm_H → Prop} {a1 a2 : Value} {x : Nat} : gm_W E d 47 53 [.ref x, a1, a2] st h Q ↔ gm_W E d 47 54 [.ref x, a1, a2] (.ref x :: st) h Q := gw_loc m47 f47_53 rfl rfl
theorem r47_53n {E : Nat → Value} {d : Nat} {st : List Value} {h : gm_H} {Q : gm_R → gm_H → Prop} {a1 a2 : Value}  : gm_W E d 47 53 [.null, a1, a2] st h Q ↔ gm_W E d 47 54 [.null, a1, a2] (.null :: st) h Q := gw_loc m47 f47_53 rfl rfl
theorem f47_54 : gm_ft 47 54 = some (.getfield 148, 3) := by decide +kernel
theorem r47_54 {E : Nat → Value} {d : Nat} {st : List Value} {h : gm_H} {Q : gm_R → gm_H → Prop} {lv : List Value} {a : Nat} (hk : gm_kd h a = 5) : gm_W E d 47 54 lv (.ref a :: st) h Q ↔ gm_W E d 47 57 lv (gm_fv h a 6 :: st) h Q := gw_rd m47 f47_54 rfl rfl rfl rfl (gs_get k5_148 hk (by decide))
theorem f47_57 : gm_ft 47 57 = some (.istore_n 1, 1) := by decide +kernel
theorem r47_57 {E : Nat → Value} {d : Nat} {st : List Value} {h : gm_H} {Q : gm_R → gm_H → Prop} {a0 a1 a2 : Value} {x : Int32} : gm_W E d 47 57 [a0, a1, a2] (.int x :: st) h Q ↔ gm_W E d 47 58 [gm_k a0, .int x, a2] st h Q := gw_loc m47 f47_57 rfl rfl
theorem f47_58 : gm_ft 47 58 = some (.aload_n 0, 1) := by decide +kernel
theorem r47_58 {E : Nat → Value} {d : Nat} {st : List Value} {h : gm_H} {Q : gm_R → gm_H → Prop} {a1 a2 : Value} {x : Nat} : gm_W E d 47 58 [.ref x, a1, a2] st h Q ↔ gm_W E d 47 59 [.ref x, a1, a2] (.ref x :: st) h Q := gw_loc m47 f47_58 rfl rfl
theorem r47_58n {E : Nat → Value} {d : Nat} {st : List Value} {h : gm_H} {Q : gm_R → gm_H → Prop} {a1 a2 : Value}  : gm_W E d 47 58 [.null, a1, a2] st h Q ↔ gm_W E d 47 59 [.null, a1, a2] (.null :: st) h Q := gw_loc m47 f47_58 rfl rfl
theorem f47_59 : gm_ft 47 59 = some (.iconst 0, 1) := by decide +kernel
theorem r47_59 {E : Nat → Value} {d : Nat} {st : List Value} {h : gm_H} {Q : gm_R → gm_H → Prop} {lv : List Value} : gm_W E d 47 59 lv st h Q ↔ gm_W E d 47 60 lv (.int (0 : Int32) :: st) h Q := gw_pure m47 f47_59 rfl
theorem f47_60 : gm_ft 47 60 = some (.putfield 145, 3) := by decide +kernel
theorem r47_60 {E : Nat → Value} {d : Nat} {st : List Value} {h : gm_H} {Q : gm_R → gm_H → Prop} {lv : List Value} {a : Nat} {x : Int32} (hk : gm_kd h a = 5) : gm_W E d 47 60 lv (.int x :: .ref a :: st) h Q ↔ gm_W E d 47 63 lv st (gm_sf h a 8 (.int x)) Q := gw_wr m47 f47_60 rfl rfl rfl rfl rfl (gs_put k5_145 hk (by decide) (by decide) ⟨rfl, rfl⟩ (by decide))
theorem f47_63 : gm_ft 47 63 = some (.aload_n 0, 1) := by decide +kernel
theorem r47_63 {E : Nat → Value} {d : Nat} {st : List Value} {h : gm_H} {Q : gm_R → gm_H → Prop} {a1 a2 : Value} {x : Nat} : gm_W E d 47 63 [.ref x, a1, a2] st h Q ↔ gm_W E d 47 64 [.ref x, a1, a2] (.ref x :: st) h Q := gw_loc m47 f47_63 rfl rfl
theorem r47_63n {E : Nat → Value} {d : Nat} {st : List Value} {h : gm_H} {Q : gm_R → gm_H → Prop} {a1 a2 : Value}  : gm_W E d 47 63 [.null, a1, a2] st h Q ↔ gm_W E d 47 64 [.null, a1, a2] (.null :: st) h Q := gw_loc m47 f47_63 rfl rfl
theorem f47_64 : gm_ft 47 64 = some (.invokevirtual 277, 3) := by decide +kernel
theorem c47_64 {E : Nat → Value} {d : Nat} {st : List Value} {h : gm_H} {Q : gm_R → gm_H → Prop} {lv : List Value} {a : Nat} {Qc : gm_R → gm_H → Prop} (hs : (st.map fun v => v.category).sum ≤ 8) (hr : gm_kd h a = 5) (hd : 1 ≤ d) (hc : gm_Ca E (d - 1) 43 [.ref a] h Qc) (kn : ∀ (v9 : Option Value) (h9 : gm_H), Qc (.inl v9) h9 → gm_W E d 47 67 lv (v9.toList ++ st) h9 Q) (kx : ∀ (x9 : Nat) (h9 : gm_H), Qc (.inr x9) h9 → Q (.inr x9) h9) : gm_W E d 47 64 lv (.ref a :: st) h Q := gw_call (gn_call m47 f47_64 rfl rfl rfl rfl rfl rfl rfl (gs_virt (bs := []) (w := 989) (L := 2) rfl rfl rfl rfl hs (by simp [gm_en1]) hr (by decide)) (by decide)) m47 rfl rfl hd hc kn kx
theorem f47_67 : gm_ft 47 67 = some (.istore_n 2, 1) := by decide +kernel
theorem r47_67 {E : Nat → Value} {d : Nat} {st : List Value} {h : gm_H} {Q : gm_R → gm_H → Prop} {a0 a1 a2 : Value} {x : Int32} : gm_W E d 47 67 [a0, a1, a2] (.int x :: st) h Q ↔ gm_W E d 47 68 [a0, gm_k a1, .int x] st h Q := gw_loc m47 f47_67 rfl rfl
theorem f47_68 : gm_ft 47 68 = some (.aload_n 0, 1) := by decide +kernel
theorem r47_68 {E : Nat → Value} {d : Nat} {st : List Value} {h : gm_H} {Q : gm_R → gm_H → Prop} {a1 a2 : Value} {x : Nat} : gm_W E d 47 68 [.ref x, a1, a2] st h Q ↔ gm_W E d 47 69 [.ref x, a1, a2] (.ref x :: st) h Q := gw_loc m47 f47_68 rfl rfl
theorem r47_68n {E : Nat → Value} {d : Nat} {st : List Value} {h : gm_H} {Q : gm_R → gm_H → Prop} {a1 a2 : Value}  : gm_W E d 47 68 [.null, a1, a2] st h Q ↔ gm_W E d 47 69 [.null, a1, a2] (.null :: st) h Q := gw_loc m47 f47_68 rfl rfl
theorem f47_69 : gm_ft 47 69 = some (.getfield 145, 3) := by decide +kernel
theorem r47_69 {E : Nat → Value} {d : Nat} {st : List Value} {h : gm_H} {Q : gm_R → gm_H → Prop} {lv : List Value} {a : Nat} (hk : gm_kd h a = 5) : gm_W E d 47 69 lv (.ref a :: st) h Q ↔ gm_W E d 47 72 lv (gm_fv h a 8 :: st) h Q := gw_rd m47 f47_69 rfl rfl rfl rfl (gs_get k5_145 hk (by decide))
theorem f47_72 : gm_ft 47 72 = some (.ifCond .ne 5, 3) := by decide +kernel
theorem r47_72 {E : Nat → Value} {d : Nat} {st : List Value} {h : gm_H} {Q : gm_R → gm_H → Prop} {lv : List Value} {x : Int32} : gm_W E d 47 72 lv (.int x :: st) h Q ↔ (if x = 0 then gm_W E d 47 75 lv st h Q else gm_W E d 47 77 lv st h Q) := (gw_br m47 f47_72 rfl rfl rfl rfl).trans gw_ifn
theorem f47_75 : gm_ft 47 75 = some (.iload_n 2, 1) := by decide +kernel
theorem r47_75 {E : Nat → Value} {d : Nat} {st : List Value} {h : gm_H} {Q : gm_R → gm_H → Prop} {a0 a1 : Value} {x : Int32} : gm_W E d 47 75 [a0, a1, .int x] st h Q ↔ gm_W E d 47 76 [a0, a1, .int x] (.int x :: st) h Q := gw_loc m47 f47_75 rfl rfl
theorem f47_76 : gm_ft 47 76 = some (.ireturn, 1) := by decide +kernel
theorem r47_76 {E : Nat → Value} {d : Nat} {h : gm_H} {Q : gm_R → gm_H → Prop} {lv : List Value} {x : Int32} : gm_W E d 47 76 lv [.int x] h Q ↔ Q (.inl (some (.int x))) h := gw_ret m47 f47_76 rfl rfl rfl rfl rfl rfl rfl rfl (by unfold gm_rt; dsimp only; rw [if_pos ⟨rfl, rfl⟩])
theorem f47_77 : gm_ft 47 77 = some (.aload_n 0, 1) := by decide +kernel
theorem r47_77 {E : Nat → Value} {d : Nat} {st : List Value} {h : gm_H} {Q : gm_R → gm_H → Prop} {a1 a2 : Value} {x : Nat} : gm_W E d 47 77 [.ref x, a1, a2] st h Q ↔ gm_W E d 47 78 [.ref x, a1, a2] (.ref x :: st) h Q := gw_loc m47 f47_77 rfl rfl
theorem r47_77n {E : Nat → Value} {d : Nat} {st : List Value} {h : gm_H} {Q : gm_R → gm_H → Prop} {a1 a2 : Value}  : gm_W E d 47 77 [.null, a1, a2] st h Q ↔ gm_W E d 47 78 [.null, a1, a2] (.null :: st) h Q := gw_loc m47 f47_77 rfl rfl
theorem f47_78 : gm_ft 47 78 = some (.iload_n 1, 1) := by decide +kernel
theorem r47_78 {E : Nat → Value} {d : Nat} {st : List Value} {h : gm_H} {Q : gm_R → gm_H → Prop} {a0 a2 : Value} {x : Int32} : gm_W E d 47 78 [a0, .int x, a2] st h Q ↔ gm_W E d 47 79 [a0, .int x, a2] (.int x :: st) h Q := gw_loc m47 f47_78 rfl rfl
theorem f47_79 : gm_ft 47 79 = some (.putfield 148, 3) := by decide +kernel
theorem r47_79 {E : Nat → Value} {d : Nat} {st : List Value} {h : gm_H} {Q : gm_R → gm_H → Prop} {lv : List Value} {a : Nat} {x : Int32} (hk : gm_kd h a = 5) : gm_W E d 47 79 lv (.int x :: .ref a :: st) h Q ↔ gm_W E d 47 82 lv st (gm_sf h a 6 (.int x)) Q := gw_wr m47 f47_79 rfl rfl rfl rfl rfl (gs_put k5_148 hk (by decide) (by decide) ⟨rfl, rfl⟩ (by decide))
theorem f47_82 : gm_ft 47 82 = some (.aload_n 0, 1) := by decide +kernel
theorem r47_82 {E : Nat → Value} {d : Nat} {st : List Value} {h : gm_H} {Q : gm_R → gm_H → Prop} {a1 a2 : Value} {x : Nat} : gm_W E d 47 82 [.ref x, a1, a2] st h Q ↔ gm_W E d 47 83 [.ref x, a1, a2] (.ref x :: st) h Q := gw_loc m47 f47_82 rfl rfl
theorem r47_82n {E : Nat → Value} {d : Nat} {st : List Value} {h : gm_H} {Q : gm_R → gm_H → Prop} {a1 a2 : Value}  : gm_W E d 47 82 [.null, a1, a2] st h Q ↔ gm_W E d 47 83 [.null, a1, a2] (.null :: st) h Q := gw_loc m47 f47_82 rfl rfl
theorem f47_83 : gm_ft 47 83 = some (.aload_n 0, 1) := by decide +kernel
theorem r47_83 {E : Nat → Value} {d : Nat} {st : List Value} {h : gm_H} {Q : gm_R → gm_H → Prop} {a1 a2 : Value} {x : Nat} : gm_W E d 47 83 [.ref x, a1, a2] st h Q ↔ gm_W E d 47 84 [.ref x, a1, a2] (.ref x :: st) h Q := gw_loc m47 f47_83 rfl rfl
theorem r47_83n {E : Nat → Value} {d : Nat} {st : List Value} {h : gm_H} {Q : gm_R → gm_H → Prop} {a1 a2 : Value}  : gm_W E d 47 83 [.null, a1, a2] st h Q ↔ gm_W E d 47 84 [.null, a1, a2] (.null :: st) h Q := gw_loc m47 f47_83 rfl rfl
theorem f47_84 : gm_ft 47 84 = some (.getfield 145, 3) := by decide +kernel
theorem r47_84 {E : Nat → Value} {d : Nat} {st : List Value} {h : gm_H} {Q : gm_R → gm_H → Prop} {lv : List Value} {a : Nat} (hk : gm_kd h a = 5) : gm_W E d 47 84 lv (.ref a :: st) h Q ↔ gm_W E d 47 87 lv (gm_fv h a 8 :: st) h Q := gw_rd m47 f47_84 rfl rfl rfl rfl (gs_get k5_145 hk (by decide))
theorem f47_87 : gm_ft 47 87 = some (.putfield 172, 3) := by decide +kernel
theorem r47_87 {E : Nat → Value} {d : Nat} {st : List Value} {h : gm_H} {Q : gm_R → gm_H → Prop} {lv : List Value} {a : Nat} {x : Int32} (hk : gm_kd h a = 5) : gm_W E d 47 87 lv (.int x :: .ref a :: st) h Q ↔ gm_W E d 47 90 lv st (gm_sf h a 7 (.int x)) Q := gw_wr m47 f47_87 rfl rfl rfl rfl rfl (gs_put k5_172 hk (by decide) (by decide) ⟨rfl, rfl⟩ (by decide))
theorem f47_90 : gm_ft 47 90 = some (.aload_n 0, 1) := by decide +kernel
theorem r47_90 {E : Nat → Value} {d : Nat} {st : List Value} {h : gm_H} {Q : gm_R → gm_H → Prop} {a1 a2 : Value} {x : Nat} : gm_W E d 47 90 [.ref x, a1, a2] st h Q ↔ gm_W E d 47 91 [.ref x, a1, a2] (.ref x :: st) h Q := gw_loc m47 f47_90 rfl rfl
theorem r47_90n {E : Nat → Value} {d : Nat} {st : List Value} {h : gm_H} {Q : gm_R → gm_H → Prop} {a1 a2 : Value}  : gm_W E d 47 90 [.null, a1, a2] st h Q ↔ gm_W E d 47 91 [.null, a1, a2] (.null :: st) h Q := gw_loc m47 f47_90 rfl rfl
theorem f47_91 : gm_ft 47 91 = some (.getfield 145, 3) := by decide +kernel
theorem r47_91 {E : Nat → Value} {d : Nat} {st : List Value} {h : gm_H} {Q : gm_R → gm_H → Prop} {lv : List Value} {a : Nat} (hk : gm_kd h a = 5) : gm_W E d 47 91 lv (.ref a :: st) h Q ↔ gm_W E d 47 94 lv (gm_fv h a 8 :: st) h Q := gw_rd m47 f47_91 rfl rfl rfl rfl (gs_get k5_145 hk (by decide))
theorem f47_94 : gm_ft 47 94 = some (.ireturn, 1) := by decide +kernel
theorem r47_94 {E : Nat → Value} {d : Nat} {h : gm_H} {Q : gm_R → gm_H → Prop} {lv : List Value} {x : Int32} : gm_W E d 47 94 lv [.int x] h Q ↔ Q (.inl (some (.int x))) h := gw_ret m47 f47_94 rfl rfl rfl rfl rfl rfl rfl rfl (by unfold gm_rt; dsimp only; rw [if_pos ⟨rfl, rfl⟩])
/-! GraphReaderModel.object(II)I -/
theorem m48 : gm_mt[48]? = some (⟨"GraphReaderModel", "object", "(II)I"⟩, prog_7_method_47_code, 3, (some .int), [], 5, 2) := rfl
theorem f48_0 : gm_ft 48 0 = some (.aload_n 0, 1) := by decide +kernel
theorem r48_0 {E : Nat → Value} {d : Nat} {st : List Value} {h : gm_H} {Q : gm_R → gm_H → Prop} {a1 a2 : Value} {x : Nat} : gm_W E d 48 0 [.ref x, a1, a2] st h Q ↔ gm_W E d 48 1 [.ref x, a1, a2] (.ref x :: st) h Q := gw_loc m48 f48_0 rfl rfl
theorem r48_0n {E : Nat → Value} {d : Nat} {st : List Value} {h : gm_H} {Q : gm_R → gm_H → Prop} {a1 a2 : Value}  : gm_W E d 48 0 [.null, a1, a2] st h Q ↔ gm_W E d 48 1 [.null, a1, a2] (.null :: st) h Q := gw_loc m48 f48_0 rfl rfl
theorem f48_1 : gm_ft 48 1 = some (.iload_n 1, 1) := by decide +kernel
theorem r48_1 {E : Nat → Value} {d : Nat} {st : List Value} {h : gm_H} {Q : gm_R → gm_H → Prop} {a0 a2 : Value} {x : Int32} : gm_W E d 48 1 [a0, .int x, a2] st h Q ↔ gm_W E d 48 2 [a0, .int x, a2] (.int x :: st) h Q := gw_loc m48 f48_1 rfl rfl
theorem f48_2 : gm_ft 48 2 = some (.aload_n 0, 1) := by decide +kernel
theorem r48_2 {E : Nat → Value} {d : Nat} {st : List Value} {h : gm_H} {Q : gm_R → gm_H → Prop} {a1 a2 : Value} {x : Nat} : gm_W E d 48 2 [.ref x, a1, a2] st h Q ↔ gm_W E d 48 3 [.ref x, a1, a2] (.ref x :: st) h Q := gw_loc m48 f48_2 rfl rfl
theorem r48_2n {E : Nat → Value} {d : Nat} {st : List Value} {h : gm_H} {Q : gm_R → gm_H → Prop} {a1 a2 : Value}  : gm_W E d 48 2 [.null, a1, a2] st h Q ↔ gm_W E d 48 3 [.null, a1, a2] (.null :: st) h Q := gw_loc m48 f48_2 rfl rfl
theorem f48_3 : gm_ft 48 3 = some (.getfield 139, 3) := by decide +kernel
theorem r48_3 {E : Nat → Value} {d : Nat} {st : List Value} {h : gm_H} {Q : gm_R → gm_H → Prop} {lv : List Value} {a : Nat} (hk : gm_kd h a = 5) : gm_W E d 48 3 lv (.ref a :: st) h Q ↔ gm_W E d 48 6 lv (gm_fv h a 23 :: st) h Q := gw_rd m48 f48_3 rfl rfl rfl rfl (gs_get k5_139 hk (by decide))
theorem f48_6 : gm_ft 48 6 = some (.invokevirtual 131, 3) := by decide +kernel
theorem c48_6 {E : Nat → Value} {d : Nat} {st : List Value} {h : gm_H} {Q : gm_R → gm_H → Prop} {lv : List Value} {b0 : Int32} {b1 : Int32} {a : Nat} {Qc : gm_R → gm_H → Prop} (hs : (st.map fun v => v.category).sum ≤ 8) (hr : gm_kd h a = 5) (hd : 1 ≤ d) (hc : gm_Ca E (d - 1) 4 [.ref a, .int b0, .int b1] h Qc) (kn : ∀ (v9 : Option Value) (h9 : gm_H), Qc (.inl v9) h9 → gm_W E d 48 9 lv (v9.toList ++ st) h9 Q) (kx : ∀ (x9 : Nat) (h9 : gm_H), Qc (.inr x9) h9 → Q (.inr x9) h9) : gm_W E d 48 6 lv (.int b1 :: .int b0 :: .ref a :: st) h Q := gw_call (gn_call m48 f48_6 rfl rfl rfl rfl rfl rfl rfl (gs_virt (bs := [.int b1, .int b0]) (w := 820) (L := 3) rfl rfl rfl rfl hs (by simp [gm_en1]) hr (by decide)) (by decide)) m48 rfl rfl hd hc kn kx
theorem f48_9 : gm_ft 48 9 = some (.ifCond .ne 12, 3) := by decide +kernel
theorem r48_9 {E : Nat → Value} {d : Nat} {st : List Value} {h : gm_H} {Q : gm_R → gm_H → Prop} {lv : List Value} {x : Int32} : gm_W E d 48 9 lv (.int x :: st) h Q ↔ (if x = 0 then gm_W E d 48 12 lv st h Q else gm_W E d 48 21 lv st h Q) := (gw_br m48 f48_9 rfl rfl rfl rfl).trans gw_ifn
theorem f48_12 : gm_ft 48 12 = some (.aload_n 0, 1) := by decide +kernel
theorem r48_12 {E : Nat → Value} {d : Nat} {st : List Value} {h : gm_H} {Q : gm_R → gm_H → Prop} {a1 a2 : Value} {x : Nat} : gm_W E d 48 12 [.ref x, a1, a2] st h Q ↔ gm_W E d 48 13 [.ref x, a1, a2] (.ref x :: st) h Q := gw_loc m48 f48_12 rfl rfl
theorem r48_12n {E : Nat → Value} {d : Nat} {st : List Value} {h : gm_H} {Q : gm_R → gm_H → Prop} {a1 a2 : Value}  : gm_W E d 48 12 [.null, a1, a2] st h Q ↔ gm_W E d 48 13 [.null, a1, a2] (.null :: st) h Q := gw_loc m48 f48_12 rfl rfl
theorem f48_13 : gm_ft 48 13 = some (.iload_n 2, 1) := by decide +kernel
theorem r48_13 {E : Nat → Value} {d : Nat} {st : List Value} {h : gm_H} {Q : gm_R → gm_H → Prop} {a0 a1 : Value} {x : Int32} : gm_W E d 48 13 [a0, a1, .int x] st h Q ↔ gm_W E d 48 14 [a0, a1, .int x] (.int x :: st) h Q := gw_loc m48 f48_13 rfl rfl
theorem f48_14 : gm_ft 48 14 = some (.iconst 4, 1) := by decide +kernel
theorem r48_14 {E : Nat → Value} {d : Nat} {st : List Value} {h : gm_H} {Q : gm_R → gm_H → Prop} {lv : List Value} : gm_W E d 48 14 lv st h Q ↔ gm_W E d 48 15 lv (.int (4 : Int32) :: st) h Q := gw_pure m48 f48_14 rfl
theorem f48_15 : gm_ft 48 15 = some (.invokevirtual 131, 3) := by decide +kernel
theorem c48_15 {E : Nat → Value} {d : Nat} {st : List Value} {h : gm_H} {Q : gm_R → gm_H → Prop} {lv : List Value} {b0 : Int32} {b1 : Int32} {a : Nat} {Qc : gm_R → gm_H → Prop} (hs : (st.map fun v => v.category).sum ≤ 8) (hr : gm_kd h a = 5) (hd : 1 ≤ d) (hc : gm_Ca E (d - 1) 4 [.ref a, .int b0, .int b1] h Qc) (kn : ∀ (v9 : Option Value) (h9 : gm_H), Qc (.inl v9) h9 → gm_W E d 48 18 lv (v9.toList ++ st) h9 Q) (kx : ∀ (x9 : Nat) (h9 : gm_H), Qc (.inr x9) h9 → Q (.inr x9) h9) : gm_W E d 48 15 lv (.int b1 :: .int b0 :: .ref a :: st) h Q := gw_call (gn_call m48 f48_15 rfl rfl rfl rfl rfl rfl rfl (gs_virt (bs := [.int b1, .int b0]) (w := 820) (L := 3) rfl rfl rfl rfl hs (by simp [gm_en1]) hr (by decide)) (by decide)) m48 rfl rfl hd hc kn kx
theorem f48_18 : gm_ft 48 18 = some (.ifCond .eq 5, 3) := by decide +kernel
theorem r48_18 {E : Nat → Value} {d : Nat} {st : List Value} {h : gm_H} {Q : gm_R → gm_H → Prop} {lv : List Value} {x : Int32} : gm_W E d 48 18 lv (.int x :: st) h Q ↔ (if x = 0 then gm_W E d 48 23 lv st h Q else gm_W E d 48 21 lv st h Q) := (gw_br m48 f48_18 rfl rfl rfl rfl).trans gw_if
theorem f48_21 : gm_ft 48 21 = some (.iconst (-1), 1) := by decide +kernel
theorem r48_21 {E : Nat → Value} {d : Nat} {st : List Value} {h : gm_H} {Q : gm_R → gm_H → Prop} {lv : List Value} : gm_W E d 48 21 lv st h Q ↔ gm_W E d 48 22 lv (.int (-1 : Int32) :: st) h Q := gw_pure m48 f48_21 rfl
theorem f48_22 : gm_ft 48 22 = some (.ireturn, 1) := by decide +kernel
theorem r48_22 {E : Nat → Value} {d : Nat} {h : gm_H} {Q : gm_R → gm_H → Prop} {lv : List Value} {x : Int32} : gm_W E d 48 22 lv [.int x] h Q ↔ Q (.inl (some (.int x))) h := gw_ret m48 f48_22 rfl rfl rfl rfl rfl rfl rfl rfl (by unfold gm_rt; dsimp only; rw [if_pos ⟨rfl, rfl⟩])
theorem f48_23 : gm_ft 48 23 = some (.iload_n 2, 1) := by decide +kernel
theorem r48_23 {E : Nat → Value} {d : Nat} {st : List Value} {h : gm_H} {Q : gm_R → gm_H → Prop} {a0 a1 : Value} {x : Int32} : gm_W E d 48 23 [a0, a1, .int x] st h Q ↔ gm_W E d 48 24 [a0, a1, .int x] (.int x :: st) h Q := gw_loc m48 f48_23 rfl rfl
theorem f48_24 : gm_ft 48 24 = some (.ifCond .ne 10, 3) := by decide +kernel
theorem r48_24 {E : Nat → Value} {d : Nat} {st : List Value} {h : gm_H} {Q : gm_R → gm_H → Prop} {lv : List Value} {x : Int32} : gm_W E d 48 24 lv (.int x :: st) h Q ↔ (if x = 0 then gm_W E d 48 27 lv st h Q else gm_W E d 48 34 lv st h Q) := (gw_br m48 f48_24 rfl rfl rfl rfl).trans gw_ifn
theorem f48_27 : gm_ft 48 27 = some (.aload_n 0, 1) := by decide +kernel
theorem r48_27 {E : Nat → Value} {d : Nat} {st : List Value} {h : gm_H} {Q : gm_R → gm_H → Prop} {a1 a2 : Value} {x : Nat} : gm_W E d 48 27 [.ref x, a1, a2] st h Q ↔ gm_W E d 48 28 [.ref x, a1, a2] (.ref x :: st) h Q := gw_loc m48 f48_27 rfl rfl
theorem r48_27n {E : Nat → Value} {d : Nat} {st : List Value} {h : gm_H} {Q : gm_R → gm_H → Prop} {a1 a2 : Value}  : gm_W E d 48 27 [.null, a1, a2] st h Q ↔ gm_W E d 48 28 [.null, a1, a2] (.null :: st) h Q := gw_loc m48 f48_27 rfl rfl
theorem f48_28 : gm_ft 48 28 = some (.getfield 39, 3) := by decide +kernel
theorem r48_28 {E : Nat → Value} {d : Nat} {st : List Value} {h : gm_H} {Q : gm_R → gm_H → Prop} {lv : List Value} {a : Nat} (hk : gm_kd h a = 5) : gm_W E d 48 28 lv (.ref a :: st) h Q ↔ gm_W E d 48 31 lv (gm_fv h a 18 :: st) h Q := gw_rd m48 f48_28 rfl rfl rfl rfl (gs_get k5_39 hk (by decide))
theorem f48_31 : gm_ft 48 31 = some (.iload_n 1, 1) := by decide +kernel
theorem r48_31 {E : Nat → Value} {d : Nat} {st : List Value} {h : gm_H} {Q : gm_R → gm_H → Prop} {a0 a2 : Value} {x : Int32} : gm_W E d 48 31 [a0, .int x, a2] st h Q ↔ gm_W E d 48 32 [a0, .int x, a2] (.int x :: st) h Q := gw_loc m48 f48_31 rfl rfl
theorem f48_32 : gm_ft 48 32 = some (.iaload, 1) := by decide +kernel
theorem r48_32 {E : Nat → Value} {d : Nat} {st : List Value} {h : gm_H} {Q : gm_R → gm_H → Prop} {lv : List Value} {a j : Nat} (hk : gm_kd h a % 100 = 0 ∧ 100 ≤ gm_kd h a ∧ gm_kd h a < 900) (hj : j < gm_ln h a) (hl : gm_ln h a < 2 ^ 31) : gm_W E d 48 32 lv (.int (nI j) :: .ref a :: st) h Q ↔ gm_W E d 48 33 lv (gm_fv h a j :: st) h Q := gw_rd m48 f48_32 rfl rfl rfl rfl (gs_ld (P := fun t => t == 0) hk.2 (by have := hk.1; simp [this] <;> omega) hj hl)
theorem f48_33 : gm_ft 48 33 = some (.ireturn, 1) := by decide +kernel
theorem r48_33 {E : Nat → Value} {d : Nat} {h : gm_H} {Q : gm_R → gm_H → Prop} {lv : List Value} {x : Int32} : gm_W E d 48 33 lv [.int x] h Q ↔ Q (.inl (some (.int x))) h := gw_ret m48 f48_33 rfl rfl rfl rfl rfl rfl rfl rfl (by unfold gm_rt; dsimp only; rw [if_pos ⟨rfl, rfl⟩])
theorem f48_34 : gm_ft 48 34 = some (.iload_n 2, 1) := by decide +kernel
theorem r48_34 {E : Nat → Value} {d : Nat} {st : List Value} {h : gm_H} {Q : gm_R → gm_H → Prop} {a0 a1 : Value} {x : Int32} : gm_W E d 48 34 [a0, a1, .int x] st h Q ↔ gm_W E d 48 35 [a0, a1, .int x] (.int x :: st) h Q := gw_loc m48 f48_34 rfl rfl
theorem f48_35 : gm_ft 48 35 = some (.iconst 1, 1) := by decide +kernel
theorem r48_35 {E : Nat → Value} {d : Nat} {st : List Value} {h : gm_H} {Q : gm_R → gm_H → Prop} {lv : List Value} : gm_W E d 48 35 lv st h Q ↔ gm_W E d 48 36 lv (.int (1 : Int32) :: st) h Q := gw_pure m48 f48_35 rfl
theorem f48_36 : gm_ft 48 36 = some (.if_icmp .ne 23, 3) := by decide +kernel
theorem r48_36 {E : Nat → Value} {d : Nat} {st : List Value} {h : gm_H} {Q : gm_R → gm_H → Prop} {lv : List Value} {x y : Int32} : gm_W E d 48 36 lv (.int y :: .int x :: st) h Q ↔ (if x = y then gm_W E d 48 39 lv st h Q else gm_W E d 48 59 lv st h Q) := (gw_br m48 f48_36 rfl rfl rfl rfl).trans gw_ifn
theorem f48_39 : gm_ft 48 39 = some (.aload_n 0, 1) := by decide +kernel
theorem r48_39 {E : Nat → Value} {d : Nat} {st : List Value} {h : gm_H} {Q : gm_R → gm_H → Prop} {a1 a2 : Value} {x : Nat} : gm_W E d 48 39 [.ref x, a1, a2] st h Q ↔ gm_W E d 48 40 [.ref x, a1, a2] (.ref x :: st) h Q := gw_loc m48 f48_39 rfl rfl
theorem r48_39n {E : Nat → Value} {d : Nat} {st : List Value} {h : gm_H} {Q : gm_R → gm_H → Prop} {a1 a2 : Value}  : gm_W E d 48 39 [.null, a1, a2] st h Q ↔ gm_W E d 48 40 [.null, a1, a2] (.null :: st) h Q := gw_loc m48 f48_39 rfl rfl
theorem f48_40 : gm_ft 48 40 = some (.getfield 42, 3) := by decide +kernel
theorem r48_40 {E : Nat → Value} {d : Nat} {st : List Value} {h : gm_H} {Q : gm_R → gm_H → Prop} {lv : List Value} {a : Nat} (hk : gm_kd h a = 5) : gm_W E d 48 40 lv (.ref a :: st) h Q ↔ gm_W E d 48 43 lv (gm_fv h a 19 :: st) h Q := gw_rd m48 f48_40 rfl rfl rfl rfl (gs_get k5_42 hk (by decide))
theorem f48_43 : gm_ft 48 43 = some (.iload_n 1, 1) := by decide +kernel
theorem r48_43 {E : Nat → Value} {d : Nat} {st : List Value} {h : gm_H} {Q : gm_R → gm_H → Prop} {a0 a2 : Value} {x : Int32} : gm_W E d 48 43 [a0, .int x, a2] st h Q ↔ gm_W E d 48 44 [a0, .int x, a2] (.int x :: st) h Q := gw_loc m48 f48_43 rfl rfl
theorem f48_44 : gm_ft 48 44 = some (.iaload, 1) := by decide +kernel
theorem r48_44 {E : Nat → Value} {d : Nat} {st : List Value} {h : gm_H} {Q : gm_R → gm_H → Prop} {lv : List Value} {a j : Nat} (hk : gm_kd h a % 100 = 0 ∧ 100 ≤ gm_kd h a ∧ gm_kd h a < 900) (hj : j < gm_ln h a) (hl : gm_ln h a < 2 ^ 31) : gm_W E d 48 44 lv (.int (nI j) :: .ref a :: st) h Q ↔ gm_W E d 48 45 lv (gm_fv h a j :: st) h Q := gw_rd m48 f48_44 rfl rfl rfl rfl (gs_ld (P := fun t => t == 0) hk.2 (by have := hk.1; simp [this] <;> omega) hj hl)
theorem f48_45 : gm_ft 48 45 = some (.ifCond .ge 7, 3) := by decide +kernel
theorem r48_45 {E : Nat → Value} {d : Nat} {st : List Value} {h : gm_H} {Q : gm_R → gm_H → Prop} {lv : List Value} {x : Int32} : gm_W E d 48 45 lv (.int x :: st) h Q ↔ (if 0 ≤ x then gm_W E d 48 52 lv st h Q else gm_W E d 48 48 lv st h Q) := (gw_br m48 f48_45 rfl rfl rfl rfl).trans gw_if
theorem f48_48 : gm_ft 48 48 = some (.iconst (-1), 1) := by decide +kernel
theorem r48_48 {E : Nat → Value} {d : Nat} {st : List Value} {h : gm_H} {Q : gm_R → gm_H → Prop} {lv : List Value} : gm_W E d 48 48 lv st h Q ↔ gm_W E d 48 49 lv (.int (-1 : Int32) :: st) h Q := gw_pure m48 f48_48 rfl
theorem f48_49 : gm_ft 48 49 = some (.goto 9, 3) := by decide +kernel
theorem r48_49 {E : Nat → Value} {d : Nat} {st : List Value} {h : gm_H} {Q : gm_R → gm_H → Prop} {lv : List Value} : gm_W E d 48 49 lv st h Q ↔ gm_W E d 48 58 lv st h Q := gw_brT m48 f48_49 rfl rfl rfl rfl
theorem f48_52 : gm_ft 48 52 = some (.aload_n 0, 1) := by decide +kernel
theorem r48_52 {E : Nat → Value} {d : Nat} {st : List Value} {h : gm_H} {Q : gm_R → gm_H → Prop} {a1 a2 : Value} {x : Nat} : gm_W E d 48 52 [.ref x, a1, a2] st h Q ↔ gm_W E d 48 53 [.ref x, a1, a2] (.ref x :: st) h Q := gw_loc m48 f48_52 rfl rfl
theorem r48_52n {E : Nat → Value} {d : Nat} {st : List Value} {h : gm_H} {Q : gm_R → gm_H → Prop} {a1 a2 : Value}  : gm_W E d 48 52 [.null, a1, a2] st h Q ↔ gm_W E d 48 53 [.null, a1, a2] (.null :: st) h Q := gw_loc m48 f48_52 rfl rfl
theorem f48_53 : gm_ft 48 53 = some (.getfield 42, 3) := by decide +kernel
theorem r48_53 {E : Nat → Value} {d : Nat} {st : List Value} {h : gm_H} {Q : gm_R → gm_H → Prop} {lv : List Value} {a : Nat} (hk : gm_kd h a = 5) : gm_W E d 48 53 lv (.ref a :: st) h Q ↔ gm_W E d 48 56 lv (gm_fv h a 19 :: st) h Q := gw_rd m48 f48_53 rfl rfl rfl rfl (gs_get k5_42 hk (by decide))
theorem f48_56 : gm_ft 48 56 = some (.iload_n 1, 1) := by decide +kernel
theorem r48_56 {E : Nat → Value} {d : Nat} {st : List Value} {h : gm_H} {Q : gm_R → gm_H → Prop} {a0 a2 : Value} {x : Int32} : gm_W E d 48 56 [a0, .int x, a2] st h Q ↔ gm_W E d 48 57 [a0, .int x, a2] (.int x :: st) h Q := gw_loc m48 f48_56 rfl rfl
theorem f48_57 : gm_ft 48 57 = some (.iaload, 1) := by decide +kernel
theorem r48_57 {E : Nat → Value} {d : Nat} {st : List Value} {h : gm_H} {Q : gm_R → gm_H → Prop} {lv : List Value} {a j : Nat} (hk : gm_kd h a % 100 = 0 ∧ 100 ≤ gm_kd h a ∧ gm_kd h a < 900) (hj : j < gm_ln h a) (hl : gm_ln h a < 2 ^ 31) : gm_W E d 48 57 lv (.int (nI j) :: .ref a :: st) h Q ↔ gm_W E d 48 58 lv (gm_fv h a j :: st) h Q := gw_rd m48 f48_57 rfl rfl rfl rfl (gs_ld (P := fun t => t == 0) hk.2 (by have := hk.1; simp [this] <;> omega) hj hl)
theorem f48_58 : gm_ft 48 58 = some (.ireturn, 1) := by decide +kernel
theorem r48_58 {E : Nat → Value} {d : Nat} {h : gm_H} {Q : gm_R → gm_H → Prop} {lv : List Value} {x : Int32} : gm_W E d 48 58 lv [.int x] h Q ↔ Q (.inl (some (.int x))) h := gw_ret m48 f48_58 rfl rfl rfl rfl rfl rfl rfl rfl (by unfold gm_rt; dsimp only; rw [if_pos ⟨rfl, rfl⟩])
theorem f48_59 : gm_ft 48 59 = some (.iload_n 2, 1) := by decide +kernel
theorem r48_59 {E : Nat → Value} {d : Nat} {st : List Value} {h : gm_H} {Q : gm_R → gm_H → Prop} {a0 a1 : Value} {x : Int32} : gm_W E d 48 59 [a0, a1, .int x] st h Q ↔ gm_W E d 48 60 [a0, a1, .int x] (.int x :: st) h Q := gw_loc m48 f48_59 rfl rfl
theorem f48_60 : gm_ft 48 60 = some (.iconst 2, 1) := by decide +kernel
theorem r48_60 {E : Nat → Value} {d : Nat} {st : List Value} {h : gm_H} {Q : gm_R → gm_H → Prop} {lv : List Value} : gm_W E d 48 60 lv st h Q ↔ gm_W E d 48 61 lv (.int (2 : Int32) :: st) h Q := gw_pure m48 f48_60 rfl
theorem f48_61 : gm_ft 48 61 = some (.if_icmp .ne 12, 3) := by decide +kernel
theorem r48_61 {E : Nat → Value} {d : Nat} {st : List Value} {h : gm_H} {Q : gm_R → gm_H → Prop} {lv : List Value} {x y : Int32} : gm_W E d 48 61 lv (.int y :: .int x :: st) h Q ↔ (if x = y then gm_W E d 48 64 lv st h Q else gm_W E d 48 73 lv st h Q) := (gw_br m48 f48_61 rfl rfl rfl rfl).trans gw_ifn
theorem f48_64 : gm_ft 48 64 = some (.aload_n 0, 1) := by decide +kernel
theorem r48_64 {E : Nat → Value} {d : Nat} {st : List Value} {h : gm_H} {Q : gm_R → gm_H → Prop} {a1 a2 : Value} {x : Nat} : gm_W E d 48 64 [.ref x, a1, a2] st h Q ↔ gm_W E d 48 65 [.ref x, a1, a2] (.ref x :: st) h Q := gw_loc m48 f48_64 rfl rfl
theorem r48_64n {E : Nat → Value} {d : Nat} {st : List Value} {h : gm_H} {Q : gm_R → gm_H → Prop} {a1 a2 : Value}  : gm_W E d 48 64 [.null, a1, a2] st h Q ↔ gm_W E d 48 65 [.null, a1, a2] (.null :: st) h Q := gw_loc m48 f48_64 rfl rfl
theorem f48_65 : gm_ft 48 65 = some (.getfield 45, 3) := by decide +kernel
theorem r48_65 {E : Nat → Value} {d : Nat} {st : List Value} {h : gm_H} {Q : gm_R → gm_H → Prop} {lv : List Value} {a : Nat} (hk : gm_kd h a = 5) : gm_W E d 48 65 lv (.ref a :: st) h Q ↔ gm_W E d 48 68 lv (gm_fv h a 20 :: st) h Q := gw_rd m48 f48_65 rfl rfl rfl rfl (gs_get k5_45 hk (by decide))
theorem f48_68 : gm_ft 48 68 = some (.iload_n 1, 1) := by decide +kernel
theorem r48_68 {E : Nat → Value} {d : Nat} {st : List Value} {h : gm_H} {Q : gm_R → gm_H → Prop} {a0 a2 : Value} {x : Int32} : gm_W E d 48 68 [a0, .int x, a2] st h Q ↔ gm_W E d 48 69 [a0, .int x, a2] (.int x :: st) h Q := gw_loc m48 f48_68 rfl rfl
theorem f48_69 : gm_ft 48 69 = some (.iaload, 1) := by decide +kernel
theorem r48_69 {E : Nat → Value} {d : Nat} {st : List Value} {h : gm_H} {Q : gm_R → gm_H → Prop} {lv : List Value} {a j : Nat} (hk : gm_kd h a % 100 = 0 ∧ 100 ≤ gm_kd h a ∧ gm_kd h a < 900) (hj : j < gm_ln h a) (hl : gm_ln h a < 2 ^ 31) : gm_W E d 48 69 lv (.int (nI j) :: .ref a :: st) h Q ↔ gm_W E d 48 70 lv (gm_fv h a j :: st) h Q := gw_rd m48 f48_69 rfl rfl rfl rfl (gs_ld (P := fun t => t == 0) hk.2 (by have := hk.1; simp [this] <;> omega) hj hl)
theorem f48_70 : gm_ft 48 70 = some (.goto 9, 3) := by decide +kernel
theorem r48_70 {E : Nat → Value} {d : Nat} {st : List Value} {h : gm_H} {Q : gm_R → gm_H → Prop} {lv : List Value} : gm_W E d 48 70 lv st h Q ↔ gm_W E d 48 79 lv st h Q := gw_brT m48 f48_70 rfl rfl rfl rfl
theorem f48_73 : gm_ft 48 73 = some (.aload_n 0, 1) := by decide +kernel
theorem r48_73 {E : Nat → Value} {d : Nat} {st : List Value} {h : gm_H} {Q : gm_R → gm_H → Prop} {a1 a2 : Value} {x : Nat} : gm_W E d 48 73 [.ref x, a1, a2] st h Q ↔ gm_W E d 48 74 [.ref x, a1, a2] (.ref x :: st) h Q := gw_loc m48 f48_73 rfl rfl
theorem r48_73n {E : Nat → Value} {d : Nat} {st : List Value} {h : gm_H} {Q : gm_R → gm_H → Prop} {a1 a2 : Value}  : gm_W E d 48 73 [.null, a1, a2] st h Q ↔ gm_W E d 48 74 [.null, a1, a2] (.null :: st) h Q := gw_loc m48 f48_73 rfl rfl
theorem f48_74 : gm_ft 48 74 = some (.getfield 51, 3) := by decide +kernel
theorem r48_74 {E : Nat → Value} {d : Nat} {st : List Value} {h : gm_H} {Q : gm_R → gm_H → Prop} {lv : List Value} {a : Nat} (hk : gm_kd h a = 5) : gm_W E d 48 74 lv (.ref a :: st) h Q ↔ gm_W E d 48 77 lv (gm_fv h a 22 :: st) h Q := gw_rd m48 f48_74 rfl rfl rfl rfl (gs_get k5_51 hk (by decide))
theorem f48_77 : gm_ft 48 77 = some (.iload_n 1, 1) := by decide +kernel
theorem r48_77 {E : Nat → Value} {d : Nat} {st : List Value} {h : gm_H} {Q : gm_R → gm_H → Prop} {a0 a2 : Value} {x : Int32} : gm_W E d 48 77 [a0, .int x, a2] st h Q ↔ gm_W E d 48 78 [a0, .int x, a2] (.int x :: st) h Q := gw_loc m48 f48_77 rfl rfl
theorem f48_78 : gm_ft 48 78 = some (.iaload, 1) := by decide +kernel
theorem r48_78 {E : Nat → Value} {d : Nat} {st : List Value} {h : gm_H} {Q : gm_R → gm_H → Prop} {lv : List Value} {a j : Nat} (hk : gm_kd h a % 100 = 0 ∧ 100 ≤ gm_kd h a ∧ gm_kd h a < 900) (hj : j < gm_ln h a) (hl : gm_ln h a < 2 ^ 31) : gm_W E d 48 78 lv (.int (nI j) :: .ref a :: st) h Q ↔ gm_W E d 48 79 lv (gm_fv h a j :: st) h Q := gw_rd m48 f48_78 rfl rfl rfl rfl (gs_ld (P := fun t => t == 0) hk.2 (by have := hk.1; simp [this] <;> omega) hj hl)
theorem f48_79 : gm_ft 48 79 = some (.ireturn, 1) := by decide +kernel
theorem r48_79 {E : Nat → Value} {d : Nat} {h : gm_H} {Q : gm_R → gm_H → Prop} {lv : List Value} {x : Int32} : gm_W E d 48 79 lv [.int x] h Q ↔ Q (.inl (some (.int x))) h := gw_ret m48 f48_79 rfl rfl rfl rfl rfl rfl rfl rfl (by unfold gm_rt; dsimp only; rw [if_pos ⟨rfl, rfl⟩])
/-! GraphReaderModel.value(II)J -/
theorem m49 : gm_mt[49]? = some (⟨"GraphReaderModel", "value", "(II)J"⟩, prog_7_method_48_code, 6, (some .long), [], 5, 2) := rfl
theorem f49_0 : gm_ft 49 0 = some (.aload_n 0, 1) := by decide +kernel
theorem r49_0 {E : Nat → Value} {d : Nat} {st : List Value} {h : gm_H} {Q : gm_R → gm_H → Prop} {a1 a2 a3 a4 a5 : Value} {x : Nat} : gm_W E d 49 0 [.ref x, a1, a2, a3, a4, a5] st h Q ↔ gm_W E d 49 1 [.ref x, a1, a2, a3, a4, a5] (.ref x :: st) h Q := gw_loc m49 f49_0 rfl rfl
theorem r49_0n {E : Nat → Value} {d : Nat} {st : List Value} {h : gm_H} {Q : gm_R → gm_H → Prop} {a1 a2 a3 a4 a5 : Value}  : gm_W E d 49 0 [.null, a1, a2, a3, a4, a5] st h Q ↔ gm_W E d 49 1 [.null, a1, a2, a3, a4, a5] (.null :: st) h Q := gw_loc m49 f49_0 rfl rfl
theorem f49_1 : gm_ft 49 1 = some (.iload_n 1, 1) := by decide +kernel
theorem r49_1 {E : Nat → Value} {d : Nat} {st : List Value} {h : gm_H} {Q : gm_R → gm_H → Prop} {a0 a2 a3 a4 a5 : Value} {x : Int32} : gm_W E d 49 1 [a0, .int x, a2, a3, a4, a5] st h Q ↔ gm_W E d 49 2 [a0, .int x, a2, a3, a4, a5] (.int x :: st) h Q := gw_loc m49 f49_1 rfl rfl
theorem f49_2 : gm_ft 49 2 = some (.aload_n 0, 1) := by decide +kernel
theorem r49_2 {E : Nat → Value} {d : Nat} {st : List Value} {h : gm_H} {Q : gm_R → gm_H → Prop} {a1 a2 a3 a4 a5 : Value} {x : Nat} : gm_W E d 49 2 [.ref x, a1, a2, a3, a4, a5] st h Q ↔ gm_W E d 49 3 [.ref x, a1, a2, a3, a4, a5] (.ref x :: st) h Q := gw_loc m49 f49_2 rfl rfl
theorem r49_2n {E : Nat → Value} {d : Nat} {st : List Value} {h : gm_H} {Q : gm_R → gm_H → Prop} {a1 a2 a3 a4 a5 : Value}  : gm_W E d 49 2 [.null, a1, a2, a3, a4, a5] st h Q ↔ gm_W E d 49 3 [.null, a1, a2, a3, a4, a5] (.null :: st) h Q := gw_loc m49 f49_2 rfl rfl
theorem f49_3 : gm_ft 49 3 = some (.getfield 139, 3) := by decide +kernel
theorem r49_3 {E : Nat → Value} {d : Nat} {st : List Value} {h : gm_H} {Q : gm_R → gm_H → Prop} {lv : List Value} {a : Nat} (hk : gm_kd h a = 5) : gm_W E d 49 3 lv (.ref a :: st) h Q ↔ gm_W E d 49 6 lv (gm_fv h a 23 :: st) h Q := gw_rd m49 f49_3 rfl rfl rfl rfl (gs_get k5_139 hk (by decide))
theorem f49_6 : gm_ft 49 6 = some (.invokevirtual 131, 3) := by decide +kernel
theorem c49_6 {E : Nat → Value} {d : Nat} {st : List Value} {h : gm_H} {Q : gm_R → gm_H → Prop} {lv : List Value} {b0 : Int32} {b1 : Int32} {a : Nat} {Qc : gm_R → gm_H → Prop} (hs : (st.map fun v => v.category).sum ≤ 8) (hr : gm_kd h a = 5) (hd : 1 ≤ d) (hc : gm_Ca E (d - 1) 4 [.ref a, .int b0, .int b1] h Qc) (kn : ∀ (v9 : Option Value) (h9 : gm_H), Qc (.inl v9) h9 → gm_W E d 49 9 lv (v9.toList ++ st) h9 Q) (kx : ∀ (x9 : Nat) (h9 : gm_H), Qc (.inr x9) h9 → Q (.inr x9) h9) : gm_W E d 49 6 lv (.int b1 :: .int b0 :: .ref a :: st) h Q := gw_call (gn_call m49 f49_6 rfl rfl rfl rfl rfl rfl rfl (gs_virt (bs := [.int b1, .int b0]) (w := 820) (L := 3) rfl rfl rfl rfl hs (by simp [gm_en1]) hr (by decide)) (by decide)) m49 rfl rfl hd hc kn kx
theorem f49_9 : gm_ft 49 9 = some (.ifCond .ne 27, 3) := by decide +kernel
theorem r49_9 {E : Nat → Value} {d : Nat} {st : List Value} {h : gm_H} {Q : gm_R → gm_H → Prop} {lv : List Value} {x : Int32} : gm_W E d 49 9 lv (.int x :: st) h Q ↔ (if x = 0 then gm_W E d 49 12 lv st h Q else gm_W E d 49 36 lv st h Q) := (gw_br m49 f49_9 rfl rfl rfl rfl).trans gw_ifn
theorem f49_12 : gm_ft 49 12 = some (.aload_n 0, 1) := by decide +kernel
theorem r49_12 {E : Nat → Value} {d : Nat} {st : List Value} {h : gm_H} {Q : gm_R → gm_H → Prop} {a1 a2 a3 a4 a5 : Value} {x : Nat} : gm_W E d 49 12 [.ref x, a1, a2, a3, a4, a5] st h Q ↔ gm_W E d 49 13 [.ref x, a1, a2, a3, a4, a5] (.ref x :: st) h Q := gw_loc m49 f49_12 rfl rfl
theorem r49_12n {E : Nat → Value} {d : Nat} {st : List Value} {h : gm_H} {Q : gm_R → gm_H → Prop} {a1 a2 a3 a4 a5 : Value}  : gm_W E d 49 12 [.null, a1, a2, a3, a4, a5] st h Q ↔ gm_W E d 49 13 [.null, a1, a2, a3, a4, a5] (.null :: st) h Q := gw_loc m49 f49_12 rfl rfl
theorem f49_13 : gm_ft 49 13 = some (.getfield 39, 3) := by decide +kernel
theorem r49_13 {E : Nat → Value} {d : Nat} {st : List Value} {h : gm_H} {Q : gm_R → gm_H → Prop} {lv : List Value} {a : Nat} (hk : gm_kd h a = 5) : gm_W E d 49 13 lv (.ref a :: st) h Q ↔ gm_W E d 49 16 lv (gm_fv h a 18 :: st) h Q := gw_rd m49 f49_13 rfl rfl rfl rfl (gs_get k5_39 hk (by decide))
theorem f49_16 : gm_ft 49 16 = some (.iload_n 1, 1) := by decide +kernel
theorem r49_16 {E : Nat → Value} {d : Nat} {st : List Value} {h : gm_H} {Q : gm_R → gm_H → Prop} {a0 a2 a3 a4 a5 : Value} {x : Int32} : gm_W E d 49 16 [a0, .int x, a2, a3, a4, a5] st h Q ↔ gm_W E d 49 17 [a0, .int x, a2, a3, a4, a5] (.int x :: st) h Q := gw_loc m49 f49_16 rfl rfl
theorem f49_17 : gm_ft 49 17 = some (.iaload, 1) := by decide +kernel
theorem r49_17 {E : Nat → Value} {d : Nat} {st : List Value} {h : gm_H} {Q : gm_R → gm_H → Prop} {lv : List Value} {a j : Nat} (hk : gm_kd h a % 100 = 0 ∧ 100 ≤ gm_kd h a ∧ gm_kd h a < 900) (hj : j < gm_ln h a) (hl : gm_ln h a < 2 ^ 31) : gm_W E d 49 17 lv (.int (nI j) :: .ref a :: st) h Q ↔ gm_W E d 49 18 lv (gm_fv h a j :: st) h Q := gw_rd m49 f49_17 rfl rfl rfl rfl (gs_ld (P := fun t => t == 0) hk.2 (by have := hk.1; simp [this] <;> omega) hj hl)
theorem f49_18 : gm_ft 49 18 = some (.iconst 4, 1) := by decide +kernel
theorem r49_18 {E : Nat → Value} {d : Nat} {st : List Value} {h : gm_H} {Q : gm_R → gm_H → Prop} {lv : List Value} : gm_W E d 49 18 lv st h Q ↔ gm_W E d 49 19 lv (.int (4 : Int32) :: st) h Q := gw_pure m49 f49_18 rfl
theorem f49_19 : gm_ft 49 19 = some (.if_icmp .eq 17, 3) := by decide +kernel
theorem r49_19 {E : Nat → Value} {d : Nat} {st : List Value} {h : gm_H} {Q : gm_R → gm_H → Prop} {lv : List Value} {x y : Int32} : gm_W E d 49 19 lv (.int y :: .int x :: st) h Q ↔ (if x = y then gm_W E d 49 36 lv st h Q else gm_W E d 49 22 lv st h Q) := (gw_br m49 f49_19 rfl rfl rfl rfl).trans gw_if
theorem f49_22 : gm_ft 49 22 = some (.aload_n 0, 1) := by decide +kernel
theorem r49_22 {E : Nat → Value} {d : Nat} {st : List Value} {h : gm_H} {Q : gm_R → gm_H → Prop} {a1 a2 a3 a4 a5 : Value} {x : Nat} : gm_W E d 49 22 [.ref x, a1, a2, a3, a4, a5] st h Q ↔ gm_W E d 49 23 [.ref x, a1, a2, a3, a4, a5] (.ref x :: st) h Q := gw_loc m49 f49_22 rfl rfl
theorem r49_22n {E : Nat → Value} {d : Nat} {st : List Value} {h : gm_H} {Q : gm_R → gm_H → Prop} {a1 a2 a3 a4 a5 : Value}  : gm_W E d 49 22 [.null, a1, a2, a3, a4, a5] st h Q ↔ gm_W E d 49 23 [.null, a1, a2, a3, a4, a5] (.null :: st) h Q := gw_loc m49 f49_22 rfl rfl
theorem f49_23 : gm_ft 49 23 = some (.iload_n 2, 1) := by decide +kernel
theorem r49_23 {E : Nat → Value} {d : Nat} {st : List Value} {h : gm_H} {Q : gm_R → gm_H → Prop} {a0 a1 a3 a4 a5 : Value} {x : Int32} : gm_W E d 49 23 [a0, a1, .int x, a3, a4, a5] st h Q ↔ gm_W E d 49 24 [a0, a1, .int x, a3, a4, a5] (.int x :: st) h Q := gw_loc m49 f49_23 rfl rfl
theorem f49_24 : gm_ft 49 24 = some (.aload_n 0, 1) := by decide +kernel
theorem r49_24 {E : Nat → Value} {d : Nat} {st : List Value} {h : gm_H} {Q : gm_R → gm_H → Prop} {a1 a2 a3 a4 a5 : Value} {x : Nat} : gm_W E d 49 24 [.ref x, a1, a2, a3, a4, a5] st h Q ↔ gm_W E d 49 25 [.ref x, a1, a2, a3, a4, a5] (.ref x :: st) h Q := gw_loc m49 f49_24 rfl rfl
theorem r49_24n {E : Nat → Value} {d : Nat} {st : List Value} {h : gm_H} {Q : gm_R → gm_H → Prop} {a1 a2 a3 a4 a5 : Value}  : gm_W E d 49 24 [.null, a1, a2, a3, a4, a5] st h Q ↔ gm_W E d 49 25 [.null, a1, a2, a3, a4, a5] (.null :: st) h Q := gw_loc m49 f49_24 rfl rfl
theorem f49_25 : gm_ft 49 25 = some (.getfield 45, 3) := by decide +kernel
theorem r49_25 {E : Nat → Value} {d : Nat} {st : List Value} {h : gm_H} {Q : gm_R → gm_H → Prop} {lv : List Value} {a : Nat} (hk : gm_kd h a = 5) : gm_W E d 49 25 lv (.ref a :: st) h Q ↔ gm_W E d 49 28 lv (gm_fv h a 20 :: st) h Q := gw_rd m49 f49_25 rfl rfl rfl rfl (gs_get k5_45 hk (by decide))
theorem f49_28 : gm_ft 49 28 = some (.iload_n 1, 1) := by decide +kernel
theorem r49_28 {E : Nat → Value} {d : Nat} {st : List Value} {h : gm_H} {Q : gm_R → gm_H → Prop} {a0 a2 a3 a4 a5 : Value} {x : Int32} : gm_W E d 49 28 [a0, .int x, a2, a3, a4, a5] st h Q ↔ gm_W E d 49 29 [a0, .int x, a2, a3, a4, a5] (.int x :: st) h Q := gw_loc m49 f49_28 rfl rfl
theorem f49_29 : gm_ft 49 29 = some (.iaload, 1) := by decide +kernel
theorem r49_29 {E : Nat → Value} {d : Nat} {st : List Value} {h : gm_H} {Q : gm_R → gm_H → Prop} {lv : List Value} {a j : Nat} (hk : gm_kd h a % 100 = 0 ∧ 100 ≤ gm_kd h a ∧ gm_kd h a < 900) (hj : j < gm_ln h a) (hl : gm_ln h a < 2 ^ 31) : gm_W E d 49 29 lv (.int (nI j) :: .ref a :: st) h Q ↔ gm_W E d 49 30 lv (gm_fv h a j :: st) h Q := gw_rd m49 f49_29 rfl rfl rfl rfl (gs_ld (P := fun t => t == 0) hk.2 (by have := hk.1; simp [this] <;> omega) hj hl)
theorem f49_30 : gm_ft 49 30 = some (.invokevirtual 131, 3) := by decide +kernel
theorem c49_30 {E : Nat → Value} {d : Nat} {st : List Value} {h : gm_H} {Q : gm_R → gm_H → Prop} {lv : List Value} {b0 : Int32} {b1 : Int32} {a : Nat} {Qc : gm_R → gm_H → Prop} (hs : (st.map fun v => v.category).sum ≤ 8) (hr : gm_kd h a = 5) (hd : 1 ≤ d) (hc : gm_Ca E (d - 1) 4 [.ref a, .int b0, .int b1] h Qc) (kn : ∀ (v9 : Option Value) (h9 : gm_H), Qc (.inl v9) h9 → gm_W E d 49 33 lv (v9.toList ++ st) h9 Q) (kx : ∀ (x9 : Nat) (h9 : gm_H), Qc (.inr x9) h9 → Q (.inr x9) h9) : gm_W E d 49 30 lv (.int b1 :: .int b0 :: .ref a :: st) h Q := gw_call (gn_call m49 f49_30 rfl rfl rfl rfl rfl rfl rfl (gs_virt (bs := [.int b1, .int b0]) (w := 820) (L := 3) rfl rfl rfl rfl hs (by simp [gm_en1]) hr (by decide)) (by decide)) m49 rfl rfl hd hc kn kx
theorem f49_33 : gm_ft 49 33 = some (.ifCond .eq 7, 3) := by decide +kernel
theorem r49_33 {E : Nat → Value} {d : Nat} {st : List Value} {h : gm_H} {Q : gm_R → gm_H → Prop} {lv : List Value} {x : Int32} : gm_W E d 49 33 lv (.int x :: st) h Q ↔ (if x = 0 then gm_W E d 49 40 lv st h Q else gm_W E d 49 36 lv st h Q) := (gw_br m49 f49_33 rfl rfl rfl rfl).trans gw_if
theorem f49_36 : gm_ft 49 36 = some (.ldc2_w 295, 3) := by decide +kernel
theorem r49_36 {E : Nat → Value} {d : Nat} {st : List Value} {h : gm_H} {Q : gm_R → gm_H → Prop} {lv : List Value} : gm_W E d 49 36 lv st h Q ↔ gm_W E d 49 39 lv (.long (-9000000000000000000 : Int64) :: st) h Q := gw_rd m49 f49_36 rfl rfl rfl rfl rfl
theorem f49_39 : gm_ft 49 39 = some (.lreturn, 1) := by decide +kernel
theorem r49_39 {E : Nat → Value} {d : Nat} {h : gm_H} {Q : gm_R → gm_H → Prop} {lv : List Value} {x : Int64} : gm_W E d 49 39 lv [.long x] h Q ↔ Q (.inl (some (.long x))) h := gw_ret m49 f49_39 rfl rfl rfl rfl rfl rfl rfl rfl rfl
theorem f49_40 : gm_ft 49 40 = some (.aload_n 0, 1) := by decide +kernel
theorem r49_40 {E : Nat → Value} {d : Nat} {st : List Value} {h : gm_H} {Q : gm_R → gm_H → Prop} {a1 a2 a3 a4 a5 : Value} {x : Nat} : gm_W E d 49 40 [.ref x, a1, a2, a3, a4, a5] st h Q ↔ gm_W E d 49 41 [.ref x, a1, a2, a3, a4, a5] (.ref x :: st) h Q := gw_loc m49 f49_40 rfl rfl
theorem r49_40n {E : Nat → Value} {d : Nat} {st : List Value} {h : gm_H} {Q : gm_R → gm_H → Prop} {a1 a2 a3 a4 a5 : Value}  : gm_W E d 49 40 [.null, a1, a2, a3, a4, a5] st h Q ↔ gm_W E d 49 41 [.null, a1, a2, a3, a4, a5] (.null :: st) h Q := gw_loc m49 f49_40 rfl rfl
theorem f49_41 : gm_ft 49 41 = some (.getfield 48, 3) := by decide +kernel
theorem r49_41 {E : Nat → Value} {d : Nat} {st : List Value} {h : gm_H} {Q : gm_R → gm_H → Prop} {lv : List Value} {a : Nat} (hk : gm_kd h a = 5) : gm_W E d 49 41 lv (.ref a :: st) h Q ↔ gm_W E d 49 44 lv (gm_fv h a 21 :: st) h Q := gw_rd m49 f49_41 rfl rfl rfl rfl (gs_get k5_48 hk (by decide))
theorem f49_44 : gm_ft 49 44 = some (.iload_n 1, 1) := by decide +kernel
theorem r49_44 {E : Nat → Value} {d : Nat} {st : List Value} {h : gm_H} {Q : gm_R → gm_H → Prop} {a0 a2 a3 a4 a5 : Value} {x : Int32} : gm_W E d 49 44 [a0, .int x, a2, a3, a4, a5] st h Q ↔ gm_W E d 49 45 [a0, .int x, a2, a3, a4, a5] (.int x :: st) h Q := gw_loc m49 f49_44 rfl rfl
theorem f49_45 : gm_ft 49 45 = some (.iaload, 1) := by decide +kernel
theorem r49_45 {E : Nat → Value} {d : Nat} {st : List Value} {h : gm_H} {Q : gm_R → gm_H → Prop} {lv : List Value} {a j : Nat} (hk : gm_kd h a % 100 = 0 ∧ 100 ≤ gm_kd h a ∧ gm_kd h a < 900) (hj : j < gm_ln h a) (hl : gm_ln h a < 2 ^ 31) : gm_W E d 49 45 lv (.int (nI j) :: .ref a :: st) h Q ↔ gm_W E d 49 46 lv (gm_fv h a j :: st) h Q := gw_rd m49 f49_45 rfl rfl rfl rfl (gs_ld (P := fun t => t == 0) hk.2 (by have := hk.1; simp [this] <;> omega) hj hl)
theorem f49_46 : gm_ft 49 46 = some (.istore_n 3, 1) := by decide +kernel
theorem r49_46 {E : Nat → Value} {d : Nat} {st : List Value} {h : gm_H} {Q : gm_R → gm_H → Prop} {a0 a1 a2 a3 a4 a5 : Value} {x : Int32} : gm_W E d 49 46 [a0, a1, a2, a3, a4, a5] (.int x :: st) h Q ↔ gm_W E d 49 47 [a0, a1, gm_k a2, .int x, a4, a5] st h Q := gw_loc m49 f49_46 rfl rfl
theorem f49_47 : gm_ft 49 47 = some (.aload_n 0, 1) := by decide +kernel
theorem r49_47 {E : Nat → Value} {d : Nat} {st : List Value} {h : gm_H} {Q : gm_R → gm_H → Prop} {a1 a2 a3 a4 a5 : Value} {x : Nat} : gm_W E d 49 47 [.ref x, a1, a2, a3, a4, a5] st h Q ↔ gm_W E d 49 48 [.ref x, a1, a2, a3, a4, a5] (.ref x :: st) h Q := gw_loc m49 f49_47 rfl rfl
theorem r49_47n {E : Nat → Value} {d : Nat} {st : List Value} {h : gm_H} {Q : gm_R → gm_H → Prop} {a1 a2 a3 a4 a5 : Value}  : gm_W E d 49 47 [.null, a1, a2, a3, a4, a5] st h Q ↔ gm_W E d 49 48 [.null, a1, a2, a3, a4, a5] (.null :: st) h Q := gw_loc m49 f49_47 rfl rfl
theorem f49_48 : gm_ft 49 48 = some (.getfield 39, 3) := by decide +kernel
theorem r49_48 {E : Nat → Value} {d : Nat} {st : List Value} {h : gm_H} {Q : gm_R → gm_H → Prop} {lv : List Value} {a : Nat} (hk : gm_kd h a = 5) : gm_W E d 49 48 lv (.ref a :: st) h Q ↔ gm_W E d 49 51 lv (gm_fv h a 18 :: st) h Q := gw_rd m49 f49_48 rfl rfl rfl rfl (gs_get k5_39 hk (by decide))
theorem f49_51 : gm_ft 49 51 = some (.iload_n 1, 1) := by decide +kernel
theorem r49_51 {E : Nat → Value} {d : Nat} {st : List Value} {h : gm_H} {Q : gm_R → gm_H → Prop} {a0 a2 a3 a4 a5 : Value} {x : Int32} : gm_W E d 49 51 [a0, .int x, a2, a3, a4, a5] st h Q ↔ gm_W E d 49 52 [a0, .int x, a2, a3, a4, a5] (.int x :: st) h Q := gw_loc m49 f49_51 rfl rfl
theorem f49_52 : gm_ft 49 52 = some (.iaload, 1) := by decide +kernel
theorem r49_52 {E : Nat → Value} {d : Nat} {st : List Value} {h : gm_H} {Q : gm_R → gm_H → Prop} {lv : List Value} {a j : Nat} (hk : gm_kd h a % 100 = 0 ∧ 100 ≤ gm_kd h a ∧ gm_kd h a < 900) (hj : j < gm_ln h a) (hl : gm_ln h a < 2 ^ 31) : gm_W E d 49 52 lv (.int (nI j) :: .ref a :: st) h Q ↔ gm_W E d 49 53 lv (gm_fv h a j :: st) h Q := gw_rd m49 f49_52 rfl rfl rfl rfl (gs_ld (P := fun t => t == 0) hk.2 (by have := hk.1; simp [this] <;> omega) hj hl)
theorem f49_53 : gm_ft 49 53 = some (.iconst 1, 1) := by decide +kernel
theorem r49_53 {E : Nat → Value} {d : Nat} {st : List Value} {h : gm_H} {Q : gm_R → gm_H → Prop} {lv : List Value} : gm_W E d 49 53 lv st h Q ↔ gm_W E d 49 54 lv (.int (1 : Int32) :: st) h Q := gw_pure m49 f49_53 rfl
theorem f49_54 : gm_ft 49 54 = some (.if_icmp .ne 13, 3) := by decide +kernel
theorem r49_54 {E : Nat → Value} {d : Nat} {st : List Value} {h : gm_H} {Q : gm_R → gm_H → Prop} {lv : List Value} {x y : Int32} : gm_W E d 49 54 lv (.int y :: .int x :: st) h Q ↔ (if x = y then gm_W E d 49 57 lv st h Q else gm_W E d 49 67 lv st h Q) := (gw_br m49 f49_54 rfl rfl rfl rfl).trans gw_ifn
theorem f49_57 : gm_ft 49 57 = some (.aload_n 0, 1) := by decide +kernel
theorem r49_57 {E : Nat → Value} {d : Nat} {st : List Value} {h : gm_H} {Q : gm_R → gm_H → Prop} {a1 a2 a3 a4 a5 : Value} {x : Nat} : gm_W E d 49 57 [.ref x, a1, a2, a3, a4, a5] st h Q ↔ gm_W E d 49 58 [.ref x, a1, a2, a3, a4, a5] (.ref x :: st) h Q := gw_loc m49 f49_57 rfl rfl
theorem r49_57n {E : Nat → Value} {d : Nat} {st : List Value} {h : gm_H} {Q : gm_R → gm_H → Prop} {a1 a2 a3 a4 a5 : Value}  : gm_W E d 49 57 [.null, a1, a2, a3, a4, a5] st h Q ↔ gm_W E d 49 58 [.null, a1, a2, a3, a4, a5] (.null :: st) h Q := gw_loc m49 f49_57 rfl rfl
theorem f49_58 : gm_ft 49 58 = some (.getfield 7, 3) := by decide +kernel
theorem r49_58 {E : Nat → Value} {d : Nat} {st : List Value} {h : gm_H} {Q : gm_R → gm_H → Prop} {lv : List Value} {a : Nat} (hk : gm_kd h a = 5) : gm_W E d 49 58 lv (.ref a :: st) h Q ↔ gm_W E d 49 61 lv (gm_fv h a 4 :: st) h Q := gw_rd m49 f49_58 rfl rfl rfl rfl (gs_get k5_7 hk (by decide))
theorem f49_61 : gm_ft 49 61 = some (.iload_n 3, 1) := by decide +kernel
theorem r49_61 {E : Nat → Value} {d : Nat} {st : List Value} {h : gm_H} {Q : gm_R → gm_H → Prop} {a0 a1 a2 a4 a5 : Value} {x : Int32} : gm_W E d 49 61 [a0, a1, a2, .int x, a4, a5] st h Q ↔ gm_W E d 49 62 [a0, a1, a2, .int x, a4, a5] (.int x :: st) h Q := gw_loc m49 f49_61 rfl rfl
theorem f49_62 : gm_ft 49 62 = some (.iload_n 2, 1) := by decide +kernel
theorem r49_62 {E : Nat → Value} {d : Nat} {st : List Value} {h : gm_H} {Q : gm_R → gm_H → Prop} {a0 a1 a3 a4 a5 : Value} {x : Int32} : gm_W E d 49 62 [a0, a1, .int x, a3, a4, a5] st h Q ↔ gm_W E d 49 63 [a0, a1, .int x, a3, a4, a5] (.int x :: st) h Q := gw_loc m49 f49_62 rfl rfl
theorem f49_63 : gm_ft 49 63 = some (.iadd, 1) := by decide +kernel
theorem r49_63 {E : Nat → Value} {d : Nat} {st : List Value} {h : gm_H} {Q : gm_R → gm_H → Prop} {lv : List Value} {x y : Int32} : gm_W E d 49 63 lv (.int y :: .int x :: st) h Q ↔ gm_W E d 49 64 lv (.int (x + y) :: st) h Q := gw_pure m49 f49_63 rfl
theorem f49_64 : gm_ft 49 64 = some (.iaload, 1) := by decide +kernel
theorem r49_64 {E : Nat → Value} {d : Nat} {st : List Value} {h : gm_H} {Q : gm_R → gm_H → Prop} {lv : List Value} {a j : Nat} (hk : gm_kd h a % 100 = 0 ∧ 100 ≤ gm_kd h a ∧ gm_kd h a < 900) (hj : j < gm_ln h a) (hl : gm_ln h a < 2 ^ 31) : gm_W E d 49 64 lv (.int (nI j) :: .ref a :: st) h Q ↔ gm_W E d 49 65 lv (gm_fv h a j :: st) h Q := gw_rd m49 f49_64 rfl rfl rfl rfl (gs_ld (P := fun t => t == 0) hk.2 (by have := hk.1; simp [this] <;> omega) hj hl)
theorem f49_65 : gm_ft 49 65 = some (.i2l, 1) := by decide +kernel
theorem r49_65 {E : Nat → Value} {d : Nat} {st : List Value} {h : gm_H} {Q : gm_R → gm_H → Prop} {lv : List Value} {x : Int32} : gm_W E d 49 65 lv (.int x :: st) h Q ↔ gm_W E d 49 66 lv (.long (x.toInt64) :: st) h Q := gw_pure m49 f49_65 rfl
theorem f49_66 : gm_ft 49 66 = some (.lreturn, 1) := by decide +kernel
theorem r49_66 {E : Nat → Value} {d : Nat} {h : gm_H} {Q : gm_R → gm_H → Prop} {lv : List Value} {x : Int64} : gm_W E d 49 66 lv [.long x] h Q ↔ Q (.inl (some (.long x))) h := gw_ret m49 f49_66 rfl rfl rfl rfl rfl rfl rfl rfl rfl
theorem f49_67 : gm_ft 49 67 = some (.aload_n 0, 1) := by decide +kernel
theorem r49_67 {E : Nat → Value} {d : Nat} {st : List Value} {h : gm_H} {Q : gm_R → gm_H → Prop} {a1 a2 a3 a4 a5 : Value} {x : Nat} : gm_W E d 49 67 [.ref x, a1, a2, a3, a4, a5] st h Q ↔ gm_W E d 49 68 [.ref x, a1, a2, a3, a4, a5] (.ref x :: st) h Q := gw_loc m49 f49_67 rfl rfl
theorem r49_67n {E : Nat → Value} {d : Nat} {st : List Value} {h : gm_H} {Q : gm_R → gm_H → Prop} {a1 a2 a3 a4 a5 : Value}  : gm_W E d 49 67 [.null, a1, a2, a3, a4, a5] st h Q ↔ gm_W E d 49 68 [.null, a1, a2, a3, a4, a5] (.null :: st) h Q := gw_loc m49 f49_67 rfl rfl
theorem f49_68 : gm_ft 49 68 = some (.getfield 39, 3) := by decide +kernel
theorem r49_68 {E : Nat → Value} {d : Nat} {st : List Value} {h : gm_H} {Q : gm_R → gm_H → Prop} {lv : List Value} {a : Nat} (hk : gm_kd h a = 5) : gm_W E d 49 68 lv (.ref a :: st) h Q ↔ gm_W E d 49 71 lv (gm_fv h a 18 :: st) h Q := gw_rd m49 f49_68 rfl rfl rfl rfl (gs_get k5_39 hk (by decide))
theorem f49_71 : gm_ft 49 71 = some (.iload_n 1, 1) := by decide +kernel
theorem r49_71 {E : Nat → Value} {d : Nat} {st : List Value} {h : gm_H} {Q : gm_R → gm_H → Prop} {a0 a2 a3 a4 a5 : Value} {x : Int32} : gm_W E d 49 71 [a0, .int x, a2, a3, a4, a5] st h Q ↔ gm_W E d 49 72 [a0, .int x, a2, a3, a4, a5] (.int x :: st) h Q := gw_loc m49 f49_71 rfl rfl
theorem f49_72 : gm_ft 49 72 = some (.iaload, 1) := by decide +kernel
theorem r49_72 {E : Nat → Value} {d : Nat} {st : List Value} {h : gm_H} {Q : gm_R → gm_H → Prop} {lv : List Value} {a j : Nat} (hk : gm_kd h a % 100 = 0 ∧ 100 ≤ gm_kd h a ∧ gm_kd h a < 900) (hj : j < gm_ln h a) (hl : gm_ln h a < 2 ^ 31) : gm_W E d 49 72 lv (.int (nI j) :: .ref a :: st) h Q ↔ gm_W E d 49 73 lv (gm_fv h a j :: st) h Q := gw_rd m49 f49_72 rfl rfl rfl rfl (gs_ld (P := fun t => t == 0) hk.2 (by have := hk.1; simp [this] <;> omega) hj hl)
theorem f49_73 : gm_ft 49 73 = some (.iconst 2, 1) := by decide +kernel
theorem r49_73 {E : Nat → Value} {d : Nat} {st : List Value} {h : gm_H} {Q : gm_R → gm_H → Prop} {lv : List Value} : gm_W E d 49 73 lv st h Q ↔ gm_W E d 49 74 lv (.int (2 : Int32) :: st) h Q := gw_pure m49 f49_73 rfl
theorem f49_74 : gm_ft 49 74 = some (.if_icmp .eq 12, 3) := by decide +kernel
theorem r49_74 {E : Nat → Value} {d : Nat} {st : List Value} {h : gm_H} {Q : gm_R → gm_H → Prop} {lv : List Value} {x y : Int32} : gm_W E d 49 74 lv (.int y :: .int x :: st) h Q ↔ (if x = y then gm_W E d 49 86 lv st h Q else gm_W E d 49 77 lv st h Q) := (gw_br m49 f49_74 rfl rfl rfl rfl).trans gw_if
theorem f49_77 : gm_ft 49 77 = some (.aload_n 0, 1) := by decide +kernel
theorem r49_77 {E : Nat → Value} {d : Nat} {st : List Value} {h : gm_H} {Q : gm_R → gm_H → Prop} {a1 a2 a3 a4 a5 : Value} {x : Nat} : gm_W E d 49 77 [.ref x, a1, a2, a3, a4, a5] st h Q ↔ gm_W E d 49 78 [.ref x, a1, a2, a3, a4, a5] (.ref x :: st) h Q := gw_loc m49 f49_77 rfl rfl
theorem r49_77n {E : Nat → Value} {d : Nat} {st : List Value} {h : gm_H} {Q : gm_R → gm_H → Prop} {a1 a2 a3 a4 a5 : Value}  : gm_W E d 49 77 [.null, a1, a2, a3, a4, a5] st h Q ↔ gm_W E d 49 78 [.null, a1, a2, a3, a4, a5] (.null :: st) h Q := gw_loc m49 f49_77 rfl rfl
theorem f49_78 : gm_ft 49 78 = some (.getfield 54, 3) := by decide +kernel
theorem r49_78 {E : Nat → Value} {d : Nat} {st : List Value} {h : gm_H} {Q : gm_R → gm_H → Prop} {lv : List Value} {a : Nat} (hk : gm_kd h a = 5) : gm_W E d 49 78 lv (.ref a :: st) h Q ↔ gm_W E d 49 81 lv (gm_fv h a 24 :: st) h Q := gw_rd m49 f49_78 rfl rfl rfl rfl (gs_get k5_54 hk (by decide))
theorem f49_81 : gm_ft 49 81 = some (.iload_n 3, 1) := by decide +kernel
theorem r49_81 {E : Nat → Value} {d : Nat} {st : List Value} {h : gm_H} {Q : gm_R → gm_H → Prop} {a0 a1 a2 a4 a5 : Value} {x : Int32} : gm_W E d 49 81 [a0, a1, a2, .int x, a4, a5] st h Q ↔ gm_W E d 49 82 [a0, a1, a2, .int x, a4, a5] (.int x :: st) h Q := gw_loc m49 f49_81 rfl rfl
theorem f49_82 : gm_ft 49 82 = some (.iload_n 2, 1) := by decide +kernel
theorem r49_82 {E : Nat → Value} {d : Nat} {st : List Value} {h : gm_H} {Q : gm_R → gm_H → Prop} {a0 a1 a3 a4 a5 : Value} {x : Int32} : gm_W E d 49 82 [a0, a1, .int x, a3, a4, a5] st h Q ↔ gm_W E d 49 83 [a0, a1, .int x, a3, a4, a5] (.int x :: st) h Q := gw_loc m49 f49_82 rfl rfl
theorem f49_83 : gm_ft 49 83 = some (.iadd, 1) := by decide +kernel
theorem r49_83 {E : Nat → Value} {d : Nat} {st : List Value} {h : gm_H} {Q : gm_R → gm_H → Prop} {lv : List Value} {x y : Int32} : gm_W E d 49 83 lv (.int y :: .int x :: st) h Q ↔ gm_W E d 49 84 lv (.int (x + y) :: st) h Q := gw_pure m49 f49_83 rfl
theorem f49_84 : gm_ft 49 84 = some (.laload, 1) := by decide +kernel
theorem r49_84 {E : Nat → Value} {d : Nat} {st : List Value} {h : gm_H} {Q : gm_R → gm_H → Prop} {lv : List Value} {a j : Nat} (hk : gm_kd h a % 100 = 1 ∧ 100 ≤ gm_kd h a ∧ gm_kd h a < 900) (hj : j < gm_ln h a) (hl : gm_ln h a < 2 ^ 31) : gm_W E d 49 84 lv (.int (nI j) :: .ref a :: st) h Q ↔ gm_W E d 49 85 lv (gm_fv h a j :: st) h Q := gw_rd m49 f49_84 rfl rfl rfl rfl (gs_ld (P := fun t => t == 1) hk.2 (by have := hk.1; simp [this] <;> omega) hj hl)
theorem f49_85 : gm_ft 49 85 = some (.lreturn, 1) := by decide +kernel
theorem r49_85 {E : Nat → Value} {d : Nat} {h : gm_H} {Q : gm_R → gm_H → Prop} {lv : List Value} {x : Int64} : gm_W E d 49 85 lv [.long x] h Q ↔ Q (.inl (some (.long x))) h := gw_ret m49 f49_85 rfl rfl rfl rfl rfl rfl rfl rfl rfl
theorem f49_86 : gm_ft 49 86 = some (.iconst 0, 1) := by decide +kernel
theorem r49_86 {E : Nat → Value} {d : Nat} {st : List Value} {h : gm_H} {Q : gm_R → gm_H → Prop} {lv : List Value} : gm_W E d 49 86 lv st h Q ↔ gm_W E d 49 87 lv (.int (0 : Int32) :: st) h Q := gw_pure m49 f49_86 rfl
theorem f49_87 : gm_ft 49 87 = some (.istore 4, 2) := by decide +kernel
theorem r49_87 {E : Nat → Value} {d : Nat} {st : List Value} {h : gm_H} {Q : gm_R → gm_H → Prop} {a0 a1 a2 a3 a4 a5 : Value} {x : Int32} : gm_W E d 49 87 [a0, a1, a2, a3, a4, a5] (.int x :: st) h Q ↔ gm_W E d 49 89 [a0, a1, a2, gm_k a3, .int x, a5] st h Q := gw_loc m49 f49_87 rfl rfl
theorem f49_89 : gm_ft 49 89 = some (.iconst 0, 1) := by decide +kernel
theorem r49_89 {E : Nat → Value} {d : Nat} {st : List Value} {h : gm_H} {Q : gm_R → gm_H → Prop} {lv : List Value} : gm_W E d 49 89 lv st h Q ↔ gm_W E d 49 90 lv (.int (0 : Int32) :: st) h Q := gw_pure m49 f49_89 rfl
theorem f49_90 : gm_ft 49 90 = some (.istore 5, 2) := by decide +kernel
theorem r49_90 {E : Nat → Value} {d : Nat} {st : List Value} {h : gm_H} {Q : gm_R → gm_H → Prop} {a0 a1 a2 a3 a4 a5 : Value} {x : Int32} : gm_W E d 49 90 [a0, a1, a2, a3, a4, a5] (.int x :: st) h Q ↔ gm_W E d 49 92 [a0, a1, a2, a3, gm_k a4, .int x] st h Q := gw_loc m49 f49_90 rfl rfl
theorem f49_92 : gm_ft 49 92 = some (.iload 5, 2) := by decide +kernel
theorem r49_92 {E : Nat → Value} {d : Nat} {st : List Value} {h : gm_H} {Q : gm_R → gm_H → Prop} {a0 a1 a2 a3 a4 : Value} {x : Int32} : gm_W E d 49 92 [a0, a1, a2, a3, a4, .int x] st h Q ↔ gm_W E d 49 94 [a0, a1, a2, a3, a4, .int x] (.int x :: st) h Q := gw_loc m49 f49_92 rfl rfl
theorem f49_94 : gm_ft 49 94 = some (.iconst 4, 1) := by decide +kernel
theorem r49_94 {E : Nat → Value} {d : Nat} {st : List Value} {h : gm_H} {Q : gm_R → gm_H → Prop} {lv : List Value} : gm_W E d 49 94 lv st h Q ↔ gm_W E d 49 95 lv (.int (4 : Int32) :: st) h Q := gw_pure m49 f49_94 rfl
theorem f49_95 : gm_ft 49 95 = some (.if_icmp .ge 30, 3) := by decide +kernel
theorem r49_95 {E : Nat → Value} {d : Nat} {st : List Value} {h : gm_H} {Q : gm_R → gm_H → Prop} {lv : List Value} {x y : Int32} : gm_W E d 49 95 lv (.int y :: .int x :: st) h Q ↔ (if y ≤ x then gm_W E d 49 125 lv st h Q else gm_W E d 49 98 lv st h Q) := (gw_br m49 f49_95 rfl rfl rfl rfl).trans gw_if
theorem f49_98 : gm_ft 49 98 = some (.iload 4, 2) := by decide +kernel
theorem r49_98 {E : Nat → Value} {d : Nat} {st : List Value} {h : gm_H} {Q : gm_R → gm_H → Prop} {a0 a1 a2 a3 a5 : Value} {x : Int32} : gm_W E d 49 98 [a0, a1, a2, a3, .int x, a5] st h Q ↔ gm_W E d 49 100 [a0, a1, a2, a3, .int x, a5] (.int x :: st) h Q := gw_loc m49 f49_98 rfl rfl
theorem f49_100 : gm_ft 49 100 = some (.bipush 8, 2) := by decide +kernel
theorem r49_100 {E : Nat → Value} {d : Nat} {st : List Value} {h : gm_H} {Q : gm_R → gm_H → Prop} {lv : List Value} : gm_W E d 49 100 lv st h Q ↔ gm_W E d 49 102 lv (.int (8 : Int32) :: st) h Q := gw_pure m49 f49_100 rfl
theorem f49_102 : gm_ft 49 102 = some (.ishl, 1) := by decide +kernel
theorem r49_102 {E : Nat → Value} {d : Nat} {st : List Value} {h : gm_H} {Q : gm_R → gm_H → Prop} {lv : List Value} {x y : Int32} : gm_W E d 49 102 lv (.int y :: .int x :: st) h Q ↔ gm_W E d 49 103 lv (.int (x <<< (y &&& 31)) :: st) h Q := gw_pure m49 f49_102 rfl
theorem f49_103 : gm_ft 49 103 = some (.aload_n 0, 1) := by decide +kernel
theorem r49_103 {E : Nat → Value} {d : Nat} {st : List Value} {h : gm_H} {Q : gm_R → gm_H → Prop} {a1 a2 a3 a4 a5 : Value} {x : Nat} : gm_W E d 49 103 [.ref x, a1, a2, a3, a4, a5] st h Q ↔ gm_W E d 49 104 [.ref x, a1, a2, a3, a4, a5] (.ref x :: st) h Q := gw_loc m49 f49_103 rfl rfl
theorem r49_103n {E : Nat → Value} {d : Nat} {st : List Value} {h : gm_H} {Q : gm_R → gm_H → Prop} {a1 a2 a3 a4 a5 : Value}  : gm_W E d 49 103 [.null, a1, a2, a3, a4, a5] st h Q ↔ gm_W E d 49 104 [.null, a1, a2, a3, a4, a5] (.null :: st) h Q := gw_loc m49 f49_103 rfl rfl
theorem f49_104 : gm_ft 49 104 = some (.getfield 7, 3) := by decide +kernel
theorem r49_104 {E : Nat → Value} {d : Nat} {st : List Value} {h : gm_H} {Q : gm_R → gm_H → Prop} {lv : List Value} {a : Nat} (hk : gm_kd h a = 5) : gm_W E d 49 104 lv (.ref a :: st) h Q ↔ gm_W E d 49 107 lv (gm_fv h a 4 :: st) h Q := gw_rd m49 f49_104 rfl rfl rfl rfl (gs_get k5_7 hk (by decide))
theorem f49_107 : gm_ft 49 107 = some (.iload_n 3, 1) := by decide +kernel
theorem r49_107 {E : Nat → Value} {d : Nat} {st : List Value} {h : gm_H} {Q : gm_R → gm_H → Prop} {a0 a1 a2 a4 a5 : Value} {x : Int32} : gm_W E d 49 107 [a0, a1, a2, .int x, a4, a5] st h Q ↔ gm_W E d 49 108 [a0, a1, a2, .int x, a4, a5] (.int x :: st) h Q := gw_loc m49 f49_107 rfl rfl
theorem f49_108 : gm_ft 49 108 = some (.iconst 4, 1) := by decide +kernel
theorem r49_108 {E : Nat → Value} {d : Nat} {st : List Value} {h : gm_H} {Q : gm_R → gm_H → Prop} {lv : List Value} : gm_W E d 49 108 lv st h Q ↔ gm_W E d 49 109 lv (.int (4 : Int32) :: st) h Q := gw_pure m49 f49_108 rfl
theorem f49_109 : gm_ft 49 109 = some (.iload_n 2, 1) := by decide +kernel
theorem r49_109 {E : Nat → Value} {d : Nat} {st : List Value} {h : gm_H} {Q : gm_R → gm_H → Prop} {a0 a1 a3 a4 a5 : Value} {x : Int32} : gm_W E d 49 109 [a0, a1, .int x, a3, a4, a5] st h Q ↔ gm_W E d 49 110 [a0, a1, .int x, a3, a4, a5] (.int x :: st) h Q := gw_loc m49 f49_109 rfl rfl
theorem f49_110 : gm_ft 49 110 = some (.imul, 1) := by decide +kernel
theorem r49_110 {E : Nat → Value} {d : Nat} {st : List Value} {h : gm_H} {Q : gm_R → gm_H → Prop} {lv : List Value} {x y : Int32} : gm_W E d 49 110 lv (.int y :: .int x :: st) h Q ↔ gm_W E d 49 111 lv (.int (x * y) :: st) h Q := gw_pure m49 f49_110 rfl
theorem f49_111 : gm_ft 49 111 = some (.iadd, 1) := by decide +kernel
theorem r49_111 {E : Nat → Value} {d : Nat} {st : List Value} {h : gm_H} {Q : gm_R → gm_H → Prop} {lv : List Value} {x y : Int32} : gm_W E d 49 111 lv (.int y :: .int x :: st) h Q ↔ gm_W E d 49 112 lv (.int (x + y) :: st) h Q := gw_pure m49 f49_111 rfl
theorem f49_112 : gm_ft 49 112 = some (.iload 5, 2) := by decide +kernel
theorem r49_112 {E : Nat → Value} {d : Nat} {st : List Value} {h : gm_H} {Q : gm_R → gm_H → Prop} {a0 a1 a2 a3 a4 : Value} {x : Int32} : gm_W E d 49 112 [a0, a1, a2, a3, a4, .int x] st h Q ↔ gm_W E d 49 114 [a0, a1, a2, a3, a4, .int x] (.int x :: st) h Q := gw_loc m49 f49_112 rfl rfl
theorem f49_114 : gm_ft 49 114 = some (.iadd, 1) := by decide +kernel
theorem r49_114 {E : Nat → Value} {d : Nat} {st : List Value} {h : gm_H} {Q : gm_R → gm_H → Prop} {lv : List Value} {x y : Int32} : gm_W E d 49 114 lv (.int y :: .int x :: st) h Q ↔ gm_W E d 49 115 lv (.int (x + y) :: st) h Q := gw_pure m49 f49_114 rfl
theorem f49_115 : gm_ft 49 115 = some (.iaload, 1) := by decide +kernel
theorem r49_115 {E : Nat → Value} {d : Nat} {st : List Value} {h : gm_H} {Q : gm_R → gm_H → Prop} {lv : List Value} {a j : Nat} (hk : gm_kd h a % 100 = 0 ∧ 100 ≤ gm_kd h a ∧ gm_kd h a < 900) (hj : j < gm_ln h a) (hl : gm_ln h a < 2 ^ 31) : gm_W E d 49 115 lv (.int (nI j) :: .ref a :: st) h Q ↔ gm_W E d 49 116 lv (gm_fv h a j :: st) h Q := gw_rd m49 f49_115 rfl rfl rfl rfl (gs_ld (P := fun t => t == 0) hk.2 (by have := hk.1; simp [this] <;> omega) hj hl)
theorem f49_116 : gm_ft 49 116 = some (.ior, 1) := by decide +kernel
theorem r49_116 {E : Nat → Value} {d : Nat} {st : List Value} {h : gm_H} {Q : gm_R → gm_H → Prop} {lv : List Value} {x y : Int32} : gm_W E d 49 116 lv (.int y :: .int x :: st) h Q ↔ gm_W E d 49 117 lv (.int (x ||| y) :: st) h Q := gw_pure m49 f49_116 rfl
theorem f49_117 : gm_ft 49 117 = some (.istore 4, 2) := by decide +kernel
theorem r49_117 {E : Nat → Value} {d : Nat} {st : List Value} {h : gm_H} {Q : gm_R → gm_H → Prop} {a0 a1 a2 a3 a4 a5 : Value} {x : Int32} : gm_W E d 49 117 [a0, a1, a2, a3, a4, a5] (.int x :: st) h Q ↔ gm_W E d 49 119 [a0, a1, a2, gm_k a3, .int x, a5] st h Q := gw_loc m49 f49_117 rfl rfl
theorem f49_119 : gm_ft 49 119 = some (.iinc 5 1, 3) := by decide +kernel
theorem r49_119 {E : Nat → Value} {d : Nat} {st : List Value} {h : gm_H} {Q : gm_R → gm_H → Prop} {a0 a1 a2 a3 a4 : Value} {x : Int32} : gm_W E d 49 119 [a0, a1, a2, a3, a4, .int x] st h Q ↔ gm_W E d 49 122 [a0, a1, a2, a3, gm_k a4, .int (x + (1 : Int32))] st h Q := gw_loc m49 f49_119 rfl rfl
theorem f49_122 : gm_ft 49 122 = some (.goto (-30), 3) := by decide +kernel
theorem r49_122 {E : Nat → Value} {d : Nat} {st : List Value} {h : gm_H} {Q : gm_R → gm_H → Prop} {lv : List Value} : gm_W E d 49 122 lv st h Q ↔ gm_W E d 49 92 lv st h Q := gw_brT m49 f49_122 rfl rfl rfl rfl
theorem f49_125 : gm_ft 49 125 = some (.iload 4, 2) := by decide +kernel
theorem r49_125 {E : Nat → Value} {d : Nat} {st : List Value} {h : gm_H} {Q : gm_R → gm_H → Prop} {a0 a1 a2 a3 a5 : Value} {x : Int32} : gm_W E d 49 125 [a0, a1, a2, a3, .int x, a5] st h Q ↔ gm_W E d 49 127 [a0, a1, a2, a3, .int x, a5] (.int x :: st) h Q := gw_loc m49 f49_125 rfl rfl
theorem f49_127 : gm_ft 49 127 = some (.i2l, 1) := by decide +kernel
theorem r49_127 {E : Nat → Value} {d : Nat} {st : List Value} {h : gm_H} {Q : gm_R → gm_H → Prop} {lv : List Value} {x : Int32} : gm_W E d 49 127 lv (.int x :: st) h Q ↔ gm_W E d 49 128 lv (.long (x.toInt64) :: st) h Q := gw_pure m49 f49_127 rfl
theorem f49_128 : gm_ft 49 128 = some (.lreturn, 1) := by decide +kernel
theorem r49_128 {E : Nat → Value} {d : Nat} {h : gm_H} {Q : gm_R → gm_H → Prop} {lv : List Value} {x : Int64} : gm_W E d 49 128 lv [.long x] h Q ↔ Q (.inl (some (.long x))) h := gw_ret m49 f49_128 rfl rfl rfl rfl rfl rfl rfl rfl rfl
/-! GraphReaderModel.count(I)I -/
theorem m50 : gm_mt[50]? = some (⟨"GraphReaderModel", "count", "(I)I"⟩, prog_7_method_49_code, 2, (some .int), [], 5, 2) := rfl
theorem f50_0 : gm_ft 50 0 = some (.iload_n 1, 1) := by decide +kernel
theorem r50_0 {E : Nat → Value} {d : Nat} {st : List Value} {h : gm_H} {Q : gm_R → gm_H → Prop} {a0 : Value} {x : Int32} : gm_W E d 50 0 [a0, .int x] st h Q ↔ gm_W E d 50 1 [a0, .int x] (.int x :: st) h Q := gw_loc m50 f50_0 rfl rfl
theorem f50_1 : gm_ft 50 1 = some (.tableswitch 60 0 4 #[35, 40, 45, 50, 55], 35) := by decide +kernel
theorem e50_1d {E : Nat → Value} {d : Nat} {st : List Value} {h : gm_H} {Q : gm_R → gm_H → Prop} {lv : List Value} {x : Int32} (hx : x.toInt < 0 ∨ 4 < x.toInt) : gm_W E d 50 1 lv (.int x :: st) h Q ↔ gm_W E d 50 61 lv st h Q := gw_sw m50 f50_1 rfl rfl rfl (by unfold gm_sw; dsimp only; rw [if_pos hx]) rfl
theorem r50_1 {E : Nat → Value} {d : Nat} {st : List Value} {h : gm_H} {Q : gm_R → gm_H → Prop} {lv : List Value} {x : Int32} : gm_W E d 50 1 lv (.int x :: st) h Q ↔ (if x = (0 : Int32) then gm_W E d 50 36 lv st h Q else (if x = (1 : Int32) then gm_W E d 50 41 lv st h Q else (if x = (2 : Int32) then gm_W E d 50 46 lv st h Q else (if x = (3 : Int32) then gm_W E d 50 51 lv st h Q else (if x = (4 : Int32) then gm_W E d 50 56 lv st h Q else gm_W E d 50 61 lv st h Q))))) := by
  by_cases z0 : x = (0 : Int32)
  · subst z0; rw [gw_sw m50 f50_1 rfl rfl rfl rfl rfl]; simp
  rw [if_neg z0]
  by_cases z1 : x = (1 : Int32)
  · subst z1; rw [gw_sw m50 f50_1 rfl rfl rfl rfl rfl]; simp
  rw [if_neg z1]
  by_cases z2 : x = (2 : Int32)
  · subst z2; rw [gw_sw m50 f50_1 rfl rfl rfl rfl rfl]; simp
  rw [if_neg z2]
  by_cases z3 : x = (3 : Int32)
  · subst z3; rw [gw_sw m50 f50_1 rfl rfl rfl rfl rfl]; simp
  rw [if_neg z3]
  by_cases z4 : x = (4 : Int32)
  · subst z4; rw [gw_sw m50 f50_1 rfl rfl rfl rfl rfl]; simp
  rw [if_neg z4]
  exact e50_1d (gm_tsw (n := 5) (by decide) (by decide) (fun k hk => by
    have hk : k < 5 := hk
    match k, hk with
    | 0, _ => exact z0
    | 1, _ => exact z1
    | 2, _ => exact z2
    | 3, _ => exact z3
    | 4, _ => exact z4
    | k + 5, hk => omega))
theorem f50_36 : gm_ft 50 36 = some (.aload_n 0, 1) := by decide +kernel
theorem r50_36 {E : Nat → Value} {d : Nat} {st : List Value} {h : gm_H} {Q : gm_R → gm_H → Prop} {a1 : Value} {x : Nat} : gm_W E d 50 36 [.ref x, a1] st h Q ↔ gm_W E d 50 37 [.ref x, a1] (.ref x :: st) h Q := gw_loc m50 f50_36 rfl rfl
theorem r50_36n {E : Nat → Value} {d : Nat} {st : List Value} {h : gm_H} {Q : gm_R → gm_H → Prop} {a1 : Value}  : gm_W E d 50 36 [.null, a1] st h Q ↔ gm_W E d 50 37 [.null, a1] (.null :: st) h Q := gw_loc m50 f50_36 rfl rfl
theorem f50_37 : gm_ft 50 37 = some (.getfield 148, 3) := by decide +kernel
theorem r50_37 {E : Nat → Value} {d : Nat} {st : List Value} {h : gm_H} {Q : gm_R → gm_H → Prop} {lv : List Value} {a : Nat} (hk : gm_kd h a = 5) : gm_W E d 50 37 lv (.ref a :: st) h Q ↔ gm_W E d 50 40 lv (gm_fv h a 6 :: st) h Q := gw_rd m50 f50_37 rfl rfl rfl rfl (gs_get k5_148 hk (by decide))
theorem f50_40 : gm_ft 50 40 = some (.ireturn, 1) := by decide +kernel
theorem r50_40 {E : Nat → Value} {d : Nat} {h : gm_H} {Q : gm_R → gm_H → Prop} {lv : List Value} {x : Int32} : gm_W E d 50 40 lv [.int x] h Q ↔ Q (.inl (some (.int x))) h := gw_ret m50 f50_40 rfl rfl rfl rfl rfl rfl rfl rfl (by unfold gm_rt; dsimp only; rw [if_pos ⟨rfl, rfl⟩])
theorem f50_41 : gm_ft 50 41 = some (.aload_n 0, 1) := by decide +kernel
theorem r50_41 {E : Nat → Value} {d : Nat} {st : List Value} {h : gm_H} {Q : gm_R → gm_H → Prop} {a1 : Value} {x : Nat} : gm_W E d 50 41 [.ref x, a1] st h Q ↔ gm_W E d 50 42 [.ref x, a1] (.ref x :: st) h Q := gw_loc m50 f50_41 rfl rfl
theorem r50_41n {E : Nat → Value} {d : Nat} {st : List Value} {h : gm_H} {Q : gm_R → gm_H → Prop} {a1 : Value}  : gm_W E d 50 41 [.null, a1] st h Q ↔ gm_W E d 50 42 [.null, a1] (.null :: st) h Q := gw_loc m50 f50_41 rfl rfl
theorem f50_42 : gm_ft 50 42 = some (.getfield 166, 3) := by decide +kernel
theorem r50_42 {E : Nat → Value} {d : Nat} {st : List Value} {h : gm_H} {Q : gm_R → gm_H → Prop} {lv : List Value} {a : Nat} (hk : gm_kd h a = 5) : gm_W E d 50 42 lv (.ref a :: st) h Q ↔ gm_W E d 50 45 lv (gm_fv h a 28 :: st) h Q := gw_rd m50 f50_42 rfl rfl rfl rfl (gs_get k5_166 hk (by decide))
theorem f50_45 : gm_ft 50 45 = some (.ireturn, 1) := by decide +kernel
theorem r50_45 {E : Nat → Value} {d : Nat} {h : gm_H} {Q : gm_R → gm_H → Prop} {lv : List Value} {x : Int32} : gm_W E d 50 45 lv [.int x] h Q ↔ Q (.inl (some (.int x))) h := gw_ret m50 f50_45 rfl rfl rfl rfl rfl rfl rfl rfl (by unfold gm_rt; dsimp only; rw [if_pos ⟨rfl, rfl⟩])
theorem f50_46 : gm_ft 50 46 = some (.aload_n 0, 1) := by decide +kernel
theorem r50_46 {E : Nat → Value} {d : Nat} {st : List Value} {h : gm_H} {Q : gm_R → gm_H → Prop} {a1 : Value} {x : Nat} : gm_W E d 50 46 [.ref x, a1] st h Q ↔ gm_W E d 50 47 [.ref x, a1] (.ref x :: st) h Q := gw_loc m50 f50_46 rfl rfl
theorem r50_46n {E : Nat → Value} {d : Nat} {st : List Value} {h : gm_H} {Q : gm_R → gm_H → Prop} {a1 : Value}  : gm_W E d 50 46 [.null, a1] st h Q ↔ gm_W E d 50 47 [.null, a1] (.null :: st) h Q := gw_loc m50 f50_46 rfl rfl
theorem f50_47 : gm_ft 50 47 = some (.getfield 139, 3) := by decide +kernel
theorem r50_47 {E : Nat → Value} {d : Nat} {st : List Value} {h : gm_H} {Q : gm_R → gm_H → Prop} {lv : List Value} {a : Nat} (hk : gm_kd h a = 5) : gm_W E d 50 47 lv (.ref a :: st) h Q ↔ gm_W E d 50 50 lv (gm_fv h a 23 :: st) h Q := gw_rd m50 f50_47 rfl rfl rfl rfl (gs_get k5_139 hk (by decide))
theorem f50_50 : gm_ft 50 50 = some (.ireturn, 1) := by decide +kernel
theorem r50_50 {E : Nat → Value} {d : Nat} {h : gm_H} {Q : gm_R → gm_H → Prop} {lv : List Value} {x : Int32} : gm_W E d 50 50 lv [.int x] h Q ↔ Q (.inl (some (.int x))) h := gw_ret m50 f50_50 rfl rfl rfl rfl rfl rfl rfl rfl (by unfold gm_rt; dsimp only; rw [if_pos ⟨rfl, rfl⟩])
theorem f50_51 : gm_ft 50 51 = some (.aload_n 0, 1) := by decide +kernel
theorem r50_51 {E : Nat → Value} {d : Nat} {st : List Value} {h : gm_H} {Q : gm_R → gm_H → Prop} {a1 : Value} {x : Nat} : gm_W E d 50 51 [.ref x, a1] st h Q ↔ gm_W E d 50 52 [.ref x, a1] (.ref x :: st) h Q := gw_loc m50 f50_51 rfl rfl
theorem r50_51n {E : Nat → Value} {d : Nat} {st : List Value} {h : gm_H} {Q : gm_R → gm_H → Prop} {a1 : Value}  : gm_W E d 50 51 [.null, a1] st h Q ↔ gm_W E d 50 52 [.null, a1] (.null :: st) h Q := gw_loc m50 f50_51 rfl rfl
theorem f50_52 : gm_ft 50 52 = some (.getfield 172, 3) := by decide +kernel
theorem r50_52 {E : Nat → Value} {d : Nat} {st : List Value} {h : gm_H} {Q : gm_R → gm_H → Prop} {lv : List Value} {a : Nat} (hk : gm_kd h a = 5) : gm_W E d 50 52 lv (.ref a :: st) h Q ↔ gm_W E d 50 55 lv (gm_fv h a 7 :: st) h Q := gw_rd m50 f50_52 rfl rfl rfl rfl (gs_get k5_172 hk (by decide))
theorem f50_55 : gm_ft 50 55 = some (.ireturn, 1) := by decide +kernel
theorem r50_55 {E : Nat → Value} {d : Nat} {h : gm_H} {Q : gm_R → gm_H → Prop} {lv : List Value} {x : Int32} : gm_W E d 50 55 lv [.int x] h Q ↔ Q (.inl (some (.int x))) h := gw_ret m50 f50_55 rfl rfl rfl rfl rfl rfl rfl rfl (by unfold gm_rt; dsimp only; rw [if_pos ⟨rfl, rfl⟩])
theorem f50_56 : gm_ft 50 56 = some (.aload_n 0, 1) := by decide +kernel
theorem r50_56 {E : Nat → Value} {d : Nat} {st : List Value} {h : gm_H} {Q : gm_R → gm_H → Prop} {a1 : Value} {x : Nat} : gm_W E d 50 56 [.ref x, a1] st h Q ↔ gm_W E d 50 57 [.ref x, a1] (.ref x :: st) h Q := gw_loc m50 f50_56 rfl rfl
theorem r50_56n {E : Nat → Value} {d : Nat} {st : List Value} {h : gm_H} {Q : gm_R → gm_H → Prop} {a1 : Value}  : gm_W E d 50 56 [.null, a1] st h Q ↔ gm_W E d 50 57 [.null, a1] (.null :: st) h Q := gw_loc m50 f50_56 rfl rfl
theorem f50_57 : gm_ft 50 57 = some (.getfield 142, 3) := by decide +kernel
theorem r50_57 {E : Nat → Value} {d : Nat} {st : List Value} {h : gm_H} {Q : gm_R → gm_H → Prop} {lv : List Value} {a : Nat} (hk : gm_kd h a = 5) : gm_W E d 50 57 lv (.ref a :: st) h Q ↔ gm_W E d 50 60 lv (gm_fv h a 5 :: st) h Q := gw_rd m50 f50_57 rfl rfl rfl rfl (gs_get k5_142 hk (by decide))
theorem f50_60 : gm_ft 50 60 = some (.ireturn, 1) := by decide +kernel
theorem r50_60 {E : Nat → Value} {d : Nat} {h : gm_H} {Q : gm_R → gm_H → Prop} {lv : List Value} {x : Int32} : gm_W E d 50 60 lv [.int x] h Q ↔ Q (.inl (some (.int x))) h := gw_ret m50 f50_60 rfl rfl rfl rfl rfl rfl rfl rfl (by unfold gm_rt; dsimp only; rw [if_pos ⟨rfl, rfl⟩])
theorem f50_61 : gm_ft 50 61 = some (.iconst (-1), 1) := by decide +kernel
theorem r50_61 {E : Nat → Value} {d : Nat} {st : List Value} {h : gm_H} {Q : gm_R → gm_H → Prop} {lv : List Value} : gm_W E d 50 61 lv st h Q ↔ gm_W E d 50 62 lv (.int (-1 : Int32) :: st) h Q := gw_pure m50 f50_61 rfl
theorem f50_62 : gm_ft 50 62 = some (.ireturn, 1) := by decide +kernel
theorem r50_62 {E : Nat → Value} {d : Nat} {h : gm_H} {Q : gm_R → gm_H → Prop} {lv : List Value} {x : Int32} : gm_W E d 50 62 lv [.int x] h Q ↔ Q (.inl (some (.int x))) h := gw_ret m50 f50_62 rfl rfl rfl rfl rfl rfl rfl rfl (by unfold gm_rt; dsimp only; rw [if_pos ⟨rfl, rfl⟩])
