/-! GraphReader.count(I)I -/
theorem m61 : gm_mt[61]? = some (⟨"GraphReader", "count", "(I)I"⟩, prog_1_method_11_code, 2, (some .int), [], 0, 1) := rfl
theorem f61_0 : gm_ft 61 0 = some (.iload_n 1, 1) := by decide +kernel
theorem r61_0 {E : Nat → Value} {d : Nat} {st : List Value} {h : gm_H} {Q : gm_R → gm_H → Prop} {a0 : Value} {x : Int32} : gm_W E d 61 0 [a0, .int x] st h Q ↔ gm_W E d 61 1 [a0, .int x] (.int x :: st) h Q := gw_loc m61 f61_0 rfl rfl
theorem f61_1 : gm_ft 61 1 = some (.tableswitch 63 0 4 #[35, 40, 48, 53, 58], 35) := by decide +kernel
theorem e61_1d {E : Nat → Value} {d : Nat} {st : List Value} {h : gm_H} {Q : gm_R → gm_H → Prop} {lv : List Value} {x : Int32} (hx : x.toInt < 0 ∨ 4 < x.toInt) : gm_W E d 61 1 lv (.int x :: st) h Q ↔ gm_W E d 61 64 lv st h Q := gw_sw m61 f61_1 rfl rfl rfl (by unfold gm_sw; dsimp only; rw [if_pos hx]) rfl
theorem r61_1 {E : Nat → Value} {d : Nat} {st : List Value} {h : gm_H} {Q : gm_R → gm_H → Prop} {lv : List Value} {x : Int32} : gm_W E d 61 1 lv (.int x :: st) h Q ↔ (if x = (0 : Int32) then gm_W E d 61 36 lv st h Q else (if x = (1 : Int32) then gm_W E d 61 41 lv st h Q else (if x = (2 : Int32) then gm_W E d 61 49 lv st h Q else (if x = (3 : Int32) then gm_W E d 61 54 lv st h Q else (if x = (4 : Int32) then gm_W E d 61 59 lv st h Q else gm_W E d 61 64 lv st h Q))))) := by
  by_cases z0 : x = (0 : Int32)
  · subst z0; rw [gw_sw m61 f61_1 rfl rfl rfl rfl rfl]; simp
  rw [if_neg z0]
  by_cases z1 : x = (1 : Int32)
  · subst z1; rw [gw_sw m61 f61_1 rfl rfl rfl rfl rfl]; simp
  rw [if_neg z1]
  by_cases z2 : x = (2 : Int32)
  · subst z2; rw [gw_sw m61 f61_1 rfl rfl rfl rfl rfl]; simp
  rw [if_neg z2]
  by_cases z3 : x = (3 : Int32)
  · subst z3; rw [gw_sw m61 f61_1 rfl rfl rfl rfl rfl]; simp
  rw [if_neg z3]
  by_cases z4 : x = (4 : Int32)
  · subst z4; rw [gw_sw m61 f61_1 rfl rfl rfl rfl rfl]; simp
  rw [if_neg z4]
  exact e61_1d (gm_tsw (n := 5) (by decide) (by decide) (fun k hk => by
    have hk : k < 5 := hk
    match k, hk with
    | 0, _ => exact z0
    | 1, _ => exact z1
    | 2, _ => exact z2
    | 3, _ => exact z3
    | 4, _ => exact z4
    | k + 5, hk => omega))
theorem f61_36 : gm_ft 61 36 = some (.aload_n 0, 1) := by decide +kernel
theorem r61_36 {E : Nat → Value} {d : Nat} {st : List Value} {h : gm_H} {Q : gm_R → gm_H → Prop} {a1 : Value} {x : Nat} : gm_W E d 61 36 [.ref x, a1] st h Q ↔ gm_W E d 61 37 [.ref x, a1] (.ref x :: st) h Q := gw_loc m61 f61_36 rfl rfl
theorem r61_36n {E : Nat → Value} {d : Nat} {st : List Value} {h : gm_H} {Q : gm_R → gm_H → Prop} {a1 : Value}  : gm_W E d 61 36 [.null, a1] st h Q ↔ gm_W E d 61 37 [.null, a1] (.null :: st) h Q := gw_loc m61 f61_36 rfl rfl
theorem f61_37 : gm_ft 61 37 = some (.getfield 96, 3) := by decide +kernel
theorem r61_37 {E : Nat → Value} {d : Nat} {st : List Value} {h : gm_H} {Q : gm_R → gm_H → Prop} {lv : List Value} {a : Nat} (hk : gm_kd h a = 0) : gm_W E d 61 37 lv (.ref a :: st) h Q ↔ gm_W E d 61 40 lv (gm_fv h a 7 :: st) h Q := gw_rd m61 f61_37 rfl rfl rfl rfl (gs_get k0_96 hk (by decide))
theorem f61_40 : gm_ft 61 40 = some (.ireturn, 1) := by decide +kernel
theorem r61_40 {E : Nat → Value} {d : Nat} {h : gm_H} {Q : gm_R → gm_H → Prop} {lv : List Value} {x : Int32} : gm_W E d 61 40 lv [.int x] h Q ↔ Q (.inl (some (.int x))) h := gw_ret m61 f61_40 rfl rfl rfl rfl rfl rfl rfl rfl (by unfold gm_rt; dsimp only; rw [if_pos ⟨rfl, rfl⟩])
theorem f61_41 : gm_ft 61 41 = some (.aload_n 0, 1) := by decide +kernel
theorem r61_41 {E : Nat → Value} {d : Nat} {st : List Value} {h : gm_H} {Q : gm_R → gm_H → Prop} {a1 : Value} {x : Nat} : gm_W E d 61 41 [.ref x, a1] st h Q ↔ gm_W E d 61 42 [.ref x, a1] (.ref x :: st) h Q := gw_loc m61 f61_41 rfl rfl
theorem r61_41n {E : Nat → Value} {d : Nat} {st : List Value} {h : gm_H} {Q : gm_R → gm_H → Prop} {a1 : Value}  : gm_W E d 61 41 [.null, a1] st h Q ↔ gm_W E d 61 42 [.null, a1] (.null :: st) h Q := gw_loc m61 f61_41 rfl rfl
theorem f61_42 : gm_ft 61 42 = some (.getfield 28, 3) := by decide +kernel
theorem r61_42 {E : Nat → Value} {d : Nat} {st : List Value} {h : gm_H} {Q : gm_R → gm_H → Prop} {lv : List Value} {a : Nat} (hk : gm_kd h a = 0) : gm_W E d 61 42 lv (.ref a :: st) h Q ↔ gm_W E d 61 45 lv (gm_fv h a 10 :: st) h Q := gw_rd m61 f61_42 rfl rfl rfl rfl (gs_get k0_28 hk (by decide))
theorem f61_45 : gm_ft 61 45 = some (.invokevirtual 156, 3) := by decide +kernel
theorem c61_45 {E : Nat → Value} {d : Nat} {st : List Value} {h : gm_H} {Q : gm_R → gm_H → Prop} {lv : List Value} {a : Nat} {Qc : gm_R → gm_H → Prop} (hs : (st.map fun v => v.category).sum ≤ 8) (hr : gm_kd h a = 2) (hd : 1 ≤ d) (hc : gm_Ca E (d - 1) 111 [.ref a] h Qc) (kn : ∀ (v9 : Option Value) (h9 : gm_H), Qc (.inl v9) h9 → gm_W E d 61 48 lv (v9.toList ++ st) h9 Q) (kx : ∀ (x9 : Nat) (h9 : gm_H), Qc (.inr x9) h9 → Q (.inr x9) h9) : gm_W E d 61 45 lv (.ref a :: st) h Q := gw_call (gn_call m61 f61_45 rfl rfl rfl rfl rfl rfl rfl (gs_virt (bs := []) (w := 202) (L := 1) rfl rfl rfl rfl hs (by simp [gm_en1]) hr (by decide)) (by decide)) m61 rfl rfl hd hc kn kx
theorem f61_48 : gm_ft 61 48 = some (.ireturn, 1) := by decide +kernel
theorem r61_48 {E : Nat → Value} {d : Nat} {h : gm_H} {Q : gm_R → gm_H → Prop} {lv : List Value} {x : Int32} : gm_W E d 61 48 lv [.int x] h Q ↔ Q (.inl (some (.int x))) h := gw_ret m61 f61_48 rfl rfl rfl rfl rfl rfl rfl rfl (by unfold gm_rt; dsimp only; rw [if_pos ⟨rfl, rfl⟩])
theorem f61_49 : gm_ft 61 49 = some (.aload_n 0, 1) := by decide +kernel
theorem r61_49 {E : Nat → Value} {d : Nat} {st : List Value} {h : gm_H} {Q : gm_R → gm_H → Prop} {a1 : Value} {x : Nat} : gm_W E d 61 49 [.ref x, a1] st h Q ↔ gm_W E d 61 50 [.ref x, a1] (.ref x :: st) h Q := gw_loc m61 f61_49 rfl rfl
theorem r61_49n {E : Nat → Value} {d : Nat} {st : List Value} {h : gm_H} {Q : gm_R → gm_H → Prop} {a1 : Value}  : gm_W E d 61 49 [.null, a1] st h Q ↔ gm_W E d 61 50 [.null, a1] (.null :: st) h Q := gw_loc m61 f61_49 rfl rfl
theorem f61_50 : gm_ft 61 50 = some (.getfield 72, 3) := by decide +kernel
theorem r61_50 {E : Nat → Value} {d : Nat} {st : List Value} {h : gm_H} {Q : gm_R → gm_H → Prop} {lv : List Value} {a : Nat} (hk : gm_kd h a = 0) : gm_W E d 61 50 lv (.ref a :: st) h Q ↔ gm_W E d 61 53 lv (gm_fv h a 9 :: st) h Q := gw_rd m61 f61_50 rfl rfl rfl rfl (gs_get k0_72 hk (by decide))
theorem f61_53 : gm_ft 61 53 = some (.ireturn, 1) := by decide +kernel
theorem r61_53 {E : Nat → Value} {d : Nat} {h : gm_H} {Q : gm_R → gm_H → Prop} {lv : List Value} {x : Int32} : gm_W E d 61 53 lv [.int x] h Q ↔ Q (.inl (some (.int x))) h := gw_ret m61 f61_53 rfl rfl rfl rfl rfl rfl rfl rfl (by unfold gm_rt; dsimp only; rw [if_pos ⟨rfl, rfl⟩])
theorem f61_54 : gm_ft 61 54 = some (.aload_n 0, 1) := by decide +kernel
theorem r61_54 {E : Nat → Value} {d : Nat} {st : List Value} {h : gm_H} {Q : gm_R → gm_H → Prop} {a1 : Value} {x : Nat} : gm_W E d 61 54 [.ref x, a1] st h Q ↔ gm_W E d 61 55 [.ref x, a1] (.ref x :: st) h Q := gw_loc m61 f61_54 rfl rfl
theorem r61_54n {E : Nat → Value} {d : Nat} {st : List Value} {h : gm_H} {Q : gm_R → gm_H → Prop} {a1 : Value}  : gm_W E d 61 54 [.null, a1] st h Q ↔ gm_W E d 61 55 [.null, a1] (.null :: st) h Q := gw_loc m61 f61_54 rfl rfl
theorem f61_55 : gm_ft 61 55 = some (.getfield 102, 3) := by decide +kernel
theorem r61_55 {E : Nat → Value} {d : Nat} {st : List Value} {h : gm_H} {Q : gm_R → gm_H → Prop} {lv : List Value} {a : Nat} (hk : gm_kd h a = 0) : gm_W E d 61 55 lv (.ref a :: st) h Q ↔ gm_W E d 61 58 lv (gm_fv h a 11 :: st) h Q := gw_rd m61 f61_55 rfl rfl rfl rfl (gs_get k0_102 hk (by decide))
theorem f61_58 : gm_ft 61 58 = some (.ireturn, 1) := by decide +kernel
theorem r61_58 {E : Nat → Value} {d : Nat} {h : gm_H} {Q : gm_R → gm_H → Prop} {lv : List Value} {x : Int32} : gm_W E d 61 58 lv [.int x] h Q ↔ Q (.inl (some (.int x))) h := gw_ret m61 f61_58 rfl rfl rfl rfl rfl rfl rfl rfl (by unfold gm_rt; dsimp only; rw [if_pos ⟨rfl, rfl⟩])
theorem f61_59 : gm_ft 61 59 = some (.aload_n 0, 1) := by decide +kernel
theorem r61_59 {E : Nat → Value} {d : Nat} {st : List Value} {h : gm_H} {Q : gm_R → gm_H → Prop} {a1 : Value} {x : Nat} : gm_W E d 61 59 [.ref x, a1] st h Q ↔ gm_W E d 61 60 [.ref x, a1] (.ref x :: st) h Q := gw_loc m61 f61_59 rfl rfl
theorem r61_59n {E : Nat → Value} {d : Nat} {st : List Value} {h : gm_H} {Q : gm_R → gm_H → Prop} {a1 : Value}  : gm_W E d 61 59 [.null, a1] st h Q ↔ gm_W E d 61 60 [.null, a1] (.null :: st) h Q := gw_loc m61 f61_59 rfl rfl
theorem f61_60 : gm_ft 61 60 = some (.getfield 93, 3) := by decide +kernel
theorem r61_60 {E : Nat → Value} {d : Nat} {st : List Value} {h : gm_H} {Q : gm_R → gm_H → Prop} {lv : List Value} {a : Nat} (hk : gm_kd h a = 0) : gm_W E d 61 60 lv (.ref a :: st) h Q ↔ gm_W E d 61 63 lv (gm_fv h a 6 :: st) h Q := gw_rd m61 f61_60 rfl rfl rfl rfl (gs_get k0_93 hk (by decide))
theorem f61_63 : gm_ft 61 63 = some (.ireturn, 1) := by decide +kernel
theorem r61_63 {E : Nat → Value} {d : Nat} {h : gm_H} {Q : gm_R → gm_H → Prop} {lv : List Value} {x : Int32} : gm_W E d 61 63 lv [.int x] h Q ↔ Q (.inl (some (.int x))) h := gw_ret m61 f61_63 rfl rfl rfl rfl rfl rfl rfl rfl (by unfold gm_rt; dsimp only; rw [if_pos ⟨rfl, rfl⟩])
theorem f61_64 : gm_ft 61 64 = some (.iconst (-1), 1) := by decide +kernel
theorem r61_64 {E : Nat → Value} {d : Nat} {st : List Value} {h : gm_H} {Q : gm_R → gm_H → Prop} {lv : List Value} : gm_W E d 61 64 lv st h Q ↔ gm_W E d 61 65 lv (.int (-1 : Int32) :: st) h Q := gw_pure m61 f61_64 rfl
theorem f61_65 : gm_ft 61 65 = some (.ireturn, 1) := by decide +kernel
theorem r61_65 {E : Nat → Value} {d : Nat} {h : gm_H} {Q : gm_R → gm_H → Prop} {lv : List Value} {x : Int32} : gm_W E d 61 65 lv [.int x] h Q ↔ Q (.inl (some (.int x))) h := gw_ret m61 f61_65 rfl rfl rfl rfl rfl rfl rfl rfl (by unfold gm_rt; dsimp only; rw [if_pos ⟨rfl, rfl⟩])
/-! GraphReader.isName(I)Z -/
theorem m62 : gm_mt[62]? = some (⟨"GraphReader", "isName", "(I)Z"⟩, prog_1_method_12_code, 1, (some .boolean), [], 0, 1) := rfl
theorem f62_0 : gm_ft 62 0 = some (.iload_n 0, 1) := by decide +kernel
theorem r62_0 {E : Nat → Value} {d : Nat} {st : List Value} {h : gm_H} {Q : gm_R → gm_H → Prop}  {x : Int32} : gm_W E d 62 0 [.int x] st h Q ↔ gm_W E d 62 1 [.int x] (.int x :: st) h Q := gw_loc m62 f62_0 rfl rfl
theorem f62_1 : gm_ft 62 1 = some (.ifCond .lt 13, 3) := by decide +kernel
theorem r62_1 {E : Nat → Value} {d : Nat} {st : List Value} {h : gm_H} {Q : gm_R → gm_H → Prop} {lv : List Value} {x : Int32} : gm_W E d 62 1 lv (.int x :: st) h Q ↔ (if x < 0 then gm_W E d 62 14 lv st h Q else gm_W E d 62 4 lv st h Q) := (gw_br m62 f62_1 rfl rfl rfl rfl).trans gw_if
theorem f62_4 : gm_ft 62 4 = some (.iload_n 0, 1) := by decide +kernel
theorem r62_4 {E : Nat → Value} {d : Nat} {st : List Value} {h : gm_H} {Q : gm_R → gm_H → Prop}  {x : Int32} : gm_W E d 62 4 [.int x] st h Q ↔ gm_W E d 62 5 [.int x] (.int x :: st) h Q := gw_loc m62 f62_4 rfl rfl
theorem f62_5 : gm_ft 62 5 = some (.bipush 26, 2) := by decide +kernel
theorem r62_5 {E : Nat → Value} {d : Nat} {st : List Value} {h : gm_H} {Q : gm_R → gm_H → Prop} {lv : List Value} : gm_W E d 62 5 lv st h Q ↔ gm_W E d 62 7 lv (.int (26 : Int32) :: st) h Q := gw_pure m62 f62_5 rfl
theorem f62_7 : gm_ft 62 7 = some (.if_icmp .ge 7, 3) := by decide +kernel
theorem r62_7 {E : Nat → Value} {d : Nat} {st : List Value} {h : gm_H} {Q : gm_R → gm_H → Prop} {lv : List Value} {x y : Int32} : gm_W E d 62 7 lv (.int y :: .int x :: st) h Q ↔ (if y ≤ x then gm_W E d 62 14 lv st h Q else gm_W E d 62 10 lv st h Q) := (gw_br m62 f62_7 rfl rfl rfl rfl).trans gw_if
theorem f62_10 : gm_ft 62 10 = some (.iconst 1, 1) := by decide +kernel
theorem r62_10 {E : Nat → Value} {d : Nat} {st : List Value} {h : gm_H} {Q : gm_R → gm_H → Prop} {lv : List Value} : gm_W E d 62 10 lv st h Q ↔ gm_W E d 62 11 lv (.int (1 : Int32) :: st) h Q := gw_pure m62 f62_10 rfl
theorem f62_11 : gm_ft 62 11 = some (.goto 4, 3) := by decide +kernel
theorem r62_11 {E : Nat → Value} {d : Nat} {st : List Value} {h : gm_H} {Q : gm_R → gm_H → Prop} {lv : List Value} : gm_W E d 62 11 lv st h Q ↔ gm_W E d 62 15 lv st h Q := gw_brT m62 f62_11 rfl rfl rfl rfl
theorem f62_14 : gm_ft 62 14 = some (.iconst 0, 1) := by decide +kernel
theorem r62_14 {E : Nat → Value} {d : Nat} {st : List Value} {h : gm_H} {Q : gm_R → gm_H → Prop} {lv : List Value} : gm_W E d 62 14 lv st h Q ↔ gm_W E d 62 15 lv (.int (0 : Int32) :: st) h Q := gw_pure m62 f62_14 rfl
theorem f62_15 : gm_ft 62 15 = some (.ireturn, 1) := by decide +kernel
theorem r62_15 {E : Nat → Value} {d : Nat} {h : gm_H} {Q : gm_R → gm_H → Prop} {lv : List Value} {x : Int32} (hx : x = 0 ∨ x = 1) : gm_W E d 62 15 lv [.int x] h Q ↔ Q (.inl (some (.int x))) h := gw_ret m62 f62_15 rfl rfl rfl rfl rfl rfl rfl rfl (by unfold gm_rt; dsimp only; rw [if_pos ⟨rfl, (gs_nb hx).1⟩])
/-! GraphReader.mayExtend(II)Z -/
theorem m63 : gm_mt[63]? = some (⟨"GraphReader", "mayExtend", "(II)Z"⟩, prog_1_method_13_code, 2, (some .boolean), [], 0, 1) := rfl
theorem f63_0 : gm_ft 63 0 = some (.iload_n 1, 1) := by decide +kernel
theorem r63_0 {E : Nat → Value} {d : Nat} {st : List Value} {h : gm_H} {Q : gm_R → gm_H → Prop} {a0 : Value} {x : Int32} : gm_W E d 63 0 [a0, .int x] st h Q ↔ gm_W E d 63 1 [a0, .int x] (.int x :: st) h Q := gw_loc m63 f63_0 rfl rfl
theorem f63_1 : gm_ft 63 1 = some (.iconst 2, 1) := by decide +kernel
theorem r63_1 {E : Nat → Value} {d : Nat} {st : List Value} {h : gm_H} {Q : gm_R → gm_H → Prop} {lv : List Value} : gm_W E d 63 1 lv st h Q ↔ gm_W E d 63 2 lv (.int (2 : Int32) :: st) h Q := gw_pure m63 f63_1 rfl
theorem f63_2 : gm_ft 63 2 = some (.if_icmp .gt 8, 3) := by decide +kernel
theorem r63_2 {E : Nat → Value} {d : Nat} {st : List Value} {h : gm_H} {Q : gm_R → gm_H → Prop} {lv : List Value} {x y : Int32} : gm_W E d 63 2 lv (.int y :: .int x :: st) h Q ↔ (if y < x then gm_W E d 63 10 lv st h Q else gm_W E d 63 5 lv st h Q) := (gw_br m63 f63_2 rfl rfl rfl rfl).trans gw_if
theorem f63_5 : gm_ft 63 5 = some (.iload_n 0, 1) := by decide +kernel
theorem r63_5 {E : Nat → Value} {d : Nat} {st : List Value} {h : gm_H} {Q : gm_R → gm_H → Prop} {a1 : Value} {x : Int32} : gm_W E d 63 5 [.int x, a1] st h Q ↔ gm_W E d 63 6 [.int x, a1] (.int x :: st) h Q := gw_loc m63 f63_5 rfl rfl
theorem f63_6 : gm_ft 63 6 = some (.iconst 2, 1) := by decide +kernel
theorem r63_6 {E : Nat → Value} {d : Nat} {st : List Value} {h : gm_H} {Q : gm_R → gm_H → Prop} {lv : List Value} : gm_W E d 63 6 lv st h Q ↔ gm_W E d 63 7 lv (.int (2 : Int32) :: st) h Q := gw_pure m63 f63_6 rfl
theorem f63_7 : gm_ft 63 7 = some (.if_icmp .le 5, 3) := by decide +kernel
theorem r63_7 {E : Nat → Value} {d : Nat} {st : List Value} {h : gm_H} {Q : gm_R → gm_H → Prop} {lv : List Value} {x y : Int32} : gm_W E d 63 7 lv (.int y :: .int x :: st) h Q ↔ (if x ≤ y then gm_W E d 63 12 lv st h Q else gm_W E d 63 10 lv st h Q) := (gw_br m63 f63_7 rfl rfl rfl rfl).trans gw_if
theorem f63_10 : gm_ft 63 10 = some (.iconst 0, 1) := by decide +kernel
theorem r63_10 {E : Nat → Value} {d : Nat} {st : List Value} {h : gm_H} {Q : gm_R → gm_H → Prop} {lv : List Value} : gm_W E d 63 10 lv st h Q ↔ gm_W E d 63 11 lv (.int (0 : Int32) :: st) h Q := gw_pure m63 f63_10 rfl
theorem f63_11 : gm_ft 63 11 = some (.ireturn, 1) := by decide +kernel
theorem r63_11 {E : Nat → Value} {d : Nat} {h : gm_H} {Q : gm_R → gm_H → Prop} {lv : List Value} {x : Int32} (hx : x = 0 ∨ x = 1) : gm_W E d 63 11 lv [.int x] h Q ↔ Q (.inl (some (.int x))) h := gw_ret m63 f63_11 rfl rfl rfl rfl rfl rfl rfl rfl (by unfold gm_rt; dsimp only; rw [if_pos ⟨rfl, (gs_nb hx).1⟩])
theorem f63_12 : gm_ft 63 12 = some (.iload_n 0, 1) := by decide +kernel
theorem r63_12 {E : Nat → Value} {d : Nat} {st : List Value} {h : gm_H} {Q : gm_R → gm_H → Prop} {a1 : Value} {x : Int32} : gm_W E d 63 12 [.int x, a1] st h Q ↔ gm_W E d 63 13 [.int x, a1] (.int x :: st) h Q := gw_loc m63 f63_12 rfl rfl
theorem f63_13 : gm_ft 63 13 = some (.ifCond .ne 7, 3) := by decide +kernel
theorem r63_13 {E : Nat → Value} {d : Nat} {st : List Value} {h : gm_H} {Q : gm_R → gm_H → Prop} {lv : List Value} {x : Int32} : gm_W E d 63 13 lv (.int x :: st) h Q ↔ (if x = 0 then gm_W E d 63 16 lv st h Q else gm_W E d 63 20 lv st h Q) := (gw_br m63 f63_13 rfl rfl rfl rfl).trans gw_ifn
theorem f63_16 : gm_ft 63 16 = some (.iload_n 1, 1) := by decide +kernel
theorem r63_16 {E : Nat → Value} {d : Nat} {st : List Value} {h : gm_H} {Q : gm_R → gm_H → Prop} {a0 : Value} {x : Int32} : gm_W E d 63 16 [a0, .int x] st h Q ↔ gm_W E d 63 17 [a0, .int x] (.int x :: st) h Q := gw_loc m63 f63_16 rfl rfl
theorem f63_17 : gm_ft 63 17 = some (.ifCond .ne 7, 3) := by decide +kernel
theorem r63_17 {E : Nat → Value} {d : Nat} {st : List Value} {h : gm_H} {Q : gm_R → gm_H → Prop} {lv : List Value} {x : Int32} : gm_W E d 63 17 lv (.int x :: st) h Q ↔ (if x = 0 then gm_W E d 63 20 lv st h Q else gm_W E d 63 24 lv st h Q) := (gw_br m63 f63_17 rfl rfl rfl rfl).trans gw_ifn
theorem f63_20 : gm_ft 63 20 = some (.iconst 1, 1) := by decide +kernel
theorem r63_20 {E : Nat → Value} {d : Nat} {st : List Value} {h : gm_H} {Q : gm_R → gm_H → Prop} {lv : List Value} : gm_W E d 63 20 lv st h Q ↔ gm_W E d 63 21 lv (.int (1 : Int32) :: st) h Q := gw_pure m63 f63_20 rfl
theorem f63_21 : gm_ft 63 21 = some (.goto 4, 3) := by decide +kernel
theorem r63_21 {E : Nat → Value} {d : Nat} {st : List Value} {h : gm_H} {Q : gm_R → gm_H → Prop} {lv : List Value} : gm_W E d 63 21 lv st h Q ↔ gm_W E d 63 25 lv st h Q := gw_brT m63 f63_21 rfl rfl rfl rfl
theorem f63_24 : gm_ft 63 24 = some (.iconst 0, 1) := by decide +kernel
theorem r63_24 {E : Nat → Value} {d : Nat} {st : List Value} {h : gm_H} {Q : gm_R → gm_H → Prop} {lv : List Value} : gm_W E d 63 24 lv st h Q ↔ gm_W E d 63 25 lv (.int (0 : Int32) :: st) h Q := gw_pure m63 f63_24 rfl
theorem f63_25 : gm_ft 63 25 = some (.ireturn, 1) := by decide +kernel
theorem r63_25 {E : Nat → Value} {d : Nat} {h : gm_H} {Q : gm_R → gm_H → Prop} {lv : List Value} {x : Int32} (hx : x = 0 ∨ x = 1) : gm_W E d 63 25 lv [.int x] h Q ↔ Q (.inl (some (.int x))) h := gw_ret m63 f63_25 rfl rfl rfl rfl rfl rfl rfl rfl (by unfold gm_rt; dsimp only; rw [if_pos ⟨rfl, (gs_nb hx).1⟩])
/-! GraphReader.classNumbered(I)LGraphReader$LocalClass; -/
theorem m64 : gm_mt[64]? = some (⟨"GraphReader", "classNumbered", "(I)LGraphReader$LocalClass;"⟩, prog_1_method_14_code, 2, (some (.object "GraphReader$LocalClass")), [], 0, 1) := rfl
theorem f64_0 : gm_ft 64 0 = some (.iload_n 1, 1) := by decide +kernel
theorem r64_0 {E : Nat → Value} {d : Nat} {st : List Value} {h : gm_H} {Q : gm_R → gm_H → Prop} {a0 : Value} {x : Int32} : gm_W E d 64 0 [a0, .int x] st h Q ↔ gm_W E d 64 1 [a0, .int x] (.int x :: st) h Q := gw_loc m64 f64_0 rfl rfl
theorem f64_1 : gm_ft 64 1 = some (.ifCond .lt 9, 3) := by decide +kernel
theorem r64_1 {E : Nat → Value} {d : Nat} {st : List Value} {h : gm_H} {Q : gm_R → gm_H → Prop} {lv : List Value} {x : Int32} : gm_W E d 64 1 lv (.int x :: st) h Q ↔ (if x < 0 then gm_W E d 64 10 lv st h Q else gm_W E d 64 4 lv st h Q) := (gw_br m64 f64_1 rfl rfl rfl rfl).trans gw_if
theorem f64_4 : gm_ft 64 4 = some (.iload_n 1, 1) := by decide +kernel
theorem r64_4 {E : Nat → Value} {d : Nat} {st : List Value} {h : gm_H} {Q : gm_R → gm_H → Prop} {a0 : Value} {x : Int32} : gm_W E d 64 4 [a0, .int x] st h Q ↔ gm_W E d 64 5 [a0, .int x] (.int x :: st) h Q := gw_loc m64 f64_4 rfl rfl
theorem f64_5 : gm_ft 64 5 = some (.bipush 6, 2) := by decide +kernel
theorem r64_5 {E : Nat → Value} {d : Nat} {st : List Value} {h : gm_H} {Q : gm_R → gm_H → Prop} {lv : List Value} : gm_W E d 64 5 lv st h Q ↔ gm_W E d 64 7 lv (.int (6 : Int32) :: st) h Q := gw_pure m64 f64_5 rfl
theorem f64_7 : gm_ft 64 7 = some (.if_icmp .lt 7, 3) := by decide +kernel
theorem r64_7 {E : Nat → Value} {d : Nat} {st : List Value} {h : gm_H} {Q : gm_R → gm_H → Prop} {lv : List Value} {x y : Int32} : gm_W E d 64 7 lv (.int y :: .int x :: st) h Q ↔ (if x < y then gm_W E d 64 14 lv st h Q else gm_W E d 64 10 lv st h Q) := (gw_br m64 f64_7 rfl rfl rfl rfl).trans gw_if
theorem f64_10 : gm_ft 64 10 = some (.aconst_null, 1) := by decide +kernel
theorem r64_10 {E : Nat → Value} {d : Nat} {st : List Value} {h : gm_H} {Q : gm_R → gm_H → Prop} {lv : List Value} : gm_W E d 64 10 lv st h Q ↔ gm_W E d 64 11 lv (.null :: st) h Q := gw_pure m64 f64_10 rfl
theorem f64_11 : gm_ft 64 11 = some (.goto 9, 3) := by decide +kernel
theorem r64_11 {E : Nat → Value} {d : Nat} {st : List Value} {h : gm_H} {Q : gm_R → gm_H → Prop} {lv : List Value} : gm_W E d 64 11 lv st h Q ↔ gm_W E d 64 20 lv st h Q := gw_brT m64 f64_11 rfl rfl rfl rfl
theorem f64_14 : gm_ft 64 14 = some (.aload_n 0, 1) := by decide +kernel
theorem r64_14 {E : Nat → Value} {d : Nat} {st : List Value} {h : gm_H} {Q : gm_R → gm_H → Prop} {a1 : Value} {x : Nat} : gm_W E d 64 14 [.ref x, a1] st h Q ↔ gm_W E d 64 15 [.ref x, a1] (.ref x :: st) h Q := gw_loc m64 f64_14 rfl rfl
theorem r64_14n {E : Nat → Value} {d : Nat} {st : List Value} {h : gm_H} {Q : gm_R → gm_H → Prop} {a1 : Value}  : gm_W E d 64 14 [.null, a1] st h Q ↔ gm_W E d 64 15 [.null, a1] (.null :: st) h Q := gw_loc m64 f64_14 rfl rfl
theorem f64_15 : gm_ft 64 15 = some (.getfield 11, 3) := by decide +kernel
theorem r64_15 {E : Nat → Value} {d : Nat} {st : List Value} {h : gm_H} {Q : gm_R → gm_H → Prop} {lv : List Value} {a : Nat} (hk : gm_kd h a = 0) : gm_W E d 64 15 lv (.ref a :: st) h Q ↔ gm_W E d 64 18 lv (gm_fv h a 4 :: st) h Q := gw_rd m64 f64_15 rfl rfl rfl rfl (gs_get k0_11 hk (by decide))
theorem f64_18 : gm_ft 64 18 = some (.iload_n 1, 1) := by decide +kernel
theorem r64_18 {E : Nat → Value} {d : Nat} {st : List Value} {h : gm_H} {Q : gm_R → gm_H → Prop} {a0 : Value} {x : Int32} : gm_W E d 64 18 [a0, .int x] st h Q ↔ gm_W E d 64 19 [a0, .int x] (.int x :: st) h Q := gw_loc m64 f64_18 rfl rfl
theorem f64_19 : gm_ft 64 19 = some (.aaload, 1) := by decide +kernel
theorem r64_19 {E : Nat → Value} {d : Nat} {st : List Value} {h : gm_H} {Q : gm_R → gm_H → Prop} {lv : List Value} {a j : Nat} (hk : (gm_kd h a % 100 = 10 ∨ gm_kd h a % 100 = 11 ∨ gm_kd h a % 100 = 12) ∧ 100 ≤ gm_kd h a ∧ gm_kd h a < 900) (hj : j < gm_ln h a) (hl : gm_ln h a < 2 ^ 31) : gm_W E d 64 19 lv (.int (nI j) :: .ref a :: st) h Q ↔ gm_W E d 64 20 lv (gm_fv h a j :: st) h Q := gw_rd m64 f64_19 rfl rfl rfl rfl (gs_ld (P := fun t => t == 10 || t == 11 || t == 12) hk.2 (by have := hk.1; simp [this] <;> omega) hj hl)
theorem f64_20 : gm_ft 64 20 = some (.areturn, 1) := by decide +kernel
theorem r64_20 {E : Nat → Value} {d : Nat} {h : gm_H} {Q : gm_R → gm_H → Prop} {lv : List Value} {a : Nat} : gm_W E d 64 20 lv [.ref a] h Q ↔ Q (.inl (some (.ref a))) h := gw_ret m64 f64_20 rfl rfl rfl rfl rfl rfl rfl rfl rfl
theorem r64_20n {E : Nat → Value} {d : Nat} {h : gm_H} {Q : gm_R → gm_H → Prop} {lv : List Value} : gm_W E d 64 20 lv [.null] h Q ↔ Q (.inl (some .null)) h := gw_ret m64 f64_20 rfl rfl rfl rfl rfl rfl rfl rfl rfl
/-! GraphReader.isInHeap(I)Z -/
theorem m65 : gm_mt[65]? = some (⟨"GraphReader", "isInHeap", "(I)Z"⟩, prog_1_method_15_code, 2, (some .boolean), [], 0, 1) := rfl
theorem f65_0 : gm_ft 65 0 = some (.iload_n 1, 1) := by decide +kernel
theorem r65_0 {E : Nat → Value} {d : Nat} {st : List Value} {h : gm_H} {Q : gm_R → gm_H → Prop} {a0 : Value} {x : Int32} : gm_W E d 65 0 [a0, .int x] st h Q ↔ gm_W E d 65 1 [a0, .int x] (.int x :: st) h Q := gw_loc m65 f65_0 rfl rfl
theorem f65_1 : gm_ft 65 1 = some (.ifCond .lt 15, 3) := by decide +kernel
theorem r65_1 {E : Nat → Value} {d : Nat} {st : List Value} {h : gm_H} {Q : gm_R → gm_H → Prop} {lv : List Value} {x : Int32} : gm_W E d 65 1 lv (.int x :: st) h Q ↔ (if x < 0 then gm_W E d 65 16 lv st h Q else gm_W E d 65 4 lv st h Q) := (gw_br m65 f65_1 rfl rfl rfl rfl).trans gw_if
theorem f65_4 : gm_ft 65 4 = some (.iload_n 1, 1) := by decide +kernel
theorem r65_4 {E : Nat → Value} {d : Nat} {st : List Value} {h : gm_H} {Q : gm_R → gm_H → Prop} {a0 : Value} {x : Int32} : gm_W E d 65 4 [a0, .int x] st h Q ↔ gm_W E d 65 5 [a0, .int x] (.int x :: st) h Q := gw_loc m65 f65_4 rfl rfl
theorem f65_5 : gm_ft 65 5 = some (.aload_n 0, 1) := by decide +kernel
theorem r65_5 {E : Nat → Value} {d : Nat} {st : List Value} {h : gm_H} {Q : gm_R → gm_H → Prop} {a1 : Value} {x : Nat} : gm_W E d 65 5 [.ref x, a1] st h Q ↔ gm_W E d 65 6 [.ref x, a1] (.ref x :: st) h Q := gw_loc m65 f65_5 rfl rfl
theorem r65_5n {E : Nat → Value} {d : Nat} {st : List Value} {h : gm_H} {Q : gm_R → gm_H → Prop} {a1 : Value}  : gm_W E d 65 5 [.null, a1] st h Q ↔ gm_W E d 65 6 [.null, a1] (.null :: st) h Q := gw_loc m65 f65_5 rfl rfl
theorem f65_6 : gm_ft 65 6 = some (.getfield 72, 3) := by decide +kernel
theorem r65_6 {E : Nat → Value} {d : Nat} {st : List Value} {h : gm_H} {Q : gm_R → gm_H → Prop} {lv : List Value} {a : Nat} (hk : gm_kd h a = 0) : gm_W E d 65 6 lv (.ref a :: st) h Q ↔ gm_W E d 65 9 lv (gm_fv h a 9 :: st) h Q := gw_rd m65 f65_6 rfl rfl rfl rfl (gs_get k0_72 hk (by decide))
theorem f65_9 : gm_ft 65 9 = some (.if_icmp .ge 7, 3) := by decide +kernel
theorem r65_9 {E : Nat → Value} {d : Nat} {st : List Value} {h : gm_H} {Q : gm_R → gm_H → Prop} {lv : List Value} {x y : Int32} : gm_W E d 65 9 lv (.int y :: .int x :: st) h Q ↔ (if y ≤ x then gm_W E d 65 16 lv st h Q else gm_W E d 65 12 lv st h Q) := (gw_br m65 f65_9 rfl rfl rfl rfl).trans gw_if
theorem f65_12 : gm_ft 65 12 = some (.iconst 1, 1) := by decide +kernel
theorem r65_12 {E : Nat → Value} {d : Nat} {st : List Value} {h : gm_H} {Q : gm_R → gm_H → Prop} {lv : List Value} : gm_W E d 65 12 lv st h Q ↔ gm_W E d 65 13 lv (.int (1 : Int32) :: st) h Q := gw_pure m65 f65_12 rfl
theorem f65_13 : gm_ft 65 13 = some (.goto 4, 3) := by decide +kernel
theorem r65_13 {E : Nat → Value} {d : Nat} {st : List Value} {h : gm_H} {Q : gm_R → gm_H → Prop} {lv : List Value} : gm_W E d 65 13 lv st h Q ↔ gm_W E d 65 17 lv st h Q := gw_brT m65 f65_13 rfl rfl rfl rfl
theorem f65_16 : gm_ft 65 16 = some (.iconst 0, 1) := by decide +kernel
theorem r65_16 {E : Nat → Value} {d : Nat} {st : List Value} {h : gm_H} {Q : gm_R → gm_H → Prop} {lv : List Value} : gm_W E d 65 16 lv st h Q ↔ gm_W E d 65 17 lv (.int (0 : Int32) :: st) h Q := gw_pure m65 f65_16 rfl
theorem f65_17 : gm_ft 65 17 = some (.ireturn, 1) := by decide +kernel
theorem r65_17 {E : Nat → Value} {d : Nat} {h : gm_H} {Q : gm_R → gm_H → Prop} {lv : List Value} {x : Int32} (hx : x = 0 ∨ x = 1) : gm_W E d 65 17 lv [.int x] h Q ↔ Q (.inl (some (.int x))) h := gw_ret m65 f65_17 rfl rfl rfl rfl rfl rfl rfl rfl (by unfold gm_rt; dsimp only; rw [if_pos ⟨rfl, (gs_nb hx).1⟩])
/-! GraphReader.fail(I)I -/
theorem m66 : gm_mt[66]? = some (⟨"GraphReader", "fail", "(I)I"⟩, prog_1_method_16_code, 2, (some .int), [], 0, 1) := rfl
theorem f66_0 : gm_ft 66 0 = some (.aload_n 0, 1) := by decide +kernel
theorem r66_0 {E : Nat → Value} {d : Nat} {st : List Value} {h : gm_H} {Q : gm_R → gm_H → Prop} {a1 : Value} {x : Nat} : gm_W E d 66 0 [.ref x, a1] st h Q ↔ gm_W E d 66 1 [.ref x, a1] (.ref x :: st) h Q := gw_loc m66 f66_0 rfl rfl
theorem r66_0n {E : Nat → Value} {d : Nat} {st : List Value} {h : gm_H} {Q : gm_R → gm_H → Prop} {a1 : Value}  : gm_W E d 66 0 [.null, a1] st h Q ↔ gm_W E d 66 1 [.null, a1] (.null :: st) h Q := gw_loc m66 f66_0 rfl rfl
theorem f66_1 : gm_ft 66 1 = some (.iload_n 1, 1) := by decide +kernel
theorem r66_1 {E : Nat → Value} {d : Nat} {st : List Value} {h : gm_H} {Q : gm_R → gm_H → Prop} {a0 : Value} {x : Int32} : gm_W E d 66 1 [a0, .int x] st h Q ↔ gm_W E d 66 2 [a0, .int x] (.int x :: st) h Q := gw_loc m66 f66_1 rfl rfl
theorem f66_2 : gm_ft 66 2 = some (.putfield 122, 3) := by decide +kernel
theorem r66_2 {E : Nat → Value} {d : Nat} {st : List Value} {h : gm_H} {Q : gm_R → gm_H → Prop} {lv : List Value} {a : Nat} {x : Int32} (hk : gm_kd h a = 0) : gm_W E d 66 2 lv (.int x :: .ref a :: st) h Q ↔ gm_W E d 66 5 lv st (gm_sf h a 12 (.int x)) Q := gw_wr m66 f66_2 rfl rfl rfl rfl rfl (gs_put k0_122 hk (by decide) (by decide) ⟨rfl, rfl⟩ (by decide))
theorem f66_5 : gm_ft 66 5 = some (.new 120, 3) := by decide +kernel
theorem r66_5 {E : Nat → Value} {d : Nat} {st : List Value} {h : gm_H} {Q : gm_R → gm_H → Prop} {lv : List Value} (hs : (st.map fun v => v.category).sum ≤ 8) : gm_W E d 66 5 lv st h Q ↔ Q (.inr h.1) (gm_nw h (7, []) 6) := gw_thr m66 f66_5 rfl rfl rfl rfl rfl rfl rfl rfl rfl (by decide +kernel) hs
theorem f66_8 : gm_ft 66 8 = some (.dup, 1) := by decide +kernel
theorem r66_8 {E : Nat → Value} {d : Nat} {st : List Value} {h : gm_H} {Q : gm_R → gm_H → Prop} {lv : List Value} {a : Nat} : gm_W E d 66 8 lv (.ref a :: st) h Q ↔ gm_W E d 66 9 lv (.ref a :: .ref a :: st) h Q := gw_pure m66 f66_8 rfl
theorem r66_8i {E : Nat → Value} {d : Nat} {st : List Value} {h : gm_H} {Q : gm_R → gm_H → Prop} {lv : List Value} {x : Int32} : gm_W E d 66 8 lv (.int x :: st) h Q ↔ gm_W E d 66 9 lv (.int x :: .int x :: st) h Q := gw_pure m66 f66_8 rfl
theorem f66_9 : gm_ft 66 9 = some (.invokespecial 159, 3) := by decide +kernel
theorem f66_12 : gm_ft 66 12 = some (.athrow, 1) := by decide +kernel
/-! GraphReader.numberAt(II)J -/
theorem m67 : gm_mt[67]? = some (⟨"GraphReader", "numberAt", "(II)J"⟩, prog_1_method_17_code, 6, (some .long), [], 0, 1) := rfl
theorem f67_0 : gm_ft 67 0 = some (.lconst 0, 1) := by decide +kernel
theorem r67_0 {E : Nat → Value} {d : Nat} {st : List Value} {h : gm_H} {Q : gm_R → gm_H → Prop} {lv : List Value} : gm_W E d 67 0 lv st h Q ↔ gm_W E d 67 1 lv (.long 0 :: st) h Q := gw_pure m67 f67_0 rfl
theorem f67_1 : gm_ft 67 1 = some (.lstore_n 3, 1) := by decide +kernel
theorem r67_1 {E : Nat → Value} {d : Nat} {st : List Value} {h : gm_H} {Q : gm_R → gm_H → Prop} {a0 a1 a2 a3 a4 a5 : Value} {x : Int64} : gm_W E d 67 1 [a0, a1, a2, a3, a4, a5] (.long x :: st) h Q ↔ gm_W E d 67 2 [a0, a1, gm_k a2, .long x, gm_u, a5] st h Q := gw_loc m67 f67_1 rfl rfl
theorem f67_2 : gm_ft 67 2 = some (.iload_n 1, 1) := by decide +kernel
theorem r67_2 {E : Nat → Value} {d : Nat} {st : List Value} {h : gm_H} {Q : gm_R → gm_H → Prop} {a0 a2 a3 a4 a5 : Value} {x : Int32} : gm_W E d 67 2 [a0, .int x, a2, a3, a4, a5] st h Q ↔ gm_W E d 67 3 [a0, .int x, a2, a3, a4, a5] (.int x :: st) h Q := gw_loc m67 f67_2 rfl rfl
theorem f67_3 : gm_ft 67 3 = some (.istore 5, 2) := by decide +kernel
theorem r67_3 {E : Nat → Value} {d : Nat} {st : List Value} {h : gm_H} {Q : gm_R → gm_H → Prop} {a0 a1 a2 a3 a4 a5 : Value} {x : Int32} : gm_W E d 67 3 [a0, a1, a2, a3, a4, a5] (.int x :: st) h Q ↔ gm_W E d 67 5 [a0, a1, a2, a3, gm_k a4, .int x] st h Q := gw_loc m67 f67_3 rfl rfl
theorem f67_5 : gm_ft 67 5 = some (.iload 5, 2) := by decide +kernel
theorem r67_5 {E : Nat → Value} {d : Nat} {st : List Value} {h : gm_H} {Q : gm_R → gm_H → Prop} {a0 a1 a2 a3 a4 : Value} {x : Int32} : gm_W E d 67 5 [a0, a1, a2, a3, a4, .int x] st h Q ↔ gm_W E d 67 7 [a0, a1, a2, a3, a4, .int x] (.int x :: st) h Q := gw_loc m67 f67_5 rfl rfl
theorem f67_7 : gm_ft 67 7 = some (.iload_n 1, 1) := by decide +kernel
theorem r67_7 {E : Nat → Value} {d : Nat} {st : List Value} {h : gm_H} {Q : gm_R → gm_H → Prop} {a0 a2 a3 a4 a5 : Value} {x : Int32} : gm_W E d 67 7 [a0, .int x, a2, a3, a4, a5] st h Q ↔ gm_W E d 67 8 [a0, .int x, a2, a3, a4, a5] (.int x :: st) h Q := gw_loc m67 f67_7 rfl rfl
theorem f67_8 : gm_ft 67 8 = some (.iload_n 2, 1) := by decide +kernel
theorem r67_8 {E : Nat → Value} {d : Nat} {st : List Value} {h : gm_H} {Q : gm_R → gm_H → Prop} {a0 a1 a3 a4 a5 : Value} {x : Int32} : gm_W E d 67 8 [a0, a1, .int x, a3, a4, a5] st h Q ↔ gm_W E d 67 9 [a0, a1, .int x, a3, a4, a5] (.int x :: st) h Q := gw_loc m67 f67_8 rfl rfl
theorem f67_9 : gm_ft 67 9 = some (.iadd, 1) := by decide +kernel
theorem r67_9 {E : Nat → Value} {d : Nat} {st : List Value} {h : gm_H} {Q : gm_R → gm_H → Prop} {lv : List Value} {x y : Int32} : gm_W E d 67 9 lv (.int y :: .int x :: st) h Q ↔ gm_W E d 67 10 lv (.int (x + y) :: st) h Q := gw_pure m67 f67_9 rfl
theorem f67_10 : gm_ft 67 10 = some (.if_icmp .ge 36, 3) := by decide +kernel
theorem r67_10 {E : Nat → Value} {d : Nat} {st : List Value} {h : gm_H} {Q : gm_R → gm_H → Prop} {lv : List Value} {x y : Int32} : gm_W E d 67 10 lv (.int y :: .int x :: st) h Q ↔ (if y ≤ x then gm_W E d 67 46 lv st h Q else gm_W E d 67 13 lv st h Q) := (gw_br m67 f67_10 rfl rfl rfl rfl).trans gw_if
theorem f67_13 : gm_ft 67 13 = some (.iload 5, 2) := by decide +kernel
theorem r67_13 {E : Nat → Value} {d : Nat} {st : List Value} {h : gm_H} {Q : gm_R → gm_H → Prop} {a0 a1 a2 a3 a4 : Value} {x : Int32} : gm_W E d 67 13 [a0, a1, a2, a3, a4, .int x] st h Q ↔ gm_W E d 67 15 [a0, a1, a2, a3, a4, .int x] (.int x :: st) h Q := gw_loc m67 f67_13 rfl rfl
theorem f67_15 : gm_ft 67 15 = some (.aload_n 0, 1) := by decide +kernel
theorem r67_15 {E : Nat → Value} {d : Nat} {st : List Value} {h : gm_H} {Q : gm_R → gm_H → Prop} {a1 a2 a3 a4 a5 : Value} {x : Nat} : gm_W E d 67 15 [.ref x, a1, a2, a3, a4, a5] st h Q ↔ gm_W E d 67 16 [.ref x, a1, a2, a3, a4, a5] (.ref x :: st) h Q := gw_loc m67 f67_15 rfl rfl
theorem r67_15n {E : Nat → Value} {d : Nat} {st : List Value} {h : gm_H} {Q : gm_R → gm_H → Prop} {a1 a2 a3 a4 a5 : Value}  : gm_W E d 67 15 [.null, a1, a2, a3, a4, a5] st h Q ↔ gm_W E d 67 16 [.null, a1, a2, a3, a4, a5] (.null :: st) h Q := gw_loc m67 f67_15 rfl rfl
theorem f67_16 : gm_ft 67 16 = some (.getfield 93, 3) := by decide +kernel
theorem r67_16 {E : Nat → Value} {d : Nat} {st : List Value} {h : gm_H} {Q : gm_R → gm_H → Prop} {lv : List Value} {a : Nat} (hk : gm_kd h a = 0) : gm_W E d 67 16 lv (.ref a :: st) h Q ↔ gm_W E d 67 19 lv (gm_fv h a 6 :: st) h Q := gw_rd m67 f67_16 rfl rfl rfl rfl (gs_get k0_93 hk (by decide))
theorem f67_19 : gm_ft 67 19 = some (.if_icmp .ge 27, 3) := by decide +kernel
theorem r67_19 {E : Nat → Value} {d : Nat} {st : List Value} {h : gm_H} {Q : gm_R → gm_H → Prop} {lv : List Value} {x y : Int32} : gm_W E d 67 19 lv (.int y :: .int x :: st) h Q ↔ (if y ≤ x then gm_W E d 67 46 lv st h Q else gm_W E d 67 22 lv st h Q) := (gw_br m67 f67_19 rfl rfl rfl rfl).trans gw_if
theorem f67_22 : gm_ft 67 22 = some (.lload_n 3, 1) := by decide +kernel
theorem r67_22 {E : Nat → Value} {d : Nat} {st : List Value} {h : gm_H} {Q : gm_R → gm_H → Prop} {a0 a1 a2 a4 a5 : Value} {x : Int64} : gm_W E d 67 22 [a0, a1, a2, .long x, a4, a5] st h Q ↔ gm_W E d 67 23 [a0, a1, a2, .long x, a4, a5] (.long x :: st) h Q := gw_loc m67 f67_22 rfl rfl
theorem f67_23 : gm_ft 67 23 = some (.bipush 8, 2) := by decide +kernel
theorem r67_23 {E : Nat → Value} {d : Nat} {st : List Value} {h : gm_H} {Q : gm_R → gm_H → Prop} {lv : List Value} : gm_W E d 67 23 lv st h Q ↔ gm_W E d 67 25 lv (.int (8 : Int32) :: st) h Q := gw_pure m67 f67_23 rfl
theorem f67_25 : gm_ft 67 25 = some (.lshl, 1) := by decide +kernel
theorem r67_25 {E : Nat → Value} {d : Nat} {st : List Value} {h : gm_H} {Q : gm_R → gm_H → Prop} {lv : List Value} {x : Int64} {y : Int32} : gm_W E d 67 25 lv (.int y :: .long x :: st) h Q ↔ gm_W E d 67 26 lv (.long (x <<< (y.toInt64 &&& 63)) :: st) h Q := gw_pure m67 f67_25 rfl
theorem f67_26 : gm_ft 67 26 = some (.aload_n 0, 1) := by decide +kernel
theorem r67_26 {E : Nat → Value} {d : Nat} {st : List Value} {h : gm_H} {Q : gm_R → gm_H → Prop} {a1 a2 a3 a4 a5 : Value} {x : Nat} : gm_W E d 67 26 [.ref x, a1, a2, a3, a4, a5] st h Q ↔ gm_W E d 67 27 [.ref x, a1, a2, a3, a4, a5] (.ref x :: st) h Q := gw_loc m67 f67_26 rfl rfl
theorem r67_26n {E : Nat → Value} {d : Nat} {st : List Value} {h : gm_H} {Q : gm_R → gm_H → Prop} {a1 a2 a3 a4 a5 : Value}  : gm_W E d 67 26 [.null, a1, a2, a3, a4, a5] st h Q ↔ gm_W E d 67 27 [.null, a1, a2, a3, a4, a5] (.null :: st) h Q := gw_loc m67 f67_26 rfl rfl
theorem f67_27 : gm_ft 67 27 = some (.getfield 15, 3) := by decide +kernel
theorem r67_27 {E : Nat → Value} {d : Nat} {st : List Value} {h : gm_H} {Q : gm_R → gm_H → Prop} {lv : List Value} {a : Nat} (hk : gm_kd h a = 0) : gm_W E d 67 27 lv (.ref a :: st) h Q ↔ gm_W E d 67 30 lv (gm_fv h a 5 :: st) h Q := gw_rd m67 f67_27 rfl rfl rfl rfl (gs_get k0_15 hk (by decide))
theorem f67_30 : gm_ft 67 30 = some (.iload 5, 2) := by decide +kernel
theorem r67_30 {E : Nat → Value} {d : Nat} {st : List Value} {h : gm_H} {Q : gm_R → gm_H → Prop} {a0 a1 a2 a3 a4 : Value} {x : Int32} : gm_W E d 67 30 [a0, a1, a2, a3, a4, .int x] st h Q ↔ gm_W E d 67 32 [a0, a1, a2, a3, a4, .int x] (.int x :: st) h Q := gw_loc m67 f67_30 rfl rfl
theorem f67_32 : gm_ft 67 32 = some (.baload, 1) := by decide +kernel
theorem r67_32 {E : Nat → Value} {d : Nat} {st : List Value} {h : gm_H} {Q : gm_R → gm_H → Prop} {lv : List Value} {a j : Nat} (hk : (gm_kd h a % 100 = 2 ∨ gm_kd h a % 100 = 3) ∧ 100 ≤ gm_kd h a ∧ gm_kd h a < 900) (hj : j < gm_ln h a) (hl : gm_ln h a < 2 ^ 31) : gm_W E d 67 32 lv (.int (nI j) :: .ref a :: st) h Q ↔ gm_W E d 67 33 lv (gm_fv h a j :: st) h Q := gw_rd m67 f67_32 rfl rfl rfl rfl (gs_ld (P := fun t => t == 2 || t == 3) hk.2 (by have := hk.1; simp [this] <;> omega) hj hl)
theorem f67_33 : gm_ft 67 33 = some (.sipush 255, 3) := by decide +kernel
theorem r67_33 {E : Nat → Value} {d : Nat} {st : List Value} {h : gm_H} {Q : gm_R → gm_H → Prop} {lv : List Value} : gm_W E d 67 33 lv st h Q ↔ gm_W E d 67 36 lv (.int (255 : Int32) :: st) h Q := gw_pure m67 f67_33 rfl
theorem f67_36 : gm_ft 67 36 = some (.iand, 1) := by decide +kernel
theorem r67_36 {E : Nat → Value} {d : Nat} {st : List Value} {h : gm_H} {Q : gm_R → gm_H → Prop} {lv : List Value} {x y : Int32} : gm_W E d 67 36 lv (.int y :: .int x :: st) h Q ↔ gm_W E d 67 37 lv (.int (x &&& y) :: st) h Q := gw_pure m67 f67_36 rfl
theorem f67_37 : gm_ft 67 37 = some (.i2l, 1) := by decide +kernel
theorem r67_37 {E : Nat → Value} {d : Nat} {st : List Value} {h : gm_H} {Q : gm_R → gm_H → Prop} {lv : List Value} {x : Int32} : gm_W E d 67 37 lv (.int x :: st) h Q ↔ gm_W E d 67 38 lv (.long (x.toInt64) :: st) h Q := gw_pure m67 f67_37 rfl
theorem f67_38 : gm_ft 67 38 = some (.lor, 1) := by decide +kernel
theorem r67_38 {E : Nat → Value} {d : Nat} {st : List Value} {h : gm_H} {Q : gm_R → gm_H → Prop} {lv : List Value} {x y : Int64} : gm_W E d 67 38 lv (.long y :: .long x :: st) h Q ↔ gm_W E d 67 39 lv (.long (x ||| y) :: st) h Q := gw_pure m67 f67_38 rfl
theorem f67_39 : gm_ft 67 39 = some (.lstore_n 3, 1) := by decide +kernel
theorem r67_39 {E : Nat → Value} {d : Nat} {st : List Value} {h : gm_H} {Q : gm_R → gm_H → Prop} {a0 a1 a2 a3 a4 a5 : Value} {x : Int64} : gm_W E d 67 39 [a0, a1, a2, a3, a4, a5] (.long x :: st) h Q ↔ gm_W E d 67 40 [a0, a1, gm_k a2, .long x, gm_u, a5] st h Q := gw_loc m67 f67_39 rfl rfl
theorem f67_40 : gm_ft 67 40 = some (.iinc 5 1, 3) := by decide +kernel
theorem r67_40 {E : Nat → Value} {d : Nat} {st : List Value} {h : gm_H} {Q : gm_R → gm_H → Prop} {a0 a1 a2 a3 a4 : Value} {x : Int32} : gm_W E d 67 40 [a0, a1, a2, a3, a4, .int x] st h Q ↔ gm_W E d 67 43 [a0, a1, a2, a3, gm_k a4, .int (x + (1 : Int32))] st h Q := gw_loc m67 f67_40 rfl rfl
theorem f67_43 : gm_ft 67 43 = some (.goto (-38), 3) := by decide +kernel
theorem r67_43 {E : Nat → Value} {d : Nat} {st : List Value} {h : gm_H} {Q : gm_R → gm_H → Prop} {lv : List Value} : gm_W E d 67 43 lv st h Q ↔ gm_W E d 67 5 lv st h Q := gw_brT m67 f67_43 rfl rfl rfl rfl
theorem f67_46 : gm_ft 67 46 = some (.lload_n 3, 1) := by decide +kernel
theorem r67_46 {E : Nat → Value} {d : Nat} {st : List Value} {h : gm_H} {Q : gm_R → gm_H → Prop} {a0 a1 a2 a4 a5 : Value} {x : Int64} : gm_W E d 67 46 [a0, a1, a2, .long x, a4, a5] st h Q ↔ gm_W E d 67 47 [a0, a1, a2, .long x, a4, a5] (.long x :: st) h Q := gw_loc m67 f67_46 rfl rfl
theorem f67_47 : gm_ft 67 47 = some (.lreturn, 1) := by decide +kernel
theorem r67_47 {E : Nat → Value} {d : Nat} {h : gm_H} {Q : gm_R → gm_H → Prop} {lv : List Value} {x : Int64} : gm_W E d 67 47 lv [.long x] h Q ↔ Q (.inl (some (.long x))) h := gw_ret m67 f67_47 rfl rfl rfl rfl rfl rfl rfl rfl rfl
/-! GraphReader.nextNumber(I)J -/
theorem m68 : gm_mt[68]? = some (⟨"GraphReader", "nextNumber", "(I)J"⟩, prog_1_method_18_code, 4, (some .long), [], 0, 1) := rfl
theorem f68_0 : gm_ft 68 0 = some (.aload_n 0, 1) := by decide +kernel
theorem r68_0 {E : Nat → Value} {d : Nat} {st : List Value} {h : gm_H} {Q : gm_R → gm_H → Prop} {a1 a2 a3 : Value} {x : Nat} : gm_W E d 68 0 [.ref x, a1, a2, a3] st h Q ↔ gm_W E d 68 1 [.ref x, a1, a2, a3] (.ref x :: st) h Q := gw_loc m68 f68_0 rfl rfl
theorem r68_0n {E : Nat → Value} {d : Nat} {st : List Value} {h : gm_H} {Q : gm_R → gm_H → Prop} {a1 a2 a3 : Value}  : gm_W E d 68 0 [.null, a1, a2, a3] st h Q ↔ gm_W E d 68 1 [.null, a1, a2, a3] (.null :: st) h Q := gw_loc m68 f68_0 rfl rfl
theorem f68_1 : gm_ft 68 1 = some (.getfield 93, 3) := by decide +kernel
theorem r68_1 {E : Nat → Value} {d : Nat} {st : List Value} {h : gm_H} {Q : gm_R → gm_H → Prop} {lv : List Value} {a : Nat} (hk : gm_kd h a = 0) : gm_W E d 68 1 lv (.ref a :: st) h Q ↔ gm_W E d 68 4 lv (gm_fv h a 6 :: st) h Q := gw_rd m68 f68_1 rfl rfl rfl rfl (gs_get k0_93 hk (by decide))
theorem f68_4 : gm_ft 68 4 = some (.aload_n 0, 1) := by decide +kernel
theorem r68_4 {E : Nat → Value} {d : Nat} {st : List Value} {h : gm_H} {Q : gm_R → gm_H → Prop} {a1 a2 a3 : Value} {x : Nat} : gm_W E d 68 4 [.ref x, a1, a2, a3] st h Q ↔ gm_W E d 68 5 [.ref x, a1, a2, a3] (.ref x :: st) h Q := gw_loc m68 f68_4 rfl rfl
theorem r68_4n {E : Nat → Value} {d : Nat} {st : List Value} {h : gm_H} {Q : gm_R → gm_H → Prop} {a1 a2 a3 : Value}  : gm_W E d 68 4 [.null, a1, a2, a3] st h Q ↔ gm_W E d 68 5 [.null, a1, a2, a3] (.null :: st) h Q := gw_loc m68 f68_4 rfl rfl
theorem f68_5 : gm_ft 68 5 = some (.getfield 96, 3) := by decide +kernel
theorem r68_5 {E : Nat → Value} {d : Nat} {st : List Value} {h : gm_H} {Q : gm_R → gm_H → Prop} {lv : List Value} {a : Nat} (hk : gm_kd h a = 0) : gm_W E d 68 5 lv (.ref a :: st) h Q ↔ gm_W E d 68 8 lv (gm_fv h a 7 :: st) h Q := gw_rd m68 f68_5 rfl rfl rfl rfl (gs_get k0_96 hk (by decide))
theorem f68_8 : gm_ft 68 8 = some (.isub, 1) := by decide +kernel
theorem r68_8 {E : Nat → Value} {d : Nat} {st : List Value} {h : gm_H} {Q : gm_R → gm_H → Prop} {lv : List Value} {x y : Int32} : gm_W E d 68 8 lv (.int y :: .int x :: st) h Q ↔ gm_W E d 68 9 lv (.int (x - y) :: st) h Q := gw_pure m68 f68_8 rfl
theorem f68_9 : gm_ft 68 9 = some (.iload_n 1, 1) := by decide +kernel
theorem r68_9 {E : Nat → Value} {d : Nat} {st : List Value} {h : gm_H} {Q : gm_R → gm_H → Prop} {a0 a2 a3 : Value} {x : Int32} : gm_W E d 68 9 [a0, .int x, a2, a3] st h Q ↔ gm_W E d 68 10 [a0, .int x, a2, a3] (.int x :: st) h Q := gw_loc m68 f68_9 rfl rfl
theorem f68_10 : gm_ft 68 10 = some (.if_icmp .ge 11, 3) := by decide +kernel
theorem r68_10 {E : Nat → Value} {d : Nat} {st : List Value} {h : gm_H} {Q : gm_R → gm_H → Prop} {lv : List Value} {x y : Int32} : gm_W E d 68 10 lv (.int y :: .int x :: st) h Q ↔ (if y ≤ x then gm_W E d 68 21 lv st h Q else gm_W E d 68 13 lv st h Q) := (gw_br m68 f68_10 rfl rfl rfl rfl).trans gw_if
theorem f68_13 : gm_ft 68 13 = some (.aload_n 0, 1) := by decide +kernel
theorem r68_13 {E : Nat → Value} {d : Nat} {st : List Value} {h : gm_H} {Q : gm_R → gm_H → Prop} {a1 a2 a3 : Value} {x : Nat} : gm_W E d 68 13 [.ref x, a1, a2, a3] st h Q ↔ gm_W E d 68 14 [.ref x, a1, a2, a3] (.ref x :: st) h Q := gw_loc m68 f68_13 rfl rfl
theorem r68_13n {E : Nat → Value} {d : Nat} {st : List Value} {h : gm_H} {Q : gm_R → gm_H → Prop} {a1 a2 a3 : Value}  : gm_W E d 68 13 [.null, a1, a2, a3] st h Q ↔ gm_W E d 68 14 [.null, a1, a2, a3] (.null :: st) h Q := gw_loc m68 f68_13 rfl rfl
theorem f68_14 : gm_ft 68 14 = some (.bipush (-3), 2) := by decide +kernel
theorem r68_14 {E : Nat → Value} {d : Nat} {st : List Value} {h : gm_H} {Q : gm_R → gm_H → Prop} {lv : List Value} : gm_W E d 68 14 lv st h Q ↔ gm_W E d 68 16 lv (.int (-3 : Int32) :: st) h Q := gw_pure m68 f68_14 rfl
theorem f68_16 : gm_ft 68 16 = some (.invokevirtual 160, 3) := by decide +kernel
theorem c68_16 {E : Nat → Value} {d : Nat} {st : List Value} {h : gm_H} {Q : gm_R → gm_H → Prop} {lv : List Value} {b0 : Int32} {a : Nat} {Qc : gm_R → gm_H → Prop} (hs : (st.map fun v => v.category).sum ≤ 8) (hr : gm_kd h a = 0) (hd : 1 ≤ d) (hc : gm_Ca E (d - 1) 66 [.ref a, .int b0] h Qc) (kn : ∀ (v9 : Option Value) (h9 : gm_H), Qc (.inl v9) h9 → gm_W E d 68 19 lv (v9.toList ++ st) h9 Q) (kx : ∀ (x9 : Nat) (h9 : gm_H), Qc (.inr x9) h9 → Q (.inr x9) h9) : gm_W E d 68 16 lv (.int b0 :: .ref a :: st) h Q := gw_call (gn_call m68 f68_16 rfl rfl rfl rfl rfl rfl rfl (gs_virt (bs := [.int b0]) (w := 206) (L := 2) rfl rfl rfl rfl hs (by simp [gm_en1]) hr (by decide)) (by decide)) m68 rfl rfl hd hc kn kx
theorem f68_19 : gm_ft 68 19 = some (.i2l, 1) := by decide +kernel
theorem r68_19 {E : Nat → Value} {d : Nat} {st : List Value} {h : gm_H} {Q : gm_R → gm_H → Prop} {lv : List Value} {x : Int32} : gm_W E d 68 19 lv (.int x :: st) h Q ↔ gm_W E d 68 20 lv (.long (x.toInt64) :: st) h Q := gw_pure m68 f68_19 rfl
theorem f68_20 : gm_ft 68 20 = some (.lreturn, 1) := by decide +kernel
theorem r68_20 {E : Nat → Value} {d : Nat} {h : gm_H} {Q : gm_R → gm_H → Prop} {lv : List Value} {x : Int64} : gm_W E d 68 20 lv [.long x] h Q ↔ Q (.inl (some (.long x))) h := gw_ret m68 f68_20 rfl rfl rfl rfl rfl rfl rfl rfl rfl
theorem f68_21 : gm_ft 68 21 = some (.aload_n 0, 1) := by decide +kernel
theorem r68_21 {E : Nat → Value} {d : Nat} {st : List Value} {h : gm_H} {Q : gm_R → gm_H → Prop} {a1 a2 a3 : Value} {x : Nat} : gm_W E d 68 21 [.ref x, a1, a2, a3] st h Q ↔ gm_W E d 68 22 [.ref x, a1, a2, a3] (.ref x :: st) h Q := gw_loc m68 f68_21 rfl rfl
theorem r68_21n {E : Nat → Value} {d : Nat} {st : List Value} {h : gm_H} {Q : gm_R → gm_H → Prop} {a1 a2 a3 : Value}  : gm_W E d 68 21 [.null, a1, a2, a3] st h Q ↔ gm_W E d 68 22 [.null, a1, a2, a3] (.null :: st) h Q := gw_loc m68 f68_21 rfl rfl
theorem f68_22 : gm_ft 68 22 = some (.aload_n 0, 1) := by decide +kernel
theorem r68_22 {E : Nat → Value} {d : Nat} {st : List Value} {h : gm_H} {Q : gm_R → gm_H → Prop} {a1 a2 a3 : Value} {x : Nat} : gm_W E d 68 22 [.ref x, a1, a2, a3] st h Q ↔ gm_W E d 68 23 [.ref x, a1, a2, a3] (.ref x :: st) h Q := gw_loc m68 f68_22 rfl rfl
theorem r68_22n {E : Nat → Value} {d : Nat} {st : List Value} {h : gm_H} {Q : gm_R → gm_H → Prop} {a1 a2 a3 : Value}  : gm_W E d 68 22 [.null, a1, a2, a3] st h Q ↔ gm_W E d 68 23 [.null, a1, a2, a3] (.null :: st) h Q := gw_loc m68 f68_22 rfl rfl
theorem f68_23 : gm_ft 68 23 = some (.getfield 96, 3) := by decide +kernel
theorem r68_23 {E : Nat → Value} {d : Nat} {st : List Value} {h : gm_H} {Q : gm_R → gm_H → Prop} {lv : List Value} {a : Nat} (hk : gm_kd h a = 0) : gm_W E d 68 23 lv (.ref a :: st) h Q ↔ gm_W E d 68 26 lv (gm_fv h a 7 :: st) h Q := gw_rd m68 f68_23 rfl rfl rfl rfl (gs_get k0_96 hk (by decide))
theorem f68_26 : gm_ft 68 26 = some (.iload_n 1, 1) := by decide +kernel
theorem r68_26 {E : Nat → Value} {d : Nat} {st : List Value} {h : gm_H} {Q : gm_R → gm_H → Prop} {a0 a2 a3 : Value} {x : Int32} : gm_W E d 68 26 [a0, .int x, a2, a3] st h Q ↔ gm_W E d 68 27 [a0, .int x, a2, a3] (.int x :: st) h Q := gw_loc m68 f68_26 rfl rfl
theorem f68_27 : gm_ft 68 27 = some (.invokevirtual 105, 3) := by decide +kernel
theorem c68_27 {E : Nat → Value} {d : Nat} {st : List Value} {h : gm_H} {Q : gm_R → gm_H → Prop} {lv : List Value} {b0 : Int32} {b1 : Int32} {a : Nat} {Qc : gm_R → gm_H → Prop} (hs : (st.map fun v => v.category).sum ≤ 8) (hr : gm_kd h a = 0) (hd : 1 ≤ d) (hc : gm_Ca E (d - 1) 67 [.ref a, .int b0, .int b1] h Qc) (kn : ∀ (v9 : Option Value) (h9 : gm_H), Qc (.inl v9) h9 → gm_W E d 68 30 lv (v9.toList ++ st) h9 Q) (kx : ∀ (x9 : Nat) (h9 : gm_H), Qc (.inr x9) h9 → Q (.inr x9) h9) : gm_W E d 68 27 lv (.int b1 :: .int b0 :: .ref a :: st) h Q := gw_call (gn_call m68 f68_27 rfl rfl rfl rfl rfl rfl rfl (gs_virt (bs := [.int b1, .int b0]) (w := 184) (L := 6) rfl rfl rfl rfl hs (by simp [gm_en1]) hr (by decide)) (by decide)) m68 rfl rfl hd hc kn kx
theorem f68_30 : gm_ft 68 30 = some (.lstore_n 2, 1) := by decide +kernel
theorem r68_30 {E : Nat → Value} {d : Nat} {st : List Value} {h : gm_H} {Q : gm_R → gm_H → Prop} {a0 a1 a2 a3 : Value} {x : Int64} : gm_W E d 68 30 [a0, a1, a2, a3] (.long x :: st) h Q ↔ gm_W E d 68 31 [a0, gm_k a1, .long x, gm_u] st h Q := gw_loc m68 f68_30 rfl rfl
theorem f68_31 : gm_ft 68 31 = some (.aload_n 0, 1) := by decide +kernel
theorem r68_31 {E : Nat → Value} {d : Nat} {st : List Value} {h : gm_H} {Q : gm_R → gm_H → Prop} {a1 a2 a3 : Value} {x : Nat} : gm_W E d 68 31 [.ref x, a1, a2, a3] st h Q ↔ gm_W E d 68 32 [.ref x, a1, a2, a3] (.ref x :: st) h Q := gw_loc m68 f68_31 rfl rfl
theorem r68_31n {E : Nat → Value} {d : Nat} {st : List Value} {h : gm_H} {Q : gm_R → gm_H → Prop} {a1 a2 a3 : Value}  : gm_W E d 68 31 [.null, a1, a2, a3] st h Q ↔ gm_W E d 68 32 [.null, a1, a2, a3] (.null :: st) h Q := gw_loc m68 f68_31 rfl rfl
theorem f68_32 : gm_ft 68 32 = some (.dup, 1) := by decide +kernel
theorem r68_32 {E : Nat → Value} {d : Nat} {st : List Value} {h : gm_H} {Q : gm_R → gm_H → Prop} {lv : List Value} {a : Nat} : gm_W E d 68 32 lv (.ref a :: st) h Q ↔ gm_W E d 68 33 lv (.ref a :: .ref a :: st) h Q := gw_pure m68 f68_32 rfl
theorem r68_32i {E : Nat → Value} {d : Nat} {st : List Value} {h : gm_H} {Q : gm_R → gm_H → Prop} {lv : List Value} {x : Int32} : gm_W E d 68 32 lv (.int x :: st) h Q ↔ gm_W E d 68 33 lv (.int x :: .int x :: st) h Q := gw_pure m68 f68_32 rfl
theorem f68_33 : gm_ft 68 33 = some (.getfield 96, 3) := by decide +kernel
theorem r68_33 {E : Nat → Value} {d : Nat} {st : List Value} {h : gm_H} {Q : gm_R → gm_H → Prop} {lv : List Value} {a : Nat} (hk : gm_kd h a = 0) : gm_W E d 68 33 lv (.ref a :: st) h Q ↔ gm_W E d 68 36 lv (gm_fv h a 7 :: st) h Q := gw_rd m68 f68_33 rfl rfl rfl rfl (gs_get k0_96 hk (by decide))
theorem f68_36 : gm_ft 68 36 = some (.iload_n 1, 1) := by decide +kernel
theorem r68_36 {E : Nat → Value} {d : Nat} {st : List Value} {h : gm_H} {Q : gm_R → gm_H → Prop} {a0 a2 a3 : Value} {x : Int32} : gm_W E d 68 36 [a0, .int x, a2, a3] st h Q ↔ gm_W E d 68 37 [a0, .int x, a2, a3] (.int x :: st) h Q := gw_loc m68 f68_36 rfl rfl
theorem f68_37 : gm_ft 68 37 = some (.iadd, 1) := by decide +kernel
theorem r68_37 {E : Nat → Value} {d : Nat} {st : List Value} {h : gm_H} {Q : gm_R → gm_H → Prop} {lv : List Value} {x y : Int32} : gm_W E d 68 37 lv (.int y :: .int x :: st) h Q ↔ gm_W E d 68 38 lv (.int (x + y) :: st) h Q := gw_pure m68 f68_37 rfl
theorem f68_38 : gm_ft 68 38 = some (.putfield 96, 3) := by decide +kernel
theorem r68_38 {E : Nat → Value} {d : Nat} {st : List Value} {h : gm_H} {Q : gm_R → gm_H → Prop} {lv : List Value} {a : Nat} {x : Int32} (hk : gm_kd h a = 0) : gm_W E d 68 38 lv (.int x :: .ref a :: st) h Q ↔ gm_W E d 68 41 lv st (gm_sf h a 7 (.int x)) Q := gw_wr m68 f68_38 rfl rfl rfl rfl rfl (gs_put k0_96 hk (by decide) (by decide) ⟨rfl, rfl⟩ (by decide))
theorem f68_41 : gm_ft 68 41 = some (.lload_n 2, 1) := by decide +kernel
theorem r68_41 {E : Nat → Value} {d : Nat} {st : List Value} {h : gm_H} {Q : gm_R → gm_H → Prop} {a0 a1 a3 : Value} {x : Int64} : gm_W E d 68 41 [a0, a1, .long x, a3] st h Q ↔ gm_W E d 68 42 [a0, a1, .long x, a3] (.long x :: st) h Q := gw_loc m68 f68_41 rfl rfl
theorem f68_42 : gm_ft 68 42 = some (.lreturn, 1) := by decide +kernel
theorem r68_42 {E : Nat → Value} {d : Nat} {h : gm_H} {Q : gm_R → gm_H → Prop} {lv : List Value} {x : Int64} : gm_W E d 68 42 lv [.long x] h Q ↔ Q (.inl (some (.long x))) h := gw_ret m68 f68_42 rfl rfl rfl rfl rfl rfl rfl rfl rfl
/-! GraphReader.nextByte()I -/
theorem m69 : gm_mt[69]? = some (⟨"GraphReader", "nextByte", "()I"⟩, prog_1_method_19_code, 1, (some .int), [], 0, 1) := rfl
theorem f69_0 : gm_ft 69 0 = some (.aload_n 0, 1) := by decide +kernel
theorem r69_0 {E : Nat → Value} {d : Nat} {st : List Value} {h : gm_H} {Q : gm_R → gm_H → Prop}  {x : Nat} : gm_W E d 69 0 [.ref x] st h Q ↔ gm_W E d 69 1 [.ref x] (.ref x :: st) h Q := gw_loc m69 f69_0 rfl rfl
theorem r69_0n {E : Nat → Value} {d : Nat} {st : List Value} {h : gm_H} {Q : gm_R → gm_H → Prop}   : gm_W E d 69 0 [.null] st h Q ↔ gm_W E d 69 1 [.null] (.null :: st) h Q := gw_loc m69 f69_0 rfl rfl
theorem f69_1 : gm_ft 69 1 = some (.iconst 1, 1) := by decide +kernel
theorem r69_1 {E : Nat → Value} {d : Nat} {st : List Value} {h : gm_H} {Q : gm_R → gm_H → Prop} {lv : List Value} : gm_W E d 69 1 lv st h Q ↔ gm_W E d 69 2 lv (.int (1 : Int32) :: st) h Q := gw_pure m69 f69_1 rfl
theorem f69_2 : gm_ft 69 2 = some (.invokevirtual 163, 3) := by decide +kernel
theorem c69_2 {E : Nat → Value} {d : Nat} {st : List Value} {h : gm_H} {Q : gm_R → gm_H → Prop} {lv : List Value} {b0 : Int32} {a : Nat} {Qc : gm_R → gm_H → Prop} (hs : (st.map fun v => v.category).sum ≤ 8) (hr : gm_kd h a = 0) (hd : 1 ≤ d) (hc : gm_Ca E (d - 1) 68 [.ref a, .int b0] h Qc) (kn : ∀ (v9 : Option Value) (h9 : gm_H), Qc (.inl v9) h9 → gm_W E d 69 5 lv (v9.toList ++ st) h9 Q) (kx : ∀ (x9 : Nat) (h9 : gm_H), Qc (.inr x9) h9 → Q (.inr x9) h9) : gm_W E d 69 2 lv (.int b0 :: .ref a :: st) h Q := gw_call (gn_call m69 f69_2 rfl rfl rfl rfl rfl rfl rfl (gs_virt (bs := [.int b0]) (w := 278) (L := 4) rfl rfl rfl rfl hs (by simp [gm_en1]) hr (by decide)) (by decide)) m69 rfl rfl hd hc kn kx
theorem f69_5 : gm_ft 69 5 = some (.l2i, 1) := by decide +kernel
theorem r69_5 {E : Nat → Value} {d : Nat} {st : List Value} {h : gm_H} {Q : gm_R → gm_H → Prop} {lv : List Value} {x : Int64} : gm_W E d 69 5 lv (.long x :: st) h Q ↔ gm_W E d 69 6 lv (.int (x.toInt32) :: st) h Q := gw_pure m69 f69_5 rfl
theorem f69_6 : gm_ft 69 6 = some (.ireturn, 1) := by decide +kernel
theorem r69_6 {E : Nat → Value} {d : Nat} {h : gm_H} {Q : gm_R → gm_H → Prop} {lv : List Value} {x : Int32} : gm_W E d 69 6 lv [.int x] h Q ↔ Q (.inl (some (.int x))) h := gw_ret m69 f69_6 rfl rfl rfl rfl rfl rfl rfl rfl (by unfold gm_rt; dsimp only; rw [if_pos ⟨rfl, rfl⟩])
/-! GraphReader.nextInt()I -/
theorem m70 : gm_mt[70]? = some (⟨"GraphReader", "nextInt", "()I"⟩, prog_1_method_20_code, 1, (some .int), [], 0, 1) := rfl
theorem f70_0 : gm_ft 70 0 = some (.aload_n 0, 1) := by decide +kernel
theorem r70_0 {E : Nat → Value} {d : Nat} {st : List Value} {h : gm_H} {Q : gm_R → gm_H → Prop}  {x : Nat} : gm_W E d 70 0 [.ref x] st h Q ↔ gm_W E d 70 1 [.ref x] (.ref x :: st) h Q := gw_loc m70 f70_0 rfl rfl
theorem r70_0n {E : Nat → Value} {d : Nat} {st : List Value} {h : gm_H} {Q : gm_R → gm_H → Prop}   : gm_W E d 70 0 [.null] st h Q ↔ gm_W E d 70 1 [.null] (.null :: st) h Q := gw_loc m70 f70_0 rfl rfl
theorem f70_1 : gm_ft 70 1 = some (.iconst 4, 1) := by decide +kernel
theorem r70_1 {E : Nat → Value} {d : Nat} {st : List Value} {h : gm_H} {Q : gm_R → gm_H → Prop} {lv : List Value} : gm_W E d 70 1 lv st h Q ↔ gm_W E d 70 2 lv (.int (4 : Int32) :: st) h Q := gw_pure m70 f70_1 rfl
theorem f70_2 : gm_ft 70 2 = some (.invokevirtual 163, 3) := by decide +kernel
theorem c70_2 {E : Nat → Value} {d : Nat} {st : List Value} {h : gm_H} {Q : gm_R → gm_H → Prop} {lv : List Value} {b0 : Int32} {a : Nat} {Qc : gm_R → gm_H → Prop} (hs : (st.map fun v => v.category).sum ≤ 8) (hr : gm_kd h a = 0) (hd : 1 ≤ d) (hc : gm_Ca E (d - 1) 68 [.ref a, .int b0] h Qc) (kn : ∀ (v9 : Option Value) (h9 : gm_H), Qc (.inl v9) h9 → gm_W E d 70 5 lv (v9.toList ++ st) h9 Q) (kx : ∀ (x9 : Nat) (h9 : gm_H), Qc (.inr x9) h9 → Q (.inr x9) h9) : gm_W E d 70 2 lv (.int b0 :: .ref a :: st) h Q := gw_call (gn_call m70 f70_2 rfl rfl rfl rfl rfl rfl rfl (gs_virt (bs := [.int b0]) (w := 278) (L := 4) rfl rfl rfl rfl hs (by simp [gm_en1]) hr (by decide)) (by decide)) m70 rfl rfl hd hc kn kx
theorem f70_5 : gm_ft 70 5 = some (.l2i, 1) := by decide +kernel
theorem r70_5 {E : Nat → Value} {d : Nat} {st : List Value} {h : gm_H} {Q : gm_R → gm_H → Prop} {lv : List Value} {x : Int64} : gm_W E d 70 5 lv (.long x :: st) h Q ↔ gm_W E d 70 6 lv (.int (x.toInt32) :: st) h Q := gw_pure m70 f70_5 rfl
theorem f70_6 : gm_ft 70 6 = some (.ireturn, 1) := by decide +kernel
theorem r70_6 {E : Nat → Value} {d : Nat} {h : gm_H} {Q : gm_R → gm_H → Prop} {lv : List Value} {x : Int32} : gm_W E d 70 6 lv [.int x] h Q ↔ Q (.inl (some (.int x))) h := gw_ret m70 f70_6 rfl rfl rfl rfl rfl rfl rfl rfl (by unfold gm_rt; dsimp only; rw [if_pos ⟨rfl, rfl⟩])
