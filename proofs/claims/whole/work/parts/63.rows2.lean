/-! THE PURE SIDE, 3b: branches and calls of the rows. -/
section ROWS2
variable {E : Nat → Value} {d mi a b : Nat} {lv st : List Value} {h : gm_H} {r : gm_R × gm_H}
theorem gr_if {P : Prop} [Decidable P] : gm_Go E d mi (if decide P = true then a else b) lv st h r ↔ (if P then gm_Go E d mi a lv st h r else gm_Go E d mi b lv st h r) := by
  by_cases hp : P <;> simp [hp]
theorem gr_ifn {P : Prop} [Decidable P] : gm_Go E d mi (if (!decide P) = true then a else b) lv st h r ↔ (if P then gm_Go E d mi b lv st h r else gm_Go E d mi a lv st h r) := by
  by_cases hp : P <;> simp [hp]
theorem gr_ac {u v : Nat} : gm_Go E d mi (if gm_ca .eq (.ref u) (.ref v) = true then a else b) lv st h r ↔ (if u = v then gm_Go E d mi a lv st h r else gm_Go E d mi b lv st h r) := by
  by_cases hp : u = v <;> simp [hp, gm_ca]
theorem gr_acn {u v : Nat} : gm_Go E d mi (if gm_ca .ne (.ref u) (.ref v) = true then a else b) lv st h r ↔ (if u = v then gm_Go E d mi b lv st h r else gm_Go E d mi a lv st h r) := by
  by_cases hp : u = v <;> simp [hp, gm_ca]
end ROWS2
section ROWS3
variable {E : Nat → Value} {d mi pc n ow cn tgt : Nat} {off : Int} {lv st st' : List Value} {h : gm_H} {r : gm_R × gm_H} {i : Instr} {y : MethodName} {code : ByteArray} {maxL : Nat} {ret : Option FieldType} {hh : List (Nat × Nat × Nat × Nat)}
theorem gr_brT (hM : gm_mt[mi]? = some (y, code, maxL, ret, hh, cn, ow)) (hf : gm_ft mi pc = some (i, 3)) (h1 : gm_pure i st = none) (h2 : gm_loc i lv st = none) (hp : gm_br i st = some (true, off, st')) (ht : gm_tg pc off = some tgt) : gm_Go E d mi pc lv st h r ↔ gm_Go E d mi tgt lv st' h r := gr_br hM hf h1 h2 hp ht
theorem gr_brF (hM : gm_mt[mi]? = some (y, code, maxL, ret, hh, cn, ow)) (hf : gm_ft mi pc = some (i, 3)) (h1 : gm_pure i st = none) (h2 : gm_loc i lv st = none) (hp : gm_br i st = some (false, off, st')) (ht : gm_tg pc off = some tgt) : gm_Go E d mi pc lv st h r ↔ gm_Go E d mi (pc + 3) lv st' h r := gr_br hM hf h1 h2 hp ht
end ROWS3
section CALLS2
variable {cn x mi n w a L : Nat} {st rest as vs : List Value} {h : gm_H}
theorem gc_spec {a : Nat} {rest : List Value} (hl : gm_look gm_ct cn x = some (4, mi, 0, w)) (hs : (rest.map fun v => v.category).sum ≤ 8) (he : 1 ≤ gm_mL mi) : gm_cal cn (.invokespecial x) (.ref a :: rest) h = some (4, mi, [.ref a], rest) := by
  unfold gm_cal gm_ca1
  dsimp only
  rw [hl]
  dsimp only
  rw [if_pos (by simp), if_neg (by decide)]
  exact if_pos ⟨hs, he, fun z => by cases z⟩
theorem gc_stat {bs : List Value} (hl : gm_look gm_ct cn x = some (1, mi, n, w)) (hM : gm_mL mi = L) (hn : bs.length = n) (hs : (rest.map fun v => v.category).sum ≤ 8) (he : (gm_en1 bs.reverse).length ≤ L) : gm_cal cn (.invokestatic x) (bs ++ rest) h = some (1, mi, bs.reverse, rest) := by
  unfold gm_cal gm_ca1
  dsimp only
  rw [hl]
  dsimp only
  subst hn
  rw [if_pos (by simp), if_pos rfl, List.take_left, List.drop_left, if_pos ⟨by simp, hs, by rw [hM]; exact he⟩]
theorem gc_virt {bs : List Value} {k : Nat} (hl : gm_look gm_ct cn x = some (0, mi, n, w)) (hM : gm_mL mi = L) (hk : (gm_mt[mi]?).map (·.2.2.2.2.2.1) = some k) (hn : bs.length = n) (hs : (rest.map fun v => v.category).sum ≤ 8) (he : (gm_en1 (.ref a :: bs.reverse)).length ≤ L) (hr : gm_rd h a = some (k, vs)) : gm_cal cn (.invokevirtual x) (bs ++ .ref a :: rest) h = some (0, mi, .ref a :: bs.reverse, rest) := by
  unfold gm_cal gm_ca1
  dsimp only
  rw [hl]
  dsimp only
  subst hn
  rw [if_pos (by simp), if_neg (by decide), List.take_left, List.drop_left]
  dsimp only
  rw [if_pos ⟨hs, by rw [hM]; exact he, fun _ => by rw [hr, hk]; rfl⟩]
theorem gc_init {sd : Nat} {bs : List Value} (hl : gm_look gm_ct cn x = some (sd, mi, n, w)) (hM : gm_mL mi = L) (hn : bs.length = n) (hs : (rest.map fun v => v.category).sum ≤ 8) (he : (gm_en1 (.ref a :: bs.reverse)).length ≤ L) (hsd : sd = 2 ∨ sd = 3) : gm_cal cn (.invokespecial x) (bs ++ .ref a :: rest) h = some (sd, mi, .ref a :: bs.reverse, rest) := by
  unfold gm_cal gm_ca1
  dsimp only
  rw [hl]
  dsimp only
  subst hn
  rw [if_pos (by rcases hsd with z | z <;> simp [z]), if_neg (by omega), List.take_left, List.drop_left]
  dsimp only
  rw [if_pos ⟨hs, by rw [hM]; exact he, fun z => by omega⟩]
end CALLS2
