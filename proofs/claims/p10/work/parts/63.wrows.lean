/-! THE PURE SIDE, 3: a row an instruction, by its family. -/
section ROWS
variable {E : Nat → Value} {d mi pc n ow cn : Nat} {lv st lv' st' : List Value} {h h' : gm_H} {Q : gm_R → gm_H → Prop} {i : Instr} {y : MethodName} {code : ByteArray} {maxL : Nat} {ret : Option FieldType} {hh : List (Nat × Nat × Nat × Nat)}
theorem gw_pure (hM : gm_mt[mi]? = some (y, code, maxL, ret, hh, cn, ow)) (hf : gm_ft mi pc = some (i, n)) (hp : gm_pure i st = some (n, st')) : gm_W E d mi pc lv st h Q ↔ gm_W E d mi (pc + n) lv st' h Q :=
  gw_on (by unfold gm_next; rw [hM, hf]; dsimp only; rw [hp]; simp)
theorem gw_loc (hM : gm_mt[mi]? = some (y, code, maxL, ret, hh, cn, ow)) (hf : gm_ft mi pc = some (i, n)) (h1 : gm_pure i st = none) (hp : gm_loc i lv st = some (n, lv', st')) : gm_W E d mi pc lv st h Q ↔ gm_W E d mi (pc + n) lv' st' h Q :=
  gw_on (by unfold gm_next; rw [hM, hf]; dsimp only; rw [h1, hp]; simp)
theorem gw_br {t : Bool} {off : Int} {tgt : Nat} (hM : gm_mt[mi]? = some (y, code, maxL, ret, hh, cn, ow)) (hf : gm_ft mi pc = some (i, 3)) (h1 : gm_pure i st = none) (h2 : gm_loc i lv st = none) (hp : gm_br i st = some (t, off, st')) (ht : gm_tg pc off = some tgt) :
    gm_W E d mi pc lv st h Q ↔ gm_W E d mi (if t = true then tgt else pc + 3) lv st' h Q :=
  gw_on (by unfold gm_next; rw [hM, hf]; dsimp only; rw [h1, h2, hp]; dsimp only; rw [ht]; simp)
theorem gw_sw {off : Int} {tgt : Nat} (hM : gm_mt[mi]? = some (y, code, maxL, ret, hh, cn, ow)) (hf : gm_ft mi pc = some (i, n)) (h1 : gm_pure i st = none) (h2 : gm_loc i lv st = none) (h3 : gm_br i st = none) (hp : gm_sw i st = some (off, st')) (ht : gm_tg pc off = some tgt) :
    gm_W E d mi pc lv st h Q ↔ gm_W E d mi tgt lv st' h Q :=
  gw_on (by unfold gm_next; rw [hM, hf]; dsimp only; rw [h1, h2, h3, hp]; dsimp only; rw [ht])
theorem gw_rd (hM : gm_mt[mi]? = some (y, code, maxL, ret, hh, cn, ow)) (hf : gm_ft mi pc = some (i, n)) (h1 : gm_pure i st = none) (h2 : gm_loc i lv st = none) (h3 : gm_br i st = none) (h4 : gm_sw i st = none) (hp : gm_rdop E cn i st h = some (n, st')) :
    gm_W E d mi pc lv st h Q ↔ gm_W E d mi (pc + n) lv st' h Q :=
  gw_on (by unfold gm_next; rw [hM, hf]; dsimp only; rw [h1, h2, h3, h4, hp]; simp)
theorem gw_wr (hM : gm_mt[mi]? = some (y, code, maxL, ret, hh, cn, ow)) (hf : gm_ft mi pc = some (i, n)) (h1 : gm_pure i st = none) (h2 : gm_loc i lv st = none) (h3 : gm_br i st = none) (h4 : gm_sw i st = none) (h5 : gm_rdop E cn i st h = none) (hp : gm_wrop cn ow (y.name == "<init>") i st h = some (n, st', h')) :
    gm_W E d mi pc lv st h Q ↔ gm_W E d mi (pc + n) lv st' h' Q :=
  gw_on (by unfold gm_next; rw [hM, hf]; dsimp only; rw [h1, h2, h3, h4, h5, hp]; simp)
theorem gw_nw (hM : gm_mt[mi]? = some (y, code, maxL, ret, hh, cn, ow)) (hf : gm_ft mi pc = some (i, n)) (h1 : gm_pure i st = none) (h2 : gm_loc i lv st = none) (h3 : gm_br i st = none) (h4 : gm_sw i st = none) (h5 : gm_rdop E cn i st h = none) (h6 : gm_wrop cn ow (y.name == "<init>") i st h = none) (hp : gm_nwop cn ow i st h = some (n, st', h')) :
    gm_W E d mi pc lv st h Q ↔ gm_W E d mi (pc + n) lv st' h' Q :=
  gw_on (by unfold gm_next; rw [hM, hf]; dsimp only; rw [h1, h2, h3, h4, h5, h6, hp]; simp)
/-- Object's constructor -/
theorem gw_oi {mi' : Nat} {as rest : List Value} (hM : gm_mt[mi]? = some (y, code, maxL, ret, hh, cn, ow)) (hf : gm_ft mi pc = some (i, 3)) (h1 : gm_pure i st = none) (h2 : gm_loc i lv st = none) (h3 : gm_br i st = none) (h4 : gm_sw i st = none) (h5 : gm_rdop E cn i st h = none) (h6 : gm_wrop cn ow (y.name == "<init>") i st h = none) (h7 : gm_nwop cn ow i st h = none) (hp : gm_cal cn i st h = some (4, mi', as, rest)) :
    gm_W E d mi pc lv st h Q ↔ gm_W E d mi (pc + 3) lv rest h Q :=
  gw_on (by unfold gm_next; rw [hM, hf]; dsimp only; rw [h1, h2, h3, h4, h5, h6, h7, hp]; simp)
theorem gn_call {sd mi' : Nat} {as rest : List Value} (hM : gm_mt[mi]? = some (y, code, maxL, ret, hh, cn, ow)) (hf : gm_ft mi pc = some (i, 3)) (h1 : gm_pure i st = none) (h2 : gm_loc i lv st = none) (h3 : gm_br i st = none) (h4 : gm_sw i st = none) (h5 : gm_rdop E cn i st h = none) (h6 : gm_wrop cn ow (y.name == "<init>") i st h = none) (h7 : gm_nwop cn ow i st h = none) (hp : gm_cal cn i st h = some (sd, mi', as, rest)) (hs : sd ≠ 4) :
    gm_next E mi pc lv st h = some (.inr (.inl (sd, mi', as, rest))) := by
  unfold gm_next; rw [hM, hf]; dsimp only; rw [h1, h2, h3, h4, h5, h6, h7, hp]; simp [hs]
theorem gw_ret {v : Option Value} (hM : gm_mt[mi]? = some (y, code, maxL, ret, hh, cn, ow)) (hf : gm_ft mi pc = some (i, 1)) (h1 : gm_pure i st = none) (h2 : gm_loc i lv st = none) (h3 : gm_br i st = none) (h4 : gm_sw i st = none) (h5 : gm_rdop E cn i st h = none) (h6 : gm_wrop cn ow (y.name == "<init>") i st h = none) (h7 : gm_nwop cn ow i st h = none) (h8 : gm_cal cn i st h = none) (hp : gm_rt ret i st = some v) :
    gm_W E d mi pc lv st h Q ↔ Q (.inl v) h :=
  gw_end (by unfold gm_next; rw [hM, hf]; dsimp only; rw [h1, h2, h3, h4, h5, h6, h7, h8, hp]; simp)
theorem gw_thr (hM : gm_mt[mi]? = some (y, code, maxL, ret, [], cn, ow)) (hf : gm_ft mi pc = some (i, 3)) (h1 : gm_pure i st = none) (h2 : gm_loc i lv st = none) (h3 : gm_br i st = none) (h4 : gm_sw i st = none) (h5 : gm_rdop E cn i st h = none) (h6 : gm_wrop cn ow (y.name == "<init>") i st h = none) (h7 : gm_nwop cn ow i st h = none) (h8 : gm_cal cn i st h = none) (h9 : gm_rt ret i st = none) (hp : gm_thr mi cn pc i = true) (hs : (st.map fun v => v.category).sum ≤ 8) :
    gm_W E d mi pc lv st h Q ↔ Q (.inr h.1) (gm_nw h (7, []) 6) :=
  gw_ex (by unfold gm_next; rw [hM, hf]; dsimp only; rw [h1, h2, h3, h4, h5, h6, h7, h8, h9]; simp [hp, hs])
end ROWS
/-- a field's value -/
theorem gf_get {E : Nat → Value} {cn x ci k w a : Nat} {st vs : List Value} {h : gm_H} {v : Value} (hl : gm_look gm_flt cn x = some (ci, k, w)) (hrd : gm_rd h a = some (ci, vs)) (hv : vs[k]? = some v) : gm_rdop E cn (.getfield x) (.ref a :: st) h = some (3, v :: st) := by
  unfold gm_rdop; dsimp only; rw [hl, hrd]; dsimp only; rw [if_pos rfl, hv]
theorem gf_put {cn ow x ci k w a : Nat} {ini : Bool} {st vs : List Value} {h : gm_H} {v : Value} (hl : gm_look gm_flt cn x = some (ci, k, w)) (hrd : gm_rd h a = some (ci, vs)) (hc : ci < 6 ∧ gm_ko ci = ow) (hk : k < vs.length) (hn : narrow (gm_ty ci k) v = v ∧ fits (gm_ty ci k) v = true) (hf : (gm_T ci k).2.2.2 = false ∨ (ini = true ∧ ci = cn)) :
    gm_wrop cn ow ini (.putfield x) (v :: .ref a :: st) h = some (3, st, gm_wr h a (ci, vs.set k v)) := by
  unfold gm_wrop; dsimp only; rw [hl, hrd]; dsimp only; rw [if_pos ⟨rfl, hc.1, hc.2, hk, hn.1, hn.2, hf⟩]
theorem ga_len {E : Nat → Value} {cn k a : Nat} {st vs : List Value} {h : gm_H} (hrd : gm_rd h a = some (k, vs)) (hk : 100 ≤ k) : gm_rdop E cn .arraylength (.ref a :: st) h = some (1, .int (nI vs.length) :: st) := by
  unfold gm_rdop; dsimp only; rw [hrd]; dsimp only; rw [if_pos hk]
theorem ga_ld {P : Nat → Bool} {k a j : Nat} {st vs : List Value} {h : gm_H} {v : Value} (hrd : gm_rd h a = some (k, vs)) (hk : 100 ≤ k ∧ P (k % 100) = true) (hj : j < 2 ^ 31) (hv : vs[j]? = some v) : gm_al P h a (nI j) st = some (1, v :: st) := by
  unfold gm_al; rw [hrd]; dsimp only; rw [if_pos ⟨hk.1, hk.2, nI_pos hj⟩, nI_clamp hj, hv]
theorem ga_st {t ow k a j : Nat} {st vs : List Value} {h : gm_H} {v : Value} (hrd : gm_rd h a = some (k, vs)) (hk : 100 ≤ k ∧ k % 100 = t ∧ gm_ko k = ow ∧ ow < 3) (hj : j < 2 ^ 31) (hl : j < vs.length) : gm_aw t ow h a (nI j) v st = some (1, st, gm_wr h a (k, vs.set j v)) := by
  unfold gm_aw; rw [hrd]; dsimp only; rw [nI_clamp hj, if_pos ⟨hk.1, hk.2.1, hk.2.2.1, hk.2.2.2, nI_pos hj, hl⟩]
/-! THE PURE SIDE, 3b: branches and calls of the rows. -/
section ROWS2
variable {E : Nat → Value} {d mi a b : Nat} {lv st : List Value} {h : gm_H} {Q : gm_R → gm_H → Prop}
theorem gw_if {P : Prop} [Decidable P] : gm_W E d mi (if decide P = true then a else b) lv st h Q ↔ (if P then gm_W E d mi a lv st h Q else gm_W E d mi b lv st h Q) := by
  by_cases hp : P <;> simp [hp]
theorem gw_ifn {P : Prop} [Decidable P] : gm_W E d mi (if (!decide P) = true then a else b) lv st h Q ↔ (if P then gm_W E d mi b lv st h Q else gm_W E d mi a lv st h Q) := by
  by_cases hp : P <;> simp [hp]
theorem gw_ac {u v : Nat} : gm_W E d mi (if gm_ca .eq (.ref u) (.ref v) = true then a else b) lv st h Q ↔ (if u = v then gm_W E d mi a lv st h Q else gm_W E d mi b lv st h Q) := by
  by_cases hp : u = v <;> simp [hp, gm_ca]
theorem gw_acn {u v : Nat} : gm_W E d mi (if gm_ca .ne (.ref u) (.ref v) = true then a else b) lv st h Q ↔ (if u = v then gm_W E d mi b lv st h Q else gm_W E d mi a lv st h Q) := by
  by_cases hp : u = v <;> simp [hp, gm_ca]
end ROWS2
section ROWS3
variable {E : Nat → Value} {d mi pc n ow cn tgt : Nat} {off : Int} {lv st st' : List Value} {h : gm_H} {Q : gm_R → gm_H → Prop} {i : Instr} {y : MethodName} {code : ByteArray} {maxL : Nat} {ret : Option FieldType} {hh : List (Nat × Nat × Nat × Nat)}
theorem gw_brT (hM : gm_mt[mi]? = some (y, code, maxL, ret, hh, cn, ow)) (hf : gm_ft mi pc = some (i, 3)) (h1 : gm_pure i st = none) (h2 : gm_loc i lv st = none) (hp : gm_br i st = some (true, off, st')) (ht : gm_tg pc off = some tgt) : gm_W E d mi pc lv st h Q ↔ gm_W E d mi tgt lv st' h Q := gw_br hM hf h1 h2 hp ht
theorem gw_brF (hM : gm_mt[mi]? = some (y, code, maxL, ret, hh, cn, ow)) (hf : gm_ft mi pc = some (i, 3)) (h1 : gm_pure i st = none) (h2 : gm_loc i lv st = none) (hp : gm_br i st = some (false, off, st')) (ht : gm_tg pc off = some tgt) : gm_W E d mi pc lv st h Q ↔ gm_W E d mi (pc + 3) lv st' h Q := gw_br hM hf h1 h2 hp ht
end ROWS3
section CALLS2
variable {cn x mi n w a L : Nat} {st rest as vs : List Value} {h : gm_H}
theorem gc_spec {a : Nat} {rest : List Value} (hl : gm_look gm_ct cn x = some (4, mi, 0, w)) (hs : (rest.map fun v => v.category).sum ≤ 8) (he : 1 ≤ gm_mL mi) : gm_cal cn (.invokespecial x) (.ref a :: rest) h = some (4, mi, [.ref a], rest) := by
  unfold gm_cal gm_ca1
  dsimp only
  rw [hl]
  dsimp only
  rw [if_pos (by simp), if_neg (by decide)]
  exact if_pos ⟨hs, he, fun z => by cases z⟩
theorem gc_stat {bs : List Value} (hl : gm_look gm_ct cn x = some (1, mi, n, w)) (hM : gm_mL mi = L) (hn : bs.length = n) (hs : (rest.map fun v => v.category).sum ≤ 8) (he : (gm_en1 bs.reverse).length ≤ L) : gm_cal cn (.invokestatic x) (bs ++ rest) h = some (1, mi, bs.reverse, rest) := by
  unfold gm_cal gm_ca1
  dsimp only
  rw [hl]
  dsimp only
  subst hn
  rw [if_pos (by simp), if_pos rfl, List.take_left, List.drop_left, if_pos ⟨by simp, hs, by rw [hM]; exact he⟩]
theorem gc_virt {bs : List Value} {k : Nat} (hl : gm_look gm_ct cn x = some (0, mi, n, w)) (hM : gm_mL mi = L) (hk : (gm_mt[mi]?).map (·.2.2.2.2.2.1) = some k) (hn : bs.length = n) (hs : (rest.map fun v => v.category).sum ≤ 8) (he : (gm_en1 (.ref a :: bs.reverse)).length ≤ L) (hr : gm_rd h a = some (k, vs)) : gm_cal cn (.invokevirtual x) (bs ++ .ref a :: rest) h = some (0, mi, .ref a :: bs.reverse, rest) := by
  unfold gm_cal gm_ca1
  dsimp only
  rw [hl]
  dsimp only
  subst hn
  rw [if_pos (by simp), if_neg (by decide), List.take_left, List.drop_left]
  dsimp only
  rw [if_pos ⟨hs, by rw [hM]; exact he, fun _ => by rw [hr, hk]; rfl⟩]
theorem gc_init {sd : Nat} {bs : List Value} (hl : gm_look gm_ct cn x = some (sd, mi, n, w)) (hM : gm_mL mi = L) (hn : bs.length = n) (hs : (rest.map fun v => v.category).sum ≤ 8) (he : (gm_en1 (.ref a :: bs.reverse)).length ≤ L) (hsd : sd = 2 ∨ sd = 3) : gm_cal cn (.invokespecial x) (bs ++ .ref a :: rest) h = some (sd, mi, .ref a :: bs.reverse, rest) := by
  unfold gm_cal gm_ca1
  dsimp only
  rw [hl]
  dsimp only
  subst hn
  rw [if_pos (by rcases hsd with z | z <;> simp [z]), if_neg (by omega), List.take_left, List.drop_left]
  dsimp only
  rw [if_pos ⟨hs, by rw [hM]; exact he, fun z => by omega⟩]
end CALLS2
/-- the rows' sides, by views -/
theorem gs_get {E : Nat → Value} {cn x ci k w a : Nat} {st : List Value} {h : gm_H} (hl : gm_look gm_flt cn x = some (ci, k, w)) (hk : gm_kd h a = ci) (hc : ci < 6 ∧ k < gm_N ci) : gm_rdop E cn (.getfield x) (.ref a :: st) h = some (3, gm_fv h a k :: st) := by
  obtain ⟨vs, h1, -, h3, h4⟩ := gm_kd_rd hk (by omega)
  have := h3 hc.1
  exact gf_get hl h1 (by rw [h4]; simp [List.getD, List.getElem?_eq_getElem (show k < vs.length by omega)])
theorem gs_getS {E : Nat → Value} {cn x ci k w a : Nat} {st : List Value} {h : gm_H} (hl : gm_look gm_flt cn x = some (ci, k, w)) (hk : gm_kd h a = ci ∧ k < gm_ln h a) (hc : ci = 6) : gm_rdop E cn (.getfield x) (.ref a :: st) h = some (3, gm_fv h a k :: st) := by
  obtain ⟨vs, h1, h2, h3, h4⟩ := gm_kd_rd hk.1 (by omega)
  exact gf_get hl h1 (by rw [h4]; simp [List.getD, List.getElem?_eq_getElem (show k < vs.length by omega)])
theorem gs_put {cn ow x ci k w a : Nat} {ini : Bool} {st : List Value} {h : gm_H} {v : Value} (hl : gm_look gm_flt cn x = some (ci, k, w)) (hk : gm_kd h a = ci) (h6 : ci < 6 ∧ k < gm_N ci) (hc : ci < 6 ∧ gm_ko ci = ow) (hn : narrow (gm_ty ci k) v = v ∧ fits (gm_ty ci k) v = true) (hf : (gm_T ci k).2.2.2 = false ∨ (ini = true ∧ ci = cn)) :
    gm_wrop cn ow ini (.putfield x) (v :: .ref a :: st) h = some (3, st, gm_sf h a k v) := by
  obtain ⟨vs, h1, -, h3, h4⟩ := gm_kd_rd hk (by omega)
  have := h3 h6.1
  rw [gf_put hl h1 hc (by omega) hn hf]
  unfold gm_sf
  rw [h1]
theorem gs_nb {x : Int32} (hx : x = 0 ∨ x = 1) : narrow .boolean (.int x) = .int x ∧ fits .boolean (.int x) = true := by
  rcases hx with rfl | rfl <;> exact ⟨rfl, rfl⟩
theorem gs_len {E : Nat → Value} {cn a : Nat} {st : List Value} {h : gm_H} (hk : 100 ≤ gm_kd h a ∧ gm_kd h a < 900) : gm_rdop E cn .arraylength (.ref a :: st) h = some (1, .int (nI (gm_ln h a)) :: st) := by
  obtain ⟨vs, h1, h2, -, -⟩ := gm_kd_rd (h := h) (a := a) rfl hk.2
  rw [h2]
  exact ga_len h1 hk.1
theorem gs_ld {P : Nat → Bool} {a j : Nat} {st : List Value} {h : gm_H} (hk : 100 ≤ gm_kd h a ∧ gm_kd h a < 900) (hp : P (gm_kd h a % 100) = true) (hj : j < gm_ln h a) (hl : gm_ln h a < 2 ^ 31) : gm_al P h a (nI j) st = some (1, gm_fv h a j :: st) := by
  obtain ⟨vs, h1, h2, -, h4⟩ := gm_kd_rd (h := h) (a := a) rfl hk.2
  exact ga_ld h1 ⟨hk.1, hp⟩ (by omega) (by rw [h4]; simp [List.getD, List.getElem?_eq_getElem (show j < vs.length by omega)])
theorem gs_st {t ow q a j : Nat} {st : List Value} {h : gm_H} {v : Value} (hk : gm_kd h a = q) (hq : (q < 900 ∧ 100 ≤ q) ∧ q % 100 = t ∧ gm_ko q = ow ∧ ow < 3) (hj : j < gm_ln h a) (hl : gm_ln h a < 2 ^ 31) : gm_aw t ow h a (nI j) v st = some (1, st, gm_sf h a j v) := by
  obtain ⟨vs, h1, h2, -, -⟩ := gm_kd_rd hk hq.1.1
  rw [ga_st h1 ⟨hq.1.2, hq.2.1, hq.2.2.1, hq.2.2.2⟩ (by omega) (by omega)]
  unfold gm_sf
  rw [h1]
theorem gs_bst {cn ow q a j : Nat} {ini : Bool} {st : List Value} {h : gm_H} {x : Int32} (hk : gm_kd h a = q) (hq : (q < 900 ∧ 100 ≤ q) ∧ q % 100 = 2 ∧ gm_ko q = ow ∧ ow < 3) (hj : j < gm_ln h a) (hl : gm_ln h a < 2 ^ 31) : gm_wrop cn ow ini .bastore (.int x :: .int (nI j) :: .ref a :: st) h = some (1, st, gm_sf h a j (.int x.toInt8.toInt32)) := by
  obtain ⟨vs, h1, -, -, -⟩ := gm_kd_rd hk hq.1.1
  unfold gm_wrop
  dsimp only
  have e : gm_isB h a = false := by unfold gm_isB; rw [h1]; dsimp only; rw [hq.2.1]; rfl
  rw [e]
  exact gs_st hk hq hj hl
theorem gs_zst {cn ow q a j : Nat} {ini : Bool} {st : List Value} {h : gm_H} {x : Int32} (hk : gm_kd h a = q) (hq : (q < 900 ∧ 100 ≤ q) ∧ q % 100 = 3 ∧ gm_ko q = ow ∧ ow < 3) (hj : j < gm_ln h a) (hl : gm_ln h a < 2 ^ 31) : gm_wrop cn ow ini .bastore (.int x :: .int (nI j) :: .ref a :: st) h = some (1, st, gm_sf h a j (.int (x &&& 1))) := by
  obtain ⟨vs, h1, -, -, -⟩ := gm_kd_rd hk hq.1.1
  unfold gm_wrop
  dsimp only
  have e : gm_isB h a = true := by unfold gm_isB; rw [h1]; dsimp only; rw [hq.2.1]; rfl
  rw [e]
  exact gs_st hk hq hj hl
theorem gs_ast {cn a b j : Nat} {ini : Bool} {st : List Value} {h : gm_H} (hb : gm_kd h b < 6) (hk : gm_kd h a = 100 + gm_cmp (gm_kd h b) ∧ gm_cmp (gm_kd h b) < 99) (hj : j < gm_ln h a) (hl : gm_ln h a < 2 ^ 31) : gm_wrop cn 1 ini .aastore (.ref b :: .int (nI j) :: .ref a :: st) h = some (1, st, gm_sf h a j (.ref b)) := by
  obtain ⟨vs, h1, -, -, -⟩ := gm_kd_rd (h := h) (a := b) rfl (by omega)
  unfold gm_wrop
  dsimp only
  rw [h1]
  dsimp only
  rw [if_pos ⟨hb, hk.2⟩]
  refine gs_st hk.1 ⟨by omega, by omega, ?_, by omega⟩ hj hl
  unfold gm_ko
  rw [if_neg (by omega), if_neg (by omega), if_neg (by omega)]
  omega
theorem gs_astn {cn a j : Nat} {ini : Bool} {st : List Value} {h : gm_H} (hk : gm_kd h a = 110 ∨ gm_kd h a = 111 ∨ gm_kd h a = 112) (hj : j < gm_ln h a) (hl : gm_ln h a < 2 ^ 31) : gm_wrop cn 1 ini .aastore (.null :: .int (nI j) :: .ref a :: st) h = some (1, st, gm_sf h a j .null) := by
  obtain ⟨vs, h1, -, -, -⟩ := gm_kd_rd (h := h) (a := a) rfl (by omega)
  unfold gm_wrop
  dsimp only
  rw [h1]
  dsimp only
  rw [if_pos (by omega)]
  refine gs_st rfl ⟨by omega, by omega, ?_, by omega⟩ hj hl
  unfold gm_ko
  rw [if_neg (by omega), if_neg (by omega), if_neg (by omega)]
  omega
theorem gs_new {cn ow q n : Nat} {t : ArrayType} {st : List Value} {h : gm_H} (ht : gm_ac t = some q) (hn : n ≤ 60000000) (ho : 1 ≤ ow ∧ ow < 3) : gm_nwop cn ow (.newarray t) (.int (nI n) :: st) h = some (2, .ref h.1 :: st, gm_nw h (100 * ow + q, List.replicate n (defaultValue (gm_at q))) n) := by
  unfold gm_nwop
  dsimp only
  rw [ht]
  dsimp only
  rw [nI_clamp (by omega), if_pos ⟨nI_pos (by omega), hn, ho.1, ho.2⟩]
theorem gs_anew {cn ow x q n w : Nat} {s : String} {st : List Value} {h : gm_H} (ht : gm_look gm_ant cn x = some (q, s, w)) (hn : n ≤ 60000000) (ho : 1 ≤ ow ∧ ow < 3) : gm_nwop cn ow (.anewarray x) (.int (nI n) :: st) h = some (3, .ref h.1 :: st, gm_nw h (100 * ow + q, List.replicate n .null) n) := by
  unfold gm_nwop
  dsimp only
  rw [ht]
  dsimp only
  rw [nI_clamp (by omega), if_pos ⟨nI_pos (by omega), hn, ho.1, ho.2⟩]
theorem gs_virt {cn x mi n w a L k : Nat} {rest bs : List Value} {h : gm_H} (hl : gm_look gm_ct cn x = some (0, mi, n, w)) (hM : gm_mL mi = L) (hk : (gm_mt[mi]?).map (·.2.2.2.2.2.1) = some k) (hn : bs.length = n) (hs : (rest.map fun v => v.category).sum ≤ 8) (he : (gm_en1 (.ref a :: bs.reverse)).length ≤ L) (hr : gm_kd h a = k) (h9 : k < 900) : gm_cal cn (.invokevirtual x) (bs ++ .ref a :: rest) h = some (0, mi, .ref a :: bs.reverse, rest) := by
  obtain ⟨vs, h1, -, -, -⟩ := gm_kd_rd hr h9
  exact gc_virt hl hM hk hn hs he h1
/-- switches -/
theorem gm_tsw {x : Int32} {lo hi : Int} {n : Nat} (hlo : -2147483648 ≤ lo ∧ hi < 2147483648) (hn : hi = lo + n - 1) (hx : ∀ k : Nat, k < n → x ≠ Int32.ofInt (lo + k)) : x.toInt < lo ∨ hi < x.toInt := by
  by_cases h1 : x.toInt < lo
  · exact Or.inl h1
  · refine Or.inr (Classical.byContradiction fun h2 => ?_)
    refine hx (x.toInt - lo).toNat (by omega) ?_
    have e : lo + ((x.toInt - lo).toNat : Int) = x.toInt := by omega
    rw [e]
    simp
theorem gm_lsk {x : Int32} {k : Int32} {i : Int} (hx : ¬ x = k) (hk : k.toInt = i) : (x.toInt = i) = False := by
  refine propext ⟨fun z => hx ?_, False.elim⟩
  rw [← hk] at z
  exact Int32.toInt_inj.mp z
