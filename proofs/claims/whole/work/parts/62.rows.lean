/-! THE PURE SIDE, 3: a row an instruction, by its family. -/
section ROWS
variable {E : Nat → Value} {d mi pc n ow cn : Nat} {lv st lv' st' : List Value} {h h' : gm_H} {r : gm_R × gm_H} {i : Instr} {y : MethodName} {code : ByteArray} {maxL : Nat} {ret : Option FieldType} {hh : List (Nat × Nat × Nat × Nat)}
theorem gr_pure (hM : gm_mt[mi]? = some (y, code, maxL, ret, hh, cn, ow)) (hf : gm_ft mi pc = some (i, n)) (hp : gm_pure i st = some (n, st')) : gm_Go E d mi pc lv st h r ↔ gm_Go E d mi (pc + n) lv st' h r :=
  gm_go_on (by unfold gm_next; rw [hM, hf]; dsimp only; rw [hp]; simp)
theorem gr_loc (hM : gm_mt[mi]? = some (y, code, maxL, ret, hh, cn, ow)) (hf : gm_ft mi pc = some (i, n)) (h1 : gm_pure i st = none) (hp : gm_loc i lv st = some (n, lv', st')) : gm_Go E d mi pc lv st h r ↔ gm_Go E d mi (pc + n) lv' st' h r :=
  gm_go_on (by unfold gm_next; rw [hM, hf]; dsimp only; rw [h1, hp]; simp)
theorem gr_br {t : Bool} {off : Int} {tgt : Nat} (hM : gm_mt[mi]? = some (y, code, maxL, ret, hh, cn, ow)) (hf : gm_ft mi pc = some (i, 3)) (h1 : gm_pure i st = none) (h2 : gm_loc i lv st = none) (hp : gm_br i st = some (t, off, st')) (ht : gm_tg pc off = some tgt) :
    gm_Go E d mi pc lv st h r ↔ gm_Go E d mi (if t = true then tgt else pc + 3) lv st' h r :=
  gm_go_on (by unfold gm_next; rw [hM, hf]; dsimp only; rw [h1, h2, hp]; dsimp only; rw [ht]; simp)
theorem gr_sw {off : Int} {tgt : Nat} (hM : gm_mt[mi]? = some (y, code, maxL, ret, hh, cn, ow)) (hf : gm_ft mi pc = some (i, n)) (h1 : gm_pure i st = none) (h2 : gm_loc i lv st = none) (h3 : gm_br i st = none) (hp : gm_sw i st = some (off, st')) (ht : gm_tg pc off = some tgt) :
    gm_Go E d mi pc lv st h r ↔ gm_Go E d mi tgt lv st' h r :=
  gm_go_on (by unfold gm_next; rw [hM, hf]; dsimp only; rw [h1, h2, h3, hp]; dsimp only; rw [ht])
theorem gr_rd (hM : gm_mt[mi]? = some (y, code, maxL, ret, hh, cn, ow)) (hf : gm_ft mi pc = some (i, n)) (h1 : gm_pure i st = none) (h2 : gm_loc i lv st = none) (h3 : gm_br i st = none) (h4 : gm_sw i st = none) (hp : gm_rdop E cn i st h = some (n, st')) :
    gm_Go E d mi pc lv st h r ↔ gm_Go E d mi (pc + n) lv st' h r :=
  gm_go_on (by unfold gm_next; rw [hM, hf]; dsimp only; rw [h1, h2, h3, h4, hp]; simp)
theorem gr_wr (hM : gm_mt[mi]? = some (y, code, maxL, ret, hh, cn, ow)) (hf : gm_ft mi pc = some (i, n)) (h1 : gm_pure i st = none) (h2 : gm_loc i lv st = none) (h3 : gm_br i st = none) (h4 : gm_sw i st = none) (h5 : gm_rdop E cn i st h = none) (hp : gm_wrop cn ow (y.name == "<init>") i st h = some (n, st', h')) :
    gm_Go E d mi pc lv st h r ↔ gm_Go E d mi (pc + n) lv st' h' r :=
  gm_go_on (by unfold gm_next; rw [hM, hf]; dsimp only; rw [h1, h2, h3, h4, h5, hp]; simp)
theorem gr_nw (hM : gm_mt[mi]? = some (y, code, maxL, ret, hh, cn, ow)) (hf : gm_ft mi pc = some (i, n)) (h1 : gm_pure i st = none) (h2 : gm_loc i lv st = none) (h3 : gm_br i st = none) (h4 : gm_sw i st = none) (h5 : gm_rdop E cn i st h = none) (h6 : gm_wrop cn ow (y.name == "<init>") i st h = none) (hp : gm_nwop cn ow i st h = some (n, st', h')) :
    gm_Go E d mi pc lv st h r ↔ gm_Go E d mi (pc + n) lv st' h' r :=
  gm_go_on (by unfold gm_next; rw [hM, hf]; dsimp only; rw [h1, h2, h3, h4, h5, h6, hp]; simp)
/-- Object's constructor -/
theorem gr_oi {mi' : Nat} {as rest : List Value} (hM : gm_mt[mi]? = some (y, code, maxL, ret, hh, cn, ow)) (hf : gm_ft mi pc = some (i, 3)) (h1 : gm_pure i st = none) (h2 : gm_loc i lv st = none) (h3 : gm_br i st = none) (h4 : gm_sw i st = none) (h5 : gm_rdop E cn i st h = none) (h6 : gm_wrop cn ow (y.name == "<init>") i st h = none) (h7 : gm_nwop cn ow i st h = none) (hp : gm_cal cn i st h = some (4, mi', as, rest)) :
    gm_Go E d mi pc lv st h r ↔ gm_Go E d mi (pc + 3) lv rest h r :=
  gm_go_on (by unfold gm_next; rw [hM, hf]; dsimp only; rw [h1, h2, h3, h4, h5, h6, h7, hp]; simp)
theorem gn_call {sd mi' : Nat} {as rest : List Value} (hM : gm_mt[mi]? = some (y, code, maxL, ret, hh, cn, ow)) (hf : gm_ft mi pc = some (i, 3)) (h1 : gm_pure i st = none) (h2 : gm_loc i lv st = none) (h3 : gm_br i st = none) (h4 : gm_sw i st = none) (h5 : gm_rdop E cn i st h = none) (h6 : gm_wrop cn ow (y.name == "<init>") i st h = none) (h7 : gm_nwop cn ow i st h = none) (hp : gm_cal cn i st h = some (sd, mi', as, rest)) (hs : sd ≠ 4) :
    gm_next E mi pc lv st h = some (.inr (.inl (sd, mi', as, rest))) := by
  unfold gm_next; rw [hM, hf]; dsimp only; rw [h1, h2, h3, h4, h5, h6, h7, hp]; simp [hs]
theorem gr_ret {v : Option Value} (hM : gm_mt[mi]? = some (y, code, maxL, ret, hh, cn, ow)) (hf : gm_ft mi pc = some (i, 1)) (h1 : gm_pure i st = none) (h2 : gm_loc i lv st = none) (h3 : gm_br i st = none) (h4 : gm_sw i st = none) (h5 : gm_rdop E cn i st h = none) (h6 : gm_wrop cn ow (y.name == "<init>") i st h = none) (h7 : gm_nwop cn ow i st h = none) (h8 : gm_cal cn i st h = none) (hp : gm_rt ret i st = some v) :
    gm_Go E d mi pc lv st h r ↔ r = (.inl v, h) :=
  gm_go_ret (by unfold gm_next; rw [hM, hf]; dsimp only; rw [h1, h2, h3, h4, h5, h6, h7, h8, hp]; simp)
theorem gr_thr (hM : gm_mt[mi]? = some (y, code, maxL, ret, [], cn, ow)) (hf : gm_ft mi pc = some (i, 3)) (h1 : gm_pure i st = none) (h2 : gm_loc i lv st = none) (h3 : gm_br i st = none) (h4 : gm_sw i st = none) (h5 : gm_rdop E cn i st h = none) (h6 : gm_wrop cn ow (y.name == "<init>") i st h = none) (h7 : gm_nwop cn ow i st h = none) (h8 : gm_cal cn i st h = none) (h9 : gm_rt ret i st = none) (hp : gm_thr mi cn pc i = true) (hs : (st.map fun v => v.category).sum ≤ 8) :
    gm_Go E d mi pc lv st h r ↔ r = (.inr h.1, gm_nw h (7, []) 6) :=
  gm_go_thr (by unfold gm_next; rw [hM, hf]; dsimp only; rw [h1, h2, h3, h4, h5, h6, h7, h8, h9]; simp [hp, hs])
end ROWS
/-- a field's value -/
theorem gf_get {E : Nat → Value} {cn x ci k w a : Nat} {st vs : List Value} {h : gm_H} {v : Value} (hl : gm_look gm_flt cn x = some (ci, k, w)) (hrd : gm_rd h a = some (ci, vs)) (hv : vs[k]? = some v) : gm_rdop E cn (.getfield x) (.ref a :: st) h = some (3, v :: st) := by
  unfold gm_rdop; dsimp only; rw [hl, hrd]; dsimp only; rw [if_pos rfl, hv]
theorem gf_put {cn ow x ci k w a : Nat} {ini : Bool} {st vs : List Value} {h : gm_H} {v : Value} (hl : gm_look gm_flt cn x = some (ci, k, w)) (hrd : gm_rd h a = some (ci, vs)) (hc : ci < 6 ∧ gm_ko ci = ow) (hk : k < vs.length) (hn : narrow (gm_ty ci k) v = v ∧ fits (gm_ty ci k) v = true) (hf : (gm_T ci k).2.2.2 = false ∨ (ini = true ∧ ci = cn)) :
    gm_wrop cn ow ini (.putfield x) (v :: .ref a :: st) h = some (3, st, gm_wr h a (ci, vs.set k v)) := by
  unfold gm_wrop; dsimp only; rw [hl, hrd]; dsimp only; rw [if_pos ⟨rfl, hc.1, hc.2, hk, hn.1, hn.2, hf⟩]
theorem ga_len {E : Nat → Value} {cn k a : Nat} {st vs : List Value} {h : gm_H} (hrd : gm_rd h a = some (k, vs)) (hk : 100 ≤ k) : gm_rdop E cn .arraylength (.ref a :: st) h = some (1, .int (nI vs.length) :: st) := by
  unfold gm_rdop; dsimp only; rw [hrd]; dsimp only; rw [if_pos hk]
theorem ga_ld {P : Nat → Bool} {k a j : Nat} {st vs : List Value} {h : gm_H} {v : Value} (hrd : gm_rd h a = some (k, vs)) (hk : 100 ≤ k ∧ P (k % 100) = true) (hj : j < 2 ^ 31) (hv : vs[j]? = some v) : gm_al P h a (nI j) st = some (1, v :: st) := by
  unfold gm_al; rw [hrd]; dsimp only; rw [if_pos ⟨hk.1, hk.2, nI_pos hj⟩, nI_clamp hj, hv]
theorem ga_st {t ow k a j : Nat} {st vs : List Value} {h : gm_H} {v : Value} (hrd : gm_rd h a = some (k, vs)) (hk : 100 ≤ k ∧ k % 100 = t ∧ gm_ko k = ow ∧ ow < 3) (hj : j < 2 ^ 31) (hl : j < vs.length) : gm_aw t ow h a (nI j) v st = some (1, st, gm_wr h a (k, vs.set j v)) := by
  unfold gm_aw; rw [hrd]; dsimp only; rw [nI_clamp hj, if_pos ⟨hk.1, hk.2.1, hk.2.2.1, hk.2.2.2, nI_pos hj, hl⟩]
