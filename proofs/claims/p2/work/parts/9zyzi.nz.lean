/-! THE TWO READERS: the class's flags and the reference's. A rest without a byte ends with another fault; what an array of references holds at first is never seen. -/
def gs_eR (e e' : Int32) : Prop := e' = e ∨ (e = -3 ∧ e' = -8)
/-- heaps alike but for values D of arrays of references -/
def gs_hR (D : Nat → Nat → Prop) (H H' : List gs_O) : Prop := H'.length = H.length ∧ ∀ o w w', H[o]? = some w → H'[o]? = some w' → w'.1 = w.1 ∧ w'.2.1 = w.2.1 ∧ w'.2.2.2 = w.2.2.2 ∧ w'.2.2.1.length = w.2.2.1.length ∧ (w.1 ≠ 3 → w'.2.2.1 = w.2.2.1) ∧ ∀ i, ¬ D o i → w'.2.2.1[i]? = w.2.2.1[i]?
def gs_sR (D : Nat → Nat → Prop) (s s' : gs_S) : Prop := s'.1 = s.1 ∧ s'.2.2 = s.2.2 ∧ gs_hR D (gs_hp s) (gs_hp s')
def gs_rR {α : Type} (D : Nat → Nat → Prop) : Except Int32 (α × gs_S) → Except Int32 (α × gs_S) → Prop
  | .ok q, .ok q' => q'.1 = q.1 ∧ gs_sR D q.2 q'.2
  | .error e, .error e' => gs_eR e e'
  | _, _ => False
def gs_mR {α : Type} (D : Nat → Nat → Prop) (m m' : gs_M α) : Prop := ∀ s s', gs_sR D s s' → gs_rR D (m s) (m' s')
section NZ
variable {α β : Type} {D : Nat → Nat → Prop} {K : gs_K} {s s' : gs_S} {rc rc' : gs_M Int32} {d : Nat}
theorem gs_eR.refl {e : Int32} : gs_eR e e := Or.inl rfl
theorem gs_rR.er {e : Int32} : gs_rR (α := α) D (.error e) (.error e) := gs_eR.refl
theorem gs_mR.b {m m' : gs_M α} {k k' : α → gs_M β} (a : gs_mR D m m') (b : ∀ x, gs_mR D (k x) (k' x)) : gs_mR D (gs_b m k) (gs_b m' k') := by
  intro s s' h
  have q := a s s' h
  unfold gs_b
  cases e : m s with
  | error x =>
    rw [e] at q
    cases e' : m' s' with
    | error y => rw [e'] at q; exact q
    | ok y => rw [e'] at q; exact q.elim
  | ok x =>
    rw [e] at q
    cases e' : m' s' with
    | error y => rw [e'] at q; exact q.elim
    | ok y =>
      rw [e'] at q
      dsimp only
      rw [q.1]
      exact b x.1 _ _ q.2
theorem gs_mR.r {x : α} : gs_mR D (gs_r x) (gs_r x) := fun _ _ h => ⟨rfl, h⟩
theorem gs_mR.x {e : Int32} : gs_mR (α := α) D (gs_x e) (gs_x e) := fun _ _ _ => gs_eR.refl
theorem gs_mR.g {k k' : gs_S → gs_M β} (b : ∀ s s', gs_sR D s s' → gs_rR D (k s s) (k' s' s')) : gs_mR D (gs_b gs_g k) (gs_b gs_g k') := fun s s' h => b s s' h
theorem gs_mR.ite {p : Prop} [Decidable p] {m m' k k' : gs_M α} (a : p → gs_mR D m m') (b : ¬ p → gs_mR D k k') : gs_mR D (if p then m else k) (if p then m' else k') := by
  by_cases h : p
  · rw [if_pos h, if_pos h]; exact a h
  · rw [if_neg h, if_neg h]; exact b h
theorem gs_sR.pl (h : gs_sR D s s') : gs_pl s' = gs_pl s := h.1
theorem gs_sR.hs (h : gs_sR D s s') : gs_hs s' = gs_hs s := by unfold gs_hs; rw [h.2.1]
theorem gs_sR.f1 (h : gs_sR D s s') : gs_f1 s' = gs_f1 s := by unfold gs_f1; rw [h.2.1]
theorem gs_sR.size (h : gs_sR D s s') : gs_size s' = gs_size s := by unfold gs_size; rw [h.hs, h.f1]
theorem gs_sR.p {k : Nat} (h : gs_sR D s s') : gs_sR D (gs_p k s) (gs_p k s') := ⟨rfl, h.2.1, h.2.2⟩
theorem gs_hR.refl {H : List gs_O} : gs_hR D H H := ⟨rfl, fun o w w' h h' => by rw [h] at h'; cases h'; exact ⟨rfl, rfl, rfl, rfl, fun _ => rfl, fun _ _ => rfl⟩⟩
theorem gs_sR.refl : gs_sR D s s := ⟨rfl, rfl, gs_hR.refl⟩
theorem gs_hR.at {H H' : List gs_O} {o : Nat} (h : gs_hR D H H') : (H[o]? = none ∧ H'[o]? = none) ∨ ∃ w w', H[o]? = some w ∧ H'[o]? = some w' := by
  rcases Nat.lt_or_ge o H.length with z | z
  · exact Or.inr ⟨_, _, List.getElem?_eq_getElem z, List.getElem?_eq_getElem (by rw [h.1]; exact z)⟩
  · exact Or.inl ⟨List.getElem?_eq_none z, List.getElem?_eq_none (by rw [h.1]; exact z)⟩
theorem gs_sR.sort {v : Int32} (h : gs_sR D s s') : gs_sort s' v = gs_sort s v := by
  unfold gs_sort
  by_cases c : v < 0
  · rw [if_pos c, if_pos c]
  · rw [if_neg c, if_neg c]
    by_cases l : v.toNatClampNeg < (gs_hp s).length
    · have l' : v.toNatClampNeg < (gs_hp s').length := by rw [h.2.2.1]; exact l
      rw [dif_pos l, dif_pos l']
      exact (h.2.2.2 _ _ _ (List.getElem?_eq_getElem l) (List.getElem?_eq_getElem l')).1
    · rw [dif_neg l, dif_neg (by rw [h.2.2.1]; exact l)]
theorem gs_sR.cname {v : Int32} (h : gs_sR D s s') : gs_cname s' v = gs_cname s v := by
  unfold gs_cname
  by_cases c : v < 0
  · rw [if_pos c, if_pos c]
  · rw [if_neg c, if_neg c]
    rcases h.2.2.at (o := v.toNatClampNeg) with ⟨e1, e2⟩ | ⟨w, w', e1, e2⟩
    · rw [e1, e2]
    · rw [e1, e2]
      obtain ⟨h1, h2, h3, h4, h5, h6⟩ := h.2.2.2 _ _ _ e1 e2
      dsimp only
      rw [h1]
      by_cases c1 : w.1 = 1
      · rw [if_pos c1, if_pos c1, h5 (by rw [c1]; decide)]
      · rw [if_neg c1, if_neg c1]
theorem gs_mR_nxt {k : Nat} : gs_mR D (gs_nxt K k) (gs_nxt K k) := by
  intro s s' h
  unfold gs_nxt
  rw [h.pl]
  by_cases c : gs_n K - gs_pl s < k
  · rw [if_pos c, if_pos c]; exact gs_rR.er
  · rw [if_neg c, if_neg c]; exact ⟨rfl, h.p⟩
theorem gs_mR_sgn : ∀ k, gs_mR D (gs_sgn K k) (gs_sgn K k)
  | 0 => gs_mR.r
  | k + 1 => by
    intro s s' h
    show gs_rR D (if gs_n K ≤ gs_pl s then _ else if gs_sb K (gs_pl s) ≤ 0 then _ else _) (if gs_n K ≤ gs_pl s' then _ else if gs_sb K (gs_pl s') ≤ 0 then _ else _)
    rw [h.pl]
    by_cases c : gs_n K ≤ gs_pl s
    · rw [if_pos c, if_pos c]; exact gs_rR.er
    · rw [if_neg c, if_neg c]
      by_cases c2 : gs_sb K (gs_pl s) ≤ 0
      · rw [if_pos c2, if_pos c2]; exact gs_rR.er
      · rw [if_neg c2, if_neg c2]; exact gs_mR_sgn k _ _ h.p
theorem gs_mR_u1 : gs_mR D (gs_u1 K) (gs_u1 K) := gs_mR_nxt.b fun _ => gs_mR.r
theorem gs_mR_u4 : gs_mR D (gs_u4 K) (gs_u4 K) := gs_mR_nxt.b fun _ => gs_mR.r
theorem gs_sgn_ref : ∀ (k : Nat), gs_sgn (gs_ref1 K) k = gs_sgn K k
  | 0 => rfl
  | k + 1 => funext fun s => by
    show (if gs_n K ≤ gs_pl s then .error (-3) else if gs_sb K (gs_pl s) ≤ 0 then .error (-4) else gs_sgn (gs_ref1 K) k (gs_p (gs_pl s + 1) s)) = (if gs_n K ≤ gs_pl s then .error (-3) else if gs_sb K (gs_pl s) ≤ 0 then .error (-4) else gs_sgn K k (gs_p (gs_pl s + 1) s))
    rw [gs_sgn_ref k]
theorem gs_num_ref {a : Nat} : ∀ (k : Nat), gs_num (gs_ref1 K) a k = gs_num K a k
  | 0 => rfl
  | k + 1 => by
    show gs_num (gs_ref1 K) a k <<< 8 ||| gs_ub K (a + k) = gs_num K a k <<< 8 ||| gs_ub K (a + k)
    rw [gs_num_ref k]
theorem gs_nxt_ref {k : Nat} : gs_nxt (gs_ref1 K) k = gs_nxt K k := funext fun s => by
  unfold gs_nxt
  rw [gs_num_ref]
  rfl
theorem gs_prim_ref {t : Int32} : gs_prim (gs_ref1 K) t = gs_prim K t := by
  unfold gs_prim
  rw [gs_nxt_ref]
theorem gs_utf_ref : gs_utf (gs_ref1 K) = gs_utf K := by
  unfold gs_utf
  rw [gs_nxt_ref]
  simp only [gs_sgn_ref]
theorem gs_mR_utf : gs_mR D (gs_utf K) (gs_utf K) := gs_mR_nxt.b fun v => gs_mR.g fun s s' h => by
  have q : gs_mR D (gs_b (gs_sgn K v.toInt32.toNatClampNeg) fun _ => gs_r (gs_pl s)) (gs_b (gs_sgn K v.toInt32.toNatClampNeg) fun _ => gs_r (gs_pl s)) := (gs_mR_sgn _).b fun _ => gs_mR.r
  have := q s s' h
  rw [h.pl]
  exact this
theorem gs_mR_blk : gs_mR D (gs_blk K) (gs_blk K) := gs_mR_u1.b fun t => (gs_mR.ite (fun _ => gs_mR_u1) (fun _ => gs_mR_u4)).b fun n s s' h => by
  show gs_rR D (if n < 0 then _ else if gs_n K - gs_pl s < n.toNatClampNeg then _ else _) (if n < 0 then _ else if gs_n K - gs_pl s' < n.toNatClampNeg then _ else _)
  rw [h.pl]
  by_cases c : n < 0
  · rw [if_pos c, if_pos c]; exact gs_rR.er
  · rw [if_neg c, if_neg c]
    by_cases c2 : gs_n K - gs_pl s < n.toNatClampNeg
    · rw [if_pos c2, if_pos c2]; exact gs_rR.er
    · rw [if_neg c2, if_neg c2]; exact ⟨rfl, h.p⟩
theorem gs_mR_prim {t : Int32} : gs_mR D (gs_prim K t) (gs_prim K t) := gs_mR_nxt.b fun _ => gs_mR.r
theorem gs_mR_room {dp : Nat} : gs_mR D (gs_room dp) (gs_room dp) := by
  intro s s' h
  unfold gs_room
  rw [h.size]
  by_cases c : 8 < dp ∨ 60 < gs_size s
  · rw [if_pos c, if_pos c]; exact gs_rR.er
  · rw [if_neg c, if_neg c]; exact ⟨rfl, h⟩
theorem gs_mR_lim {l : gs_L} {dp : Nat} {n : Int32} : gs_mR D (gs_lim K l dp n) (gs_lim (gs_ref1 K) l dp n) := by
  intro s s' h
  unfold gs_lim
  rw [h.size, h.pl]
  show gs_rR D (if ((gs_own l).bind (gs_cls K)).any gs_bar = true ∨ K.1.1 < nI dp ∨ K.1.2.1 < nI (gs_size s) ∨ K.1.2.2.1 < n ∨ K.1.2.2.2 < nI (gs_pl s) then _ else _) (if ((gs_own l).bind (gs_cls K)).any gs_bar = true ∨ K.1.1 < nI dp ∨ K.1.2.1 < nI (gs_size s) ∨ K.1.2.2.1 < n ∨ K.1.2.2.2 < nI (gs_pl s) then _ else _)
  by_cases c : ((gs_own l).bind (gs_cls K)).any gs_bar = true ∨ K.1.1 < nI dp ∨ K.1.2.1 < nI (gs_size s) ∨ K.1.2.2.1 < n ∨ K.1.2.2.2 < nI (gs_pl s)
  · rw [if_pos c, if_pos c]; exact gs_rR.er
  · rw [if_neg c, if_neg c]; exact ⟨rfl, h⟩
theorem gs_mR_ent : gs_mR D (gs_ent K) (gs_ent K) := gs_mR_u4.b fun i s s' h => by
  show gs_rR D (if i - 8257536 < 0 then _ else if nI (gs_size s) ≤ i - 8257536 then _ else _) (if i - 8257536 < 0 then _ else if nI (gs_size s') ≤ i - 8257536 then _ else _)
  rw [h.size]
  by_cases c : i - 8257536 < 0
  · rw [if_pos c, if_pos c]; exact gs_rR.er
  · rw [if_neg c, if_neg c]
    by_cases c2 : nI (gs_size s) ≤ i - 8257536
    · rw [if_pos c2, if_pos c2]; exact gs_rR.er
    · rw [if_neg c2, if_neg c2]; exact ⟨by rw [h.f1], h⟩
theorem gs_mR_ref : gs_mR D (gs_ref K) (gs_ref K) := gs_mR_ent.b fun e s s' h => by
  show gs_rR D (if ((gs_hs s).getD e (-1, [])).1 = -1 then _ else _) (if ((gs_hs s').getD e (-1, [])).1 = -1 then _ else _)
  rw [h.hs]
  by_cases c : ((gs_hs s).getD e (-1, [])).1 = -1
  · rw [if_pos c, if_pos c]; exact gs_rR.er
  · rw [if_neg c, if_neg c]; exact ⟨rfl, h⟩
theorem gs_hR.app {D' : Nat → Nat → Prop} {H H' : List gs_O} {w w' : gs_O} (h : gs_hR D H H') (hD : ∀ x i, x < H.length → ¬ D' x i → ¬ D x i) (g : w'.1 = w.1 ∧ w'.2.1 = w.2.1 ∧ w'.2.2.2 = w.2.2.2 ∧ w'.2.2.1.length = w.2.2.1.length ∧ (w.1 ≠ 3 → w'.2.2.1 = w.2.2.1) ∧ ∀ i, ¬ D' H.length i → w'.2.2.1[i]? = w.2.2.1[i]?) : gs_hR D' (H ++ [w]) (H' ++ [w']) := by
  refine ⟨by rw [List.length_append, List.length_append, h.1]; rfl, fun o x x' e e' => ?_⟩
  rcases gs_app e with ⟨z, y⟩ | ⟨j, z, y⟩
  · rw [List.getElem?_append_left (by rw [h.1]; exact z)] at e'
    obtain ⟨h1, h2, h3, h4, h5, h6⟩ := h.2 o x x' y e'
    exact ⟨h1, h2, h3, h4, h5, fun i hi => h6 i (hD o i z hi)⟩
  · have j0 : j = 0 := by
      have := (List.getElem?_eq_some_iff.mp y).1
      simp at this
      exact this
    subst j0
    rw [z, Nat.add_zero, ← h.1, List.getElem?_append_right (Nat.le_refl _), Nat.sub_self] at e'
    have e1 : w = x := by simpa using y
    have e2 : w' = x' := by simpa using e'
    subst e1 e2
    rw [z, Nat.add_zero]
    exact g
theorem gs_mR_addT {o : gs_O} : gs_mR D (gs_addT o) (gs_addT o) := by
  intro s s' h
  unfold gs_addT
  rw [h.2.2.1]
  by_cases c : 234 ≤ (gs_hp s).length
  · rw [if_pos c, if_pos c]; exact gs_rR.er
  · rw [if_neg c, if_neg c]
    exact ⟨rfl, h.1, h.2.1, h.2.2.app (fun _ _ _ z => z) ⟨rfl, rfl, rfl, rfl, fun _ => rfl, fun _ _ => rfl⟩⟩
theorem gs_mR_addE {v : Int32} : gs_mR D (gs_addE v) (gs_addE v) := by
  intro s s' h
  unfold gs_addE
  rw [h.hs, h.f1]
  by_cases c : 234 ≤ (gs_hs s).length
  · rw [if_pos c, if_pos c]; exact gs_rR.er
  · rw [if_neg c, if_neg c]; exact ⟨rfl, h.1, rfl, h.2.2⟩
theorem gs_mR_setE {e : Nat} {v : Int32} : gs_mR D (gs_setE e v) (gs_setE e v) := fun s s' h => ⟨rfl, h.1, by show ((gs_hs s').modify e _, gs_f1 s') = ((gs_hs s).modify e _, gs_f1 s); rw [h.hs, h.f1], h.2.2⟩
theorem gs_mR_setD {e : Nat} {L : List gs_L} : gs_mR D (gs_setD e L) (gs_setD e L) := fun s s' h => ⟨rfl, h.1, by show ((gs_hs s').modify e _, gs_f1 s') = ((gs_hs s).modify e _, gs_f1 s); rw [h.hs, h.f1], h.2.2⟩
/-- an object changed on both sides -/
theorem gs_hR.mod {D' : Nat → Nat → Prop} {H H' : List gs_O} {o : Nat} {f : gs_O → gs_O} (h : gs_hR D H H') (hD : ∀ x i, x ≠ o → ¬ D' x i → ¬ D x i) (g : ∀ w w', H[o]? = some w → H'[o]? = some w' → (f w').1 = (f w).1 ∧ (f w').2.1 = (f w).2.1 ∧ (f w').2.2.2 = (f w).2.2.2 ∧ (f w').2.2.1.length = (f w).2.2.1.length ∧ ((f w).1 ≠ 3 → (f w').2.2.1 = (f w).2.2.1) ∧ ∀ i, ¬ D' o i → (f w').2.2.1[i]? = (f w).2.2.1[i]?) : gs_hR D' (H.modify o f) (H'.modify o f) := by
  refine ⟨by rw [List.length_modify, List.length_modify]; exact h.1, fun x w w' e e' => ?_⟩
  rw [List.getElem?_modify] at e e'
  rcases h.at (o := x) with ⟨e1, e2⟩ | ⟨y, y', e1, e2⟩
  · rw [e1] at e; cases e
  · rw [e1] at e
    rw [e2] at e'
    by_cases c : o = x
    · subst c
      simp at e e'
      subst e e'
      exact g y y' e1 e2
    · simp [c] at e e'
      subst e e'
      obtain ⟨h1, h2, h3, h4, h5, h6⟩ := h.2 x y y' e1 e2
      exact ⟨h1, h2, h3, h4, h5, fun i hi => h6 i (hD x i (Ne.symm c) hi)⟩
theorem gs_mR_val {o j : Nat} {v : Int64} : gs_mR D (gs_mod o (fun ob => (ob.1, ob.2.1, ob.2.2.1.set j v, ob.2.2.2))) (gs_mod o (fun ob => (ob.1, ob.2.1, ob.2.2.1.set j v, ob.2.2.2))) := fun s s' h => ⟨rfl, h.1, h.2.1, h.2.2.mod (fun _ _ _ z => z) (fun w w' e e' => by
  obtain ⟨h1, h2, h3, h4, h5, h6⟩ := h.2.2.2 o w w' e e'
  refine ⟨h1, h2, h3, by show (w'.2.2.1.set j v).length = (w.2.2.1.set j v).length; rw [List.length_set, List.length_set, h4], fun z => by show w'.2.2.1.set j v = w.2.2.1.set j v; rw [h5 z], fun i hi => ?_⟩
  show (w'.2.2.1.set j v)[i]? = (w.2.2.1.set j v)[i]?
  rw [List.getElem?_set, List.getElem?_set, h4, h6 i hi])⟩
theorem gs_mR_extra {o : Nat} : gs_mR D (gs_extra K o) (gs_extra K o) := by
  intro s s' h
  unfold gs_extra
  rw [h.pl]
  split
  · exact ⟨rfl, h⟩
  · split
    · exact ⟨rfl, h⟩
    · split
      · exact ⟨rfl, h⟩
      · refine ⟨rfl, h.1, h.2.1, h.2.2.mod (fun _ _ _ z => z) (fun w w' e e' => ?_)⟩
        obtain ⟨h1, h2, h3, h4, h5, h6⟩ := h.2.2.2 o w w' e e'
        exact ⟨h1, h2, by show (w'.2.2.2.1, _) = (w.2.2.2.1, _); rw [h3], h4, h5, h6⟩
theorem gs_up_ref : ∀ (k : Nat) (c : Option Nat), gs_up (gs_ref1 K) k c = gs_up K k c
  | 0, _ => rfl
  | k + 1, none => rfl
  | k + 1, some c => by
    show (match gs_cls K c with
      | none => []
      | some C => (c, C) :: gs_up (gs_ref1 K) k (gs_sup C)) = (match gs_cls K c with
      | none => []
      | some C => (c, C) :: gs_up K k (gs_sup C))
    cases gs_cls K c with
    | none => rfl
    | some C => dsimp only; rw [gs_up_ref k (gs_sup C)]
theorem gs_chain_ref {c : Option Nat} : gs_chain (gs_ref1 K) c = gs_chain K c := gs_up_ref 6 c
theorem gs_slots_ref {c : Option Nat} : gs_slots (gs_ref1 K) c = gs_slots K c := by unfold gs_slots; rw [gs_chain_ref]
theorem gs_first_ref {C : gs_C} : gs_first (gs_ref1 K) C = gs_first K C := gs_slots_ref
theorem gs_slot0_ref {c : Option Nat} : gs_slot0 (gs_ref1 K) c = gs_slot0 K c := by unfold gs_slot0; rw [gs_chain_ref]
theorem gs_inch_ref {c c' : Option Nat} : gs_inch (gs_ref1 K) c c' = gs_inch K c c' := by unfold gs_inch; rw [gs_chain_ref]
theorem gs_slot_ref {tg : Option Nat} {q : Int32 × Int32} : gs_slot (gs_ref1 K) tg q = gs_slot K tg q := by
  unfold gs_slot
  show (match tg.bind (gs_cls K) with
    | none => none
    | some C => match gs_ix (gs_fs C) q.1 with
      | none => none
      | some j => if ((gs_fs C).getD j (0, 0)).2 = q.2 then some (gs_first (gs_ref1 K) C + j) else none) = _
  cases tg.bind (gs_cls K) with
  | none => rfl
  | some C =>
    dsimp only
    rw [gs_first_ref]
    rfl
theorem gs_mR_wrt {tg : Option Nat} {o : Nat} {q : Int32 × Int32} {v : Int64} : gs_mR D (gs_wrt K tg o q v) (gs_wrt (gs_ref1 K) tg o q v) := by
  intro s s' h
  unfold gs_wrt
  rw [gs_slot_ref]
  cases gs_slot K tg q with
  | none => exact ⟨rfl, h⟩
  | some j =>
    dsimp only
    rw [h.sort]
    split
    · exact gs_rR.er
    · exact gs_mR_val s s' h
theorem gs_mR_only {c : Nat} {nm : Int32} : gs_mR D (gs_only c nm) (gs_only c nm) := by
  intro s s' h
  have fe : (gs_hp s').findIdx? (gs_pd c nm) = (gs_hp s).findIdx? (gs_pd c nm) := by
    have key : ∀ i : Nat, ((gs_hp s')[i]?).map (gs_pd c nm) = ((gs_hp s)[i]?).map (gs_pd c nm) := fun i => by
      rcases h.2.2.at (o := i) with ⟨e1, e2⟩ | ⟨w, w', e1, e2⟩
      · rw [e1, e2]
      · obtain ⟨h1, h2, h3, -⟩ := h.2.2.2 i w w' e1 e2
        rw [e1, e2]
        show some (gs_pd c nm w') = some (gs_pd c nm w)
        unfold gs_pd
        rw [h1, h2, h3]
    have lm : (gs_hp s').map (gs_pd c nm) = (gs_hp s).map (gs_pd c nm) := by
      refine List.ext_getElem? (fun i => ?_)
      rw [List.getElem?_map, List.getElem?_map]
      exact key i
    have q : ∀ H : List gs_O, H.findIdx? (gs_pd c nm) = (H.map (gs_pd c nm)).findIdx? id := fun H => by rw [List.findIdx?_map]; rfl
    rw [q, q, lm]
  rw [gs_only_c, gs_only_c, fe]
  cases (gs_hp s).findIdx? (gs_pd c nm) with
  | none => exact gs_mR_addT s s' h
  | some k => exact ⟨rfl, h⟩
theorem gs_hR.mono {D' : Nat → Nat → Prop} {H H' : List gs_O} (h : gs_hR D H H') (hD : ∀ x i, D x i → D' x i) : gs_hR D' H H' := ⟨h.1, fun o w w' e e' => by
  obtain ⟨h1, h2, h3, h4, h5, h6⟩ := h.2 o w w' e e'
  exact ⟨h1, h2, h3, h4, h5, fun i hi => h6 i (fun z => hi (hD o i z))⟩⟩
theorem gs_rR.mono {D' : Nat → Nat → Prop} {q q' : Except Int32 (α × gs_S)} (h : gs_rR D q q') (hD : ∀ x i, D x i → D' x i) : gs_rR D' q q' := by
  match q, q', h with
  | .ok _, .ok _, h => exact ⟨h.1, h.2.1, h.2.2.1, h.2.2.2.mono hD⟩
  | .error _, .error _, h => exact h
/-- the reads one deeper, alike; the reference's, where no byte is left -/
def gs_cR (K : gs_K) (rc rc' : gs_M Int32) : Prop := (∀ D, gs_mR D rc rc') ∧ ∀ s, gs_n K ≤ gs_pl s → rc' s = .error (-3) ∨ rc' s = .error (-8)
theorem gs_mR_text0 : gs_mR D (gs_text K) (gs_text K) := gs_mR_addE.b fun e => gs_mR_utf.b fun a => gs_mR.g fun s s' h => by
  rw [h.pl]
  exact (gs_mR_addT.b fun o => gs_mR_setE.b fun _ => gs_mR.r) s s' h
theorem gs_text_ref : gs_text (gs_ref1 K) = gs_text K := by
  unfold gs_text
  rw [gs_utf_ref]
  rfl
theorem gs_mR_text : gs_mR D (gs_text K) (gs_text (gs_ref1 K)) := by
  rw [gs_text_ref]
  exact gs_mR_text0
theorem gs_mR_rest (hK : gs_rst K = false) (C : gs_cR K rc rc') : ∀ k, gs_mR D (gs_rest K rc k) (gs_rest (gs_ref1 K) rc' k)
  | 0 => gs_mR.r
  | k + 1 => by
    intro s s' h
    show gs_rR D (if gs_n K ≤ gs_pl s then (if gs_rst K = true then gs_b rc (fun _ => gs_rest K rc k) s else .error (-3)) else if gs_sb K (gs_pl s) = 120 then .ok ((), gs_p (gs_pl s + 1) s) else if gs_isB (gs_sb K (gs_pl s)) = true then gs_b (gs_blk K) (fun _ => gs_rest K rc k) s else gs_b rc (fun _ => gs_rest K rc k) s)
      (if gs_n K ≤ gs_pl s' then (if gs_rst (gs_ref1 K) = true then gs_b rc' (fun _ => gs_rest (gs_ref1 K) rc' k) s' else .error (-3)) else if gs_sb K (gs_pl s') = 120 then .ok ((), gs_p (gs_pl s' + 1) s') else if gs_isB (gs_sb K (gs_pl s')) = true then gs_b (gs_blk K) (fun _ => gs_rest (gs_ref1 K) rc' k) s' else gs_b rc' (fun _ => gs_rest (gs_ref1 K) rc' k) s')
    rw [h.pl]
    by_cases c : gs_n K ≤ gs_pl s
    · rw [if_pos c, if_pos c, if_neg (by rw [hK]; decide), if_pos (show gs_rst (gs_ref1 K) = true from rfl)]
      unfold gs_b
      rcases C.2 s' (by rw [h.pl]; exact c) with e | e
      · rw [e]; exact gs_rR.er
      · rw [e]; exact Or.inr ⟨rfl, rfl⟩
    · rw [if_neg c, if_neg c]
      by_cases c2 : gs_sb K (gs_pl s) = 120
      · rw [if_pos c2, if_pos c2]; exact ⟨rfl, h.p⟩
      · rw [if_neg c2, if_neg c2]
        by_cases c3 : gs_isB (gs_sb K (gs_pl s)) = true
        · rw [if_pos c3, if_pos c3]
          exact (gs_mR_blk.b fun _ => gs_mR_rest hK C k) s s' h
        · rw [if_neg c3, if_neg c3]
          exact ((C.1 D).b fun _ => gs_mR_rest hK C k) s s' h
theorem gs_mR_flds (C : gs_cR K rc rc') : ∀ k fs, gs_mR D (gs_flds K rc k fs) (gs_flds (gs_ref1 K) rc' k fs)
  | 0, _ => gs_mR.r
  | k + 1, fs => by
    show gs_mR D (gs_b (gs_u1 K) _) (gs_b (gs_u1 K) _)
    refine gs_mR_u1.b fun b => ?_
    cases gs_types.findIdx? (· == b) with
    | none => exact gs_mR.x
    | some t =>
      dsimp only
      rw [gs_utf_ref]
      refine (gs_mR_utf (K := K)).b fun a => gs_mR.g fun s s' h => ?_
      rw [h.pl]
      refine (gs_mR.ite (fun _ => gs_mR_flds C k _) (fun _ => (C.1 D).b fun v s1 s1' h1 => ?_)) s s' h
      rw [h1.sort]
      by_cases c : gs_sort s1 v = 1
      · rw [if_pos c, if_pos c]; exact gs_mR_flds C k _ s1 s1' h1
      · rw [if_neg c, if_neg c]; exact gs_rR.er
theorem gs_mR_flg {id : Int64} : gs_mR D (gs_flg K id) (gs_flg K id) := gs_mR_u1.b fun fl s s' h => by
  by_cases c : (fl &&& 2 ≠ 0 ∧ fl &&& 4 ≠ 0) ∨ (fl &&& 16 ≠ 0 ∧ id ≠ 0)
  · rw [if_pos c, if_pos c]; exact gs_rR.er
  · rw [if_neg c, if_neg c]; exact ⟨rfl, h⟩
theorem gs_mR_strm {fl : Int32} (C : gs_cR K rc rc') : gs_mR D (gs_strm K rc fl) (gs_strm (gs_ref1 K) rc' fl) := by
  show gs_mR D (gs_b (gs_nxt K 2) _) (gs_b (gs_nxt K 2) _)
  refine gs_mR_nxt.b fun c => gs_mR.ite (fun _ => gs_mR.x) (fun _ => (gs_mR_flds C _ _).b fun fs => gs_mR.ite (fun _ => gs_mR.x) (fun _ => gs_mR.r))
theorem gs_mR_mch {l : gs_L} : gs_mR D (gs_mch K l) (gs_mch (gs_ref1 K) l) := by
  intro s s' h
  show gs_rR D (gs_mch K l s) (gs_mch K l s')
  unfold gs_mch
  by_cases c : gs_fl l &&& 4 ≠ 0
  · rw [if_pos c, if_pos c]; exact gs_rR.er
  · rw [if_neg c, if_neg c]
    by_cases c2 : ((gs_find K (gs_nf l) (gs_nl l)).bind (gs_cls K)).any (fun c => !gs_fits l c) = true
    · rw [if_pos c2, if_pos c2]; exact gs_rR.er
    · rw [if_neg c2, if_neg c2]; exact ⟨rfl, h⟩
theorem gs_mR_dsc1 {up up' : Option (gs_M (List gs_L))} (hK : gs_rst K = false) (C : gs_cR K rc rc') (hu : (up = none ∧ up' = none) ∨ ∃ m m', up = some m ∧ up' = some m' ∧ gs_mR D m m') : gs_mR D (gs_dsc1 K rc up) (gs_dsc1 (gs_ref1 K) rc' up') := by
  show gs_mR D (gs_b (gs_u1 K) _) (gs_b (gs_u1 K) _)
  refine gs_mR_u1.b fun t => gs_mR.ite (fun _ => gs_mR.r) (fun _ => gs_mR.ite (fun _ => ?_) (fun _ => gs_mR.ite (fun _ => gs_mR.x) (fun _ => ?_)))
  · refine gs_mR_ent.b fun e s s' h => ?_
    show gs_rR D (match ((gs_hs s).getD e (-1, [])).2 with
      | [] => .error (-4)
      | l :: L => .ok (l :: L, s)) (match ((gs_hs s').getD e (-1, [])).2 with
      | [] => .error (-4)
      | l :: L => .ok (l :: L, s'))
    rw [h.hs]
    cases ((gs_hs s).getD e (-1, [])).2 with
    | nil => exact gs_rR.er
    | cons l L => exact ⟨rfl, h⟩
  · rcases hu with ⟨e1, e2⟩ | ⟨m, m', e1, e2, hm⟩
    · rw [e1, e2]; exact gs_mR.x
    · rw [e1, e2]
      dsimp only
      rw [gs_utf_ref]
      refine (gs_mR_utf (K := K)).b fun a => gs_mR.g fun s s' h => ?_
      rw [h.pl]
      exact ((gs_mR_nxt (K := K)).b fun id => gs_mR_addE.b fun e => (gs_mR_flg (K := K)).b fun fl => (gs_mR_strm C).b fun fs => (gs_mR_rest hK C 701).b fun _ => hm.b fun L => gs_mR_mch.b fun _ => gs_mR_setD.b fun _ => gs_mR.r) s s' h
theorem gs_mR_desc (hK : gs_rst K = false) (C : gs_cR K rc rc') : ∀ k, gs_mR D (gs_desc K rc k) (gs_desc (gs_ref1 K) rc' k)
  | 0 => gs_mR_dsc1 hK C (Or.inl ⟨rfl, rfl⟩)
  | k + 1 => gs_mR_dsc1 hK C (Or.inr ⟨_, _, rfl, rfl, gs_mR_desc hK C k⟩)
theorem gs_mR_vals {tg : Option Nat} {o : Nat} (C : gs_cR K rc rc') : ∀ fs, gs_mR D (gs_vals K rc tg o fs) (gs_vals (gs_ref1 K) rc' tg o fs)
  | [] => gs_mR.r
  | q :: fs => by
    unfold gs_vals
    rw [gs_prim_ref]
    show gs_mR D (gs_b (if q.2 < 6 then gs_prim K q.2 else gs_b rc fun v => gs_r v.toInt64) _) (gs_b (if q.2 < 6 then gs_prim K q.2 else gs_b rc' fun v => gs_r v.toInt64) _)
    exact (gs_mR.ite (fun _ => gs_mR_prim) (fun _ => (C.1 D).b fun _ => gs_mR.r)).b fun _ => gs_mR_wrt.b fun _ => gs_mR_vals C fs
theorem gs_mR_data {c : Option Nat} {o : Nat} {l : gs_L} (hK : gs_rst K = false) (C : gs_cR K rc rc') : gs_mR D (gs_data K rc c o l) (gs_data (gs_ref1 K) rc' c o l) := by
  unfold gs_data
  rw [gs_inch_ref]
  exact (gs_mR_vals C _).b fun _ => gs_mR.ite (fun _ => gs_mR.r) (fun _ => (gs_mR.ite (fun _ => gs_mR_extra) (fun _ => gs_mR.r)).b fun _ => gs_mR_rest hK C 701)
theorem gs_mR_dats {c : Option Nat} {o : Nat} (hK : gs_rst K = false) (C : gs_cR K rc rc') : ∀ L, gs_mR D (gs_dats K rc c o L) (gs_dats (gs_ref1 K) rc' c o L)
  | [] => gs_mR.r
  | _ :: L => (gs_mR_data hK C).b fun _ => gs_mR_dats hK C L
theorem gs_mR_have {m m' : gs_M (List gs_L)} {f f' : gs_L → List gs_L → gs_M α} (a : gs_mR D m m') (b : ∀ l L, gs_mR D (f l L) (f' l L)) : gs_mR D (gs_have m f) (gs_have m' f') := a.b fun L => by
  cases L with
  | nil => exact gs_mR.x
  | cons l L => exact b l L
/-- an object made on both sides -/
theorem gs_mR_new {D' : Nat → Nat → Prop} {w w' : gs_O} {k k' : Nat → gs_M β} (hs : gs_sR D s s') (hD : ∀ x i, x < (gs_hp s).length → ¬ D' x i → ¬ D x i) (g : w'.1 = w.1 ∧ w'.2.1 = w.2.1 ∧ w'.2.2.2 = w.2.2.2 ∧ w'.2.2.1.length = w.2.2.1.length ∧ (w.1 ≠ 3 → w'.2.2.1 = w.2.2.1) ∧ ∀ i, ¬ D' (gs_hp s).length i → w'.2.2.1[i]? = w.2.2.1[i]?) (b : ∀ s1 s1', gs_sR D' s1 s1' → gs_rR D (k (gs_hp s).length s1) (k' (gs_hp s).length s1')) : gs_rR D (gs_b (gs_addT w) k s) (gs_b (gs_addT w') k' s') := by
  unfold gs_b gs_addT
  rw [hs.2.2.1]
  by_cases c : 234 ≤ (gs_hp s).length
  · rw [if_pos c, if_pos c]; exact gs_rR.er
  · rw [if_neg c, if_neg c]
    exact b _ _ ⟨hs.1, hs.2.1, hs.2.2.app hD g⟩
theorem gs_mR_inst (hK : gs_rst K = false) (C : gs_cR K rc rc') : gs_mR D (gs_inst K rc d) (gs_inst (gs_ref1 K) rc' d) := by
  refine gs_mR_have (gs_mR_desc hK C 8) fun l up => gs_mR_lim.b fun _ => gs_mR.ite (fun _ => gs_mR.x) (fun _ => ?_)
  cases gs_own l with
  | none => exact gs_mR.x
  | some c =>
    show gs_mR D (match gs_cls K c with
      | none => gs_x (-9)
      | some C => _) (match gs_cls K c with
      | none => gs_x (-9)
      | some C => _)
    cases gs_cls K c with
    | none => exact gs_mR.x
    | some Cc =>
      dsimp only
      refine gs_mR.ite (fun _ => gs_mR.x) (fun _ s s' h => ?_)
      rw [gs_slot0_ref]
      refine gs_mR_new (D' := fun x i => D x i ∧ x ≠ (gs_hp s).length) h (fun x i hx z y => z ⟨y, Nat.ne_of_lt hx⟩) ⟨rfl, rfl, rfl, rfl, fun _ => rfl, fun _ _ => rfl⟩ (fun s1 s1' h1 => ?_)
      refine gs_rR.mono (D := fun x i => D x i ∧ x ≠ (gs_hp s).length) ?_ (fun x i z => z.1)
      refine (gs_mR_addE.b fun e => (gs_mR_dats hK C _).b fun _ => gs_mR.g fun s2 s2' h2 => ?_) s1 s1' h1
      have e0 : ((gs_hp s2').getD (gs_hp s).length (0, none, [], 0, 0)).2.2.1.getD 0 0 = ((gs_hp s2).getD (gs_hp s).length (0, none, [], 0, 0)).2.2.1.getD 0 0 := by
        rw [List.getD_eq_getElem?_getD (l := gs_hp s2'), List.getD_eq_getElem?_getD (l := gs_hp s2)]
        rcases h2.2.2.at (o := (gs_hp s).length) with ⟨e1, e2⟩ | ⟨w, w', e1, e2⟩
        · rw [e1, e2]
        · rw [e1, e2]
          show w'.2.2.1.getD 0 0 = w.2.2.1.getD 0 0
          rw [List.getD_eq_getElem?_getD, List.getD_eq_getElem?_getD, (h2.2.2.2 _ _ _ e1 e2).2.2.2.2.2 0 (fun z => z.2 rfl)]
      rw [e0]
      exact (gs_mR.ite (fun _ => gs_mR.x) (fun _ => gs_mR_setE.b fun _ => gs_mR.r)) s2 s2' h2
theorem gs_mR_ints {o : Nat} : ∀ k j, gs_mR D (gs_ints K o k j) (gs_ints K o k j)
  | 0, _ => gs_mR.r
  | k + 1, j => gs_mR_u4.b fun _ => gs_mR_val.b fun _ => gs_mR_ints k (j + 1)
theorem gs_ints_ref {o : Nat} : ∀ k j, gs_ints (gs_ref1 K) o k j = gs_ints K o k j
  | 0, _ => rfl
  | k + 1, j => by
    show gs_b (gs_u4 K) (fun v => gs_b _ fun _ => gs_ints (gs_ref1 K) o k (j + 1)) = gs_b (gs_u4 K) (fun v => gs_b _ fun _ => gs_ints K o k (j + 1))
    rw [gs_ints_ref k (j + 1)]
theorem gs_mR_refs {o : Nat} (C : gs_cR K rc rc') : ∀ k j (s s' : gs_S), gs_sR (fun x i => D x i ∨ (x = o ∧ j ≤ i ∧ i < j + k)) s s' → gs_rR D (gs_refs rc o k j s) (gs_refs rc' o k j s')
  | 0, j, s, s', h => ⟨rfl, h.1, h.2.1, h.2.2.mono (fun x i z => z.elim id (fun y => by omega))⟩
  | k + 1, j, s, s', h => by
    have q := C.1 _ s s' h
    show gs_rR D (gs_b rc _ s) (gs_b rc' _ s')
    unfold gs_b
    cases e : rc s with
    | error x =>
      rw [e] at q
      cases e' : rc' s' with
      | error y => rw [e'] at q; exact q
      | ok y => rw [e'] at q; exact q.elim
    | ok x =>
      rw [e] at q
      cases e' : rc' s' with
      | error y => rw [e'] at q; exact q.elim
      | ok y =>
        rw [e'] at q
        dsimp only
        rw [q.1]
        refine gs_mR_refs C k (j + 1) _ _ ⟨q.2.1, q.2.2.1, q.2.2.2.mod (fun x i hx z y => z (y.elim Or.inl (fun y => absurd y.1 hx))) (fun w w' e e' => ?_)⟩
        obtain ⟨h1, h2, h3, h4, h5, h6⟩ := q.2.2.2.2 o w w' e e'
        refine ⟨h1, h2, h3, by show (w'.2.2.1.set j _).length = (w.2.2.1.set j _).length; rw [List.length_set, List.length_set, h4], fun z => by show w'.2.2.1.set j _ = w.2.2.1.set j _; rw [h5 z], fun i hi => ?_⟩
        show (w'.2.2.1.set j _)[i]? = (w.2.2.1.set j _)[i]?
        rw [List.getElem?_set, List.getElem?_set, h4]
        by_cases c : j = i
        · rw [if_pos c, if_pos c]
        · rw [if_neg c, if_neg c]
          exact h6 i (fun z => hi (z.elim Or.inl (fun y => Or.inr ⟨y.1, by omega, by omega⟩)))
theorem gs_mR_arr (hK : gs_rst K = false) (C : gs_cR K rc rc') : gs_mR D (gs_arr K rc d) (gs_arr (gs_ref1 K) rc' d) := by
  refine gs_mR_have (gs_mR_desc hK C 8) fun l _ => ?_
  show gs_mR D (if gs_spelt K (gs_nf l) (gs_nl l) gs_tI = false ∧ gs_spelt K (gs_nf l) (gs_nl l) gs_tR = false then _ else _) (if gs_spelt K (gs_nf l) (gs_nl l) gs_tI = false ∧ gs_spelt K (gs_nf l) (gs_nl l) gs_tR = false then _ else _)
  refine gs_mR.ite (fun _ => gs_mR.x) (fun _ => ?_)
  show gs_mR D (gs_b (gs_u4 K) _) (gs_b (gs_u4 K) _)
  refine gs_mR_u4.b fun n => gs_mR.ite (fun _ => gs_mR.x) (fun _ => gs_mR_lim.b fun _ s s' h => ?_)
  show gs_rR D (gs_b (gs_addT (if gs_spelt K (gs_nf l) (gs_nl l) gs_tI = true then 2 else 3, none, List.replicate n.toNatClampNeg (if gs_spelt K (gs_nf l) (gs_nl l) gs_tI = true then 0 else gs_fill K), 0, 0)) (fun o => gs_b (gs_addE (nI o)) fun _ => gs_b (if gs_spelt K (gs_nf l) (gs_nl l) gs_tI = true then gs_ints K o n.toNatClampNeg 0 else gs_refs rc o n.toNatClampNeg 0) fun _ => gs_r (nI o)) s)
    (gs_b (gs_addT (if gs_spelt K (gs_nf l) (gs_nl l) gs_tI = true then 2 else 3, none, List.replicate n.toNatClampNeg (if gs_spelt K (gs_nf l) (gs_nl l) gs_tI = true then 0 else -2), 0, 0)) (fun o => gs_b (gs_addE (nI o)) fun _ => gs_b (if gs_spelt K (gs_nf l) (gs_nl l) gs_tI = true then gs_ints (gs_ref1 K) o n.toNatClampNeg 0 else gs_refs rc' o n.toNatClampNeg 0) fun _ => gs_r (nI o)) s')
  by_cases c : gs_spelt K (gs_nf l) (gs_nl l) gs_tI = true
  · simp only [if_pos c]
    refine gs_mR_new (D' := D) h (fun _ _ _ z => z) ⟨rfl, rfl, rfl, rfl, fun _ => rfl, fun _ _ => rfl⟩ (fun s1 s1' h1 => ?_)
    refine (gs_mR_addE.b fun _ => gs_mR.b ?_ fun _ => gs_mR.r) s1 s1' h1
    rw [gs_ints_ref]
    exact gs_mR_ints _ _
  · simp only [if_neg c]
    refine gs_mR_new (D' := fun x i => D x i ∨ (x = (gs_hp s).length ∧ 0 ≤ i ∧ i < 0 + n.toNatClampNeg)) h (fun _ _ _ z y => z (Or.inl y)) ⟨rfl, rfl, rfl, ?_, fun z => absurd rfl z, fun i hi => ?_⟩ (fun s1 s1' h1 => ?_)
    · show (List.replicate _ _).length = (List.replicate _ _).length
      rw [List.length_replicate, List.length_replicate]
    · show (List.replicate _ _)[i]? = (List.replicate _ _)[i]?
      have hi' : n.toNatClampNeg ≤ i := by
        rcases Nat.lt_or_ge i n.toNatClampNeg with z | z
        · exact absurd (Or.inr ⟨rfl, Nat.zero_le _, by omega⟩) hi
        · exact z
      rw [List.getElem?_eq_none (by rw [List.length_replicate]; exact hi'), List.getElem?_eq_none (by rw [List.length_replicate]; exact hi')]
    · have q := gs_mR_addE (v := nI (gs_hp s).length) s1 s1' h1
      unfold gs_b
      cases e : gs_addE (nI (gs_hp s).length) s1 with
      | error x =>
        rw [e] at q
        cases e' : gs_addE (nI (gs_hp s).length) s1' with
        | error y => rw [e'] at q; exact q
        | ok y => rw [e'] at q; exact q.elim
      | ok x =>
        rw [e] at q
        cases e' : gs_addE (nI (gs_hp s).length) s1' with
        | error y => rw [e'] at q; exact q.elim
        | ok y =>
          rw [e'] at q
          dsimp only
          have q2 := gs_mR_refs (D := D) C n.toNatClampNeg 0 x.2 y.2 q.2
          cases f : gs_refs rc (gs_hp s).length n.toNatClampNeg 0 x.2 with
          | error x =>
            rw [f] at q2
            cases f' : gs_refs rc' (gs_hp s).length n.toNatClampNeg 0 y.2 with
            | error y => rw [f'] at q2; exact q2
            | ok y => rw [f'] at q2; exact q2.elim
          | ok x =>
            rw [f] at q2
            cases f' : gs_refs rc' (gs_hp s).length n.toNatClampNeg 0 y.2 with
            | error y => rw [f'] at q2; exact q2.elim
            | ok y => rw [f'] at q2; exact ⟨rfl, q2.2⟩
theorem gs_mR_con1 (hK : gs_rst K = false) (C : gs_cR K rc rc') : gs_mR D (gs_con1 K rc d) (gs_con1 (gs_ref1 K) rc' d) := by
  refine gs_mR_have (gs_mR_desc hK C 8) fun l _ => gs_mR_lim.b fun _ => gs_mR.ite (fun _ => gs_mR.x) (fun _ => ?_)
  cases gs_own l with
  | none => exact gs_mR.x
  | some c =>
    refine gs_mR_addE.b fun e => (C.1 D).b fun v s s' h => ?_
    show gs_rR D (if gs_cname s v < 0 ∨ 26 ≤ gs_cname s v ∨ ((gs_cls K c).elim 0 gs_con >>> (gs_cname s v &&& 31)) &&& 1 = 0 then .error (-6) else gs_b (gs_only c (gs_cname s v)) (fun o => gs_b (gs_setE e (nI o)) fun _ => gs_r (nI o)) s)
      (if gs_cname s' v < 0 ∨ 26 ≤ gs_cname s' v ∨ ((gs_cls K c).elim 0 gs_con >>> (gs_cname s' v &&& 31)) &&& 1 = 0 then .error (-6) else gs_b (gs_only c (gs_cname s' v)) (fun o => gs_b (gs_setE e (nI o)) fun _ => gs_r (nI o)) s')
    rw [h.cname]
    by_cases c1 : gs_cname s v < 0 ∨ 26 ≤ gs_cname s v ∨ ((gs_cls K c).elim 0 gs_con >>> (gs_cname s v &&& 31)) &&& 1 = 0
    · rw [if_pos c1, if_pos c1]; exact gs_rR.er
    · rw [if_neg c1, if_neg c1]
      exact (gs_mR_only.b fun o => gs_mR_setE.b fun _ => gs_mR.r) s s' h
theorem gs_mR_body (hK : gs_rst K = false) (C : gs_cR K rc rc') : gs_mR D (gs_body K rc d) (gs_body (gs_ref1 K) rc' d) := by
  refine gs_mR_room.b fun _ => ?_
  show gs_mR D (gs_b (gs_u1 K) _) (gs_b (gs_u1 K) _)
  refine gs_mR_u1.b fun t => gs_mR.ite (fun _ => gs_mR.r) (fun _ => gs_mR.ite (fun _ => gs_mR_ref) (fun _ => gs_mR.ite (fun _ => ?_) (fun _ => gs_mR.ite (fun _ => gs_mR_inst hK C) (fun _ => gs_mR.ite (fun _ => gs_mR_text) (fun _ => gs_mR.ite (fun _ => gs_mR_arr hK C) (fun _ => gs_mR.ite (fun _ => gs_mR_con1 hK C) (fun _ => gs_mR.ite (fun _ => gs_mR.x) (fun _ => gs_mR.ite (fun _ => gs_mR.x) (fun _ => gs_mR.x)))))))))
  refine gs_mR.b (fun s s' h => ?_) fun _ => (gs_mR_desc hK C 8).b fun _ => gs_mR.r
  rw [h.pl]
  exact ⟨rfl, h.p⟩
theorem gs_body_no (hs : gs_n K ≤ gs_pl s) : gs_body (gs_ref1 K) rc' d s = .error (-3) ∨ gs_body (gs_ref1 K) rc' d s = .error (-8) := by
  unfold gs_body gs_b gs_room
  by_cases c : 8 < d ∨ 60 < gs_size s
  · rw [if_pos c]; exact Or.inr rfl
  · rw [if_neg c]
    dsimp only
    have e : gs_u1 (gs_ref1 K) s = .error (-3) := by
      show gs_b (gs_nxt K 1) _ s = _
      unfold gs_b gs_nxt
      rw [if_pos (by omega)]
    rw [e]
    exact Or.inl rfl
theorem gs_cR_rc (hK : gs_rst K = false) : ∀ k, gs_cR K (gs_rc K k) (gs_rc (gs_ref1 K) k)
  | 0 => ⟨fun _ => gs_mR.x, fun _ _ => Or.inr rfl⟩
  | k + 1 => ⟨fun _ => gs_mR_body hK (gs_cR_rc hK k), fun _ h => gs_body_no h⟩
theorem gs_reset_ref : ∀ (k : Nat) (s : gs_S), gs_reset (gs_ref1 K) k s = gs_reset K k s
  | 0, _ => rfl
  | k + 1, s => by
    show (if gs_pl s < gs_n K ∧ gs_sb K (gs_pl s) = 121 then gs_reset (gs_ref1 K) k (gs_pl s + 1, gs_hp s, gs_hs s, (gs_hs s).length) else .ok ((), s)) = (if gs_pl s < gs_n K ∧ gs_sb K (gs_pl s) = 121 then gs_reset K k (gs_pl s + 1, gs_hp s, gs_hs s, (gs_hs s).length) else .ok ((), s))
    rw [gs_reset_ref k]
theorem gs_sR.eq (h : gs_sR (fun _ _ => False) s s') : s' = s := by
  have e : gs_hp s' = gs_hp s := by
    refine List.ext_getElem? (fun i => ?_)
    rcases h.2.2.at (o := i) with ⟨e1, e2⟩ | ⟨w, w', e1, e2⟩
    · rw [e1, e2]
    · rw [e1, e2]
      obtain ⟨h1, h2, h3, h4, h5, h6⟩ := h.2.2.2 i w w' e1 e2
      have h7 : w'.2.2.1 = w.2.2.1 := List.ext_getElem? (fun i => h6 i id)
      exact congrArg some (Prod.ext h1 (Prod.ext h2 (Prod.ext h7 h3)))
  exact Prod.ext h.1 (Prod.ext e h.2.1)
/-- a read from outside, on both sides: the same, or two faults alike -/
theorem gs_out_two (hK : gs_rst K = false) (s : gs_S) : (∃ q, gs_out K s = .ok q ∧ gs_out (gs_ref1 K) s = .ok q) ∨ ∃ e e', gs_out K s = .error e ∧ gs_out (gs_ref1 K) s = .error e' ∧ gs_eR e e' := by
  have q0 : ∀ s1, gs_rR (fun _ _ => False) (gs_rc K 8 s1) (gs_rc (gs_ref1 K) 8 s1) := fun s1 => (gs_cR_rc hK 8).1 _ s1 s1 gs_sR.refl
  have q : gs_rR (fun _ _ => False) (gs_out K s) (gs_out (gs_ref1 K) s) := by
    show gs_rR _ (gs_b (gs_room 1) (fun _ => gs_b (gs_reset K 701) fun _ => gs_rc K 8) s) (gs_b (gs_room 1) (fun _ => gs_b (gs_reset (gs_ref1 K) 701) fun _ => gs_rc (gs_ref1 K) 8) s)
    rw [show gs_reset (gs_ref1 K) 701 = gs_reset K 701 from funext (gs_reset_ref 701)]
    unfold gs_b
    cases gs_room 1 s with
    | error x => exact gs_rR.er
    | ok x =>
      dsimp only
      cases gs_reset K 701 x.2 with
      | error x => exact gs_rR.er
      | ok y => exact q0 y.2
  cases e : gs_out K s with
  | error x =>
    rw [e] at q
    cases e' : gs_out (gs_ref1 K) s with
    | error y => rw [e'] at q; exact Or.inr ⟨x, y, rfl, rfl, q⟩
    | ok y => rw [e'] at q; exact q.elim
  | ok x =>
    rw [e] at q
    cases e' : gs_out (gs_ref1 K) s with
    | error y => rw [e'] at q; exact q.elim
    | ok y =>
      rw [e'] at q
      exact Or.inl ⟨x, rfl, by rw [show y = x from Prod.ext q.1 q.2.eq]⟩
end NZ
