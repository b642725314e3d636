/-! THE PLAIN MACHINE, 2: branches, switches, locals. -/
section GMB
variable {p : Program} {l : Launch} {e : Env} {R : Room} {s : State} {m : MethodId} {args : Array Value} {below : List Frame} {meth : Method} {c : Code} {H : Heap} {locs : List Loc} {cells slots : Nat} {Q : State → Prop}
variable {cc : ByteArray} {pc : Nat} {ls : Array Slot}
theorem gm_br_W (hx : p.tables.exec = Jvm.exec) (hb : c.code = cc) {i : Instr} {st st' : List Value} {t : Bool} {off : Int} {tgt : Nat} (hp : gm_br i st = some (t, off, st')) (hdg : decode cc pc = .ok (i, 3)) (ht : (pc : Int) + off = (tgt : Int))
    (k : W p l e R s m args below meth c H locs cells slots Q (F0 m (if t = true then tgt else pc + 3) ls st')) : W p l e R s m args below meth c H locs cells slots Q (F0 m pc ls st) := by
  unfold gm_br at hp
  split at hp
  case _ => cases hp; exact lv_goto hx hb hdg ht k
  case _ cd off1 x st1 =>
    cases hp
    cases cd
    case eq => exact lv_if_eq hx hb hdg ht (fun h => by rw [if_pos (by simpa [gm_cz] using h)] at k; exact k) (fun h => by rw [if_neg (by simpa [gm_cz] using h)] at k; exact k)
    case ne => exact lv_if_ne hx hb hdg ht (fun h => by rw [if_pos (by simpa [gm_cz] using h)] at k; exact k) (fun h => by rw [if_neg (by simpa [gm_cz] using h)] at k; exact k)
    case lt => exact lv_if_lt hx hb hdg ht (fun h => by rw [if_pos (by simpa [gm_cz] using h)] at k; exact k) (fun h => by rw [if_neg (by simpa [gm_cz] using h)] at k; exact k)
    case ge => exact lv_if_ge hx hb hdg ht (fun h => by rw [if_pos (by simpa [gm_cz] using h)] at k; exact k) (fun h => by rw [if_neg (by simpa [gm_cz] using h)] at k; exact k)
    case gt => exact lv_if_gt hx hb hdg ht (fun h => by rw [if_pos (by simpa [gm_cz] using h)] at k; exact k) (fun h => by rw [if_neg (by simpa [gm_cz] using h)] at k; exact k)
    case le => exact lv_if_le hx hb hdg ht (fun h => by rw [if_pos (by simpa [gm_cz] using h)] at k; exact k) (fun h => by rw [if_neg (by simpa [gm_cz] using h)] at k; exact k)
  case _ cd off1 y x st1 =>
    cases hp
    cases cd
    case eq => exact lv_icmp_eq hx hb hdg ht (fun h => by rw [if_pos (by simpa [gm_cc] using h)] at k; exact k) (fun h => by rw [if_neg (by simpa [gm_cc] using h)] at k; exact k)
    case ne => exact lv_icmp_ne hx hb hdg ht (fun h => by rw [if_pos (by simpa [gm_cc] using h)] at k; exact k) (fun h => by rw [if_neg (by simpa [gm_cc] using h)] at k; exact k)
    case lt => exact lv_icmp_lt hx hb hdg ht (fun h => by rw [if_pos (by simpa [gm_cc] using h)] at k; exact k) (fun h => by rw [if_neg (by simpa [gm_cc] using h)] at k; exact k)
    case ge => exact lv_icmp_ge hx hb hdg ht (fun h => by rw [if_pos (by simpa [gm_cc] using h)] at k; exact k) (fun h => by rw [if_neg (by simpa [gm_cc] using h)] at k; exact k)
    case gt => exact lv_icmp_gt hx hb hdg ht (fun h => by rw [if_pos (by simpa [gm_cc] using h)] at k; exact k) (fun h => by rw [if_neg (by simpa [gm_cc] using h)] at k; exact k)
    case le => exact lv_icmp_le hx hb hdg ht (fun h => by rw [if_pos (by simpa [gm_cc] using h)] at k; exact k) (fun h => by rw [if_neg (by simpa [gm_cc] using h)] at k; exact k)
  case _ => cases hp; exact lv_ifnullN hx hb hdg ht k
  case _ => cases hp; exact lv_ifnull hx hb hdg k
  case _ => cases hp; exact lv_ifnonnullN hx hb hdg k
  case _ => cases hp; exact lv_ifnonnull hx hb hdg ht k
  case _ cd off1 y x st1 =>
    split at hp
    case _ rx ry ex ey =>
      cases hp
      have e1 := gm_rf_eq ex
      have e2 := gm_rf_eq ey
      have hi : x = y ↔ rx = ry := by
        rw [e1, e2]
        constructor
        · intro h
          cases rx <;> cases ry <;> simp [va_rf] at h ⊢ <;> exact h
        · intro h
          rw [h]
      cases cd
      case eq =>
        rw [e1, e2]
        exact lv_acmp_eq hx hb hdg ht (fun h => by rw [if_pos (by simpa [gm_ca] using hi.mpr h)] at k; exact k) (fun h => by rw [if_neg (by simpa [gm_ca] using fun z => h (hi.mp z))] at k; exact k)
      case ne =>
        rw [e1, e2]
        exact lv_acmp_ne hx hb hdg ht (fun h => by rw [if_pos (by simpa [gm_ca] using fun z => h (hi.mp z))] at k; exact k) (fun h => by rw [if_neg (by simpa [gm_ca] using hi.mpr h)] at k; exact k)
    case _ => cases hp
  case _ => cases hp
theorem gm_sw_W (hx : p.tables.exec = Jvm.exec) (hb : c.code = cc) {i : Instr} {st st' : List Value} {off : Int} {tgt len : Nat} (hp : gm_sw i st = some (off, st')) (hdg : decode cc pc = .ok (i, len)) (ht : (pc : Int) + off = (tgt : Int))
    (k : W p l e R s m args below meth c H locs cells slots Q (F0 m tgt ls st')) : W p l e R s m args below meth c H locs cells slots Q (F0 m pc ls st) := by
  unfold gm_sw at hp
  split at hp
  case _ d lo hi offs x st1 =>
    split at hp
    case isTrue h => cases hp; exact lv_tableOut hx hb hdg h ht k
    case isFalse h =>
      split at hp
      case _ o ho => cases hp; exact lv_tableIn hx hb hdg (fun z => h (Or.inl z)) (fun z => h (Or.inr z)) ho ht k
      case _ => cases hp
  case _ d ps x st1 =>
    split at hp
    case isTrue h => cases hp; exact lv_lookup hx hb hdg h rfl ht k
    case isFalse h => cases hp
  case _ => cases hp
end GMB
/-- the locals as the kit's rows have them -/
def gm_as (lv : List Value) : List (Nat × Value) := (List.range lv.length).filterMap (fun i => match lv[i]? with
  | some v => if v = gm_u then none else some (i, v)
  | none => none)
theorem gm_as_mem {lv : List Value} {i : Nat} {v : Value} : (i, v) ∈ gm_as lv ↔ lv[i]? = some v ∧ v ≠ gm_u := by
  unfold gm_as
  rw [List.mem_filterMap]
  constructor
  · rintro ⟨j, hj, h⟩
    cases hv : lv[j]? with
    | none => simp [hv] at h
    | some w =>
      rw [hv] at h
      by_cases hu : w = gm_u
      · simp [hu] at h
      · simp [hu] at h
        obtain ⟨rfl, rfl⟩ := h
        exact ⟨hv, hu⟩
  · rintro ⟨hv, hu⟩
    refine ⟨i, List.mem_range.mpr ?_, by rw [hv]; simp [hu]⟩
    exact (List.getElem?_eq_some_iff.mp hv).1
theorem gm_L.has {ls : Array Slot} {nL : Nat} {lv : List Value} (h : gm_L ls nL lv) : lv_has ls nL (gm_as lv) := by
  refine ⟨h.1, h.2.1, fun q hq => ?_⟩
  obtain ⟨i, v⟩ := q
  obtain ⟨h1, h2⟩ := gm_as_mem.mp hq
  exact h.2.2.2 i v h1 h2
theorem gm_st1_len : ∀ (lv : List Value) (i : Nat) (v : Value), (gm_st1 lv i v).length = lv.length
  | [], _, _ => rfl
  | _ :: _, 0, _ => rfl
  | [_], 1, _ => rfl
  | _ :: _ :: _, 1, _ => rfl
  | a :: r, n + 2, v => by
    have := gm_st1_len r (n + 1) v
    simp [gm_st1, this]
theorem gm_sec_len : ∀ (lv : List Value) (i : Nat), (gm_sec lv i).length = lv.length
  | [], _ => rfl
  | _ :: _, 0 => rfl
  | a :: r, n + 1 => by
    have := gm_sec_len r n
    simp [gm_sec, this]
theorem gm_k_eq {a w : Value} (h : gm_k a = w) (hw : w ≠ gm_u) : a = w ∧ a.category = 1 := by
  cases a <;> simp [gm_k] at h
  all_goals first | (subst h; exact ⟨rfl, rfl⟩) | exact absurd h.symm hw | exact absurd h hw
theorem gm_st1_at : ∀ (lv : List Value) (i : Nat) (v : Value) (j : Nat) (w : Value), (gm_st1 lv i v)[j]? = some w → w ≠ gm_u → (j = i ∧ w = v) ∨ (j ≠ i ∧ lv[j]? = some w ∧ (j + 1 = i → w.category = 1))
  | [], _, _, j, w => by intro h; simp [gm_st1] at h
  | _ :: r, 0, v, j, w => by
    intro h _
    cases j with
    | zero => simp [gm_st1] at h; exact Or.inl ⟨rfl, h.symm⟩
    | succ j => simp [gm_st1] at h; exact Or.inr ⟨by omega, by simpa using h, fun z => by omega⟩
  | [a], 1, v, j, w => by
    intro h hu
    cases j with
    | zero =>
      simp [gm_st1] at h
      obtain ⟨h1, h2⟩ := gm_k_eq h hu
      exact Or.inr ⟨by omega, by simp [h1], fun _ => by rw [← h1]; exact h2⟩
    | succ j => simp [gm_st1] at h
  | a :: b :: r, 1, v, j, w => by
    intro h hu
    match j with
    | 0 =>
      simp [gm_st1] at h
      obtain ⟨h1, h2⟩ := gm_k_eq h hu
      exact Or.inr ⟨by omega, by simp [h1], fun _ => by rw [← h1]; exact h2⟩
    | 1 => simp [gm_st1] at h; exact Or.inl ⟨rfl, h.symm⟩
    | j + 2 => simp [gm_st1] at h; exact Or.inr ⟨by omega, by simpa using h, fun z => by omega⟩
  | a :: r, n + 2, v, j, w => by
    intro h hu
    cases j with
    | zero => simp [gm_st1] at h; exact Or.inr ⟨by omega, by simp [h], fun z => by omega⟩
    | succ j =>
      simp [gm_st1] at h
      rcases gm_st1_at r (n + 1) v j w h hu with ⟨h1, h2⟩ | ⟨h1, h2, h3⟩
      · exact Or.inl ⟨by omega, h2⟩
      · exact Or.inr ⟨by omega, by simpa using h2, fun z => h3 (by omega)⟩
theorem gm_sec_at : ∀ (lv : List Value) (i j : Nat) (w : Value), (gm_sec lv i)[j]? = some w → w ≠ gm_u → j ≠ i ∧ lv[j]? = some w
  | [], _, j, w => by intro h; simp [gm_sec] at h
  | _ :: r, 0, j, w => by
    intro h hu
    cases j with
    | zero => simp [gm_sec] at h; exact absurd h.symm hu
    | succ j => simp [gm_sec] at h; exact ⟨by omega, by simpa using h⟩
  | a :: r, n + 1, j, w => by
    intro h hu
    cases j with
    | zero => simp [gm_sec] at h; exact ⟨by omega, by simp [h]⟩
    | succ j =>
      simp [gm_sec] at h
      obtain ⟨h1, h2⟩ := gm_sec_at r n j w h hu
      exact ⟨by omega, by simpa using h2⟩
theorem gm_L.st1 {ls ls' : Array Slot} {nL : Nat} {lv : List Value} {i : Nat} {v : Value} (h : gm_L ls nL lv)
    (h' : lv_has ls' nL ((i, v) :: (gm_as lv).filter (fun q => !(q.1 == i) && !(q.1 + 1 == i && q.2.category == 2)))) : gm_L ls' nL (gm_st1 lv i v) := by
  refine ⟨h'.1, h'.2.1, by rw [gm_st1_len]; exact h.2.2.1, fun j w hw hu => ?_⟩
  rcases gm_st1_at lv i v j w hw hu with ⟨h1, h2⟩ | ⟨h1, h2, h3⟩
  · subst h1; subst h2
    exact h'.2.2 (j, w) List.mem_cons_self
  · refine h'.2.2 (j, w) (List.mem_cons_of_mem _ (List.mem_filter.mpr ⟨gm_as_mem.mpr ⟨h2, hu⟩, ?_⟩))
    by_cases hji : j + 1 = i
    · have := h3 hji
      simp [h1, this]
    · simp [h1, hji]
theorem gm_L.st2 {ls ls' : Array Slot} {nL : Nat} {lv : List Value} {i : Nat} {v : Value} (h : gm_L ls nL lv)
    (h' : lv_has ls' nL ((i, v) :: (gm_as lv).filter (fun q => !(q.1 == i) && (!(q.1 == i + 1) && !(q.1 + 1 == i && q.2.category == 2))))) : gm_L ls' nL (gm_st2 lv i v) := by
  refine ⟨h'.1, h'.2.1, by rw [gm_st2, gm_sec_len, gm_st1_len]; exact h.2.2.1, fun j w hw hu => ?_⟩
  obtain ⟨h0, hw⟩ := gm_sec_at _ _ _ _ hw hu
  rcases gm_st1_at lv i v j w hw hu with ⟨h1, h2⟩ | ⟨h1, h2, h3⟩
  · subst h1; subst h2
    exact h'.2.2 (j, w) List.mem_cons_self
  · refine h'.2.2 (j, w) (List.mem_cons_of_mem _ (List.mem_filter.mpr ⟨gm_as_mem.mpr ⟨h2, hu⟩, ?_⟩))
    by_cases hji : j + 1 = i
    · have := h3 hji
      simp [h1, h0, this]
    · simp [h1, h0, hji]
