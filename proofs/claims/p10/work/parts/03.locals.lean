/-! THE PLAIN MACHINE, 3: loads and stores of locals. -/
section GML
variable {p : Program} {l : Launch} {e : Env} {R : Room} {s : State} {m : MethodId} {args : Array Value} {below : List Frame} {meth : Method} {c : Code} {H : Heap} {locs : List Loc} {cells slots : Nat} {Q : State → Prop}
variable {cc : ByteArray} {pc nL : Nat} {ls : Array Slot}
theorem gm_loc_W (hx : p.tables.exec = Jvm.exec) (hb : c.code = cc) {i : Instr} {lv lv' st st' : List Value} {len : Nat} (hL : gm_L ls nL lv) (hp : gm_loc i lv st = some (len, lv', st')) (hdg : decode cc pc = .ok (i, len))
    (k : ∀ ls' : Array Slot, gm_L ls' nL lv' → W p l e R s m args below meth c H locs cells slots Q (F0 m (pc + len) ls' st')) : W p l e R s m args below meth c H locs cells slots Q (F0 m pc ls st) := by
  have hld : ∀ {P : Value → Bool} {j n : Nat}, P gm_u = false → gm_ldk P lv j n st = some (len, lv', st') → ∃ v, P v = true ∧ ls[j]? = some (.val v) ∧ n = len ∧ lv = lv' ∧ v :: st = st' := by
    intro P j n hu h
    unfold gm_ldk at h
    split at h
    case _ v hv =>
      split at h
      case isTrue hP =>
        cases h
        refine ⟨v, hP, hL.2.2.2 j v hv (fun z => ?_), rfl, rfl, rfl⟩
        rw [z, hu] at hP
        cases hP
      case isFalse => cases h
    case _ => cases h
  have hst : ∀ {P : Value → Bool} {j n : Nat}, gm_stk P lv j n st = some (len, lv', st') → ∃ v, P v = true ∧ j < nL ∧ n = len ∧ gm_st1 lv j v = lv' ∧ st = v :: st' := by
    intro P j n h
    unfold gm_stk at h
    split at h
    case _ v st1 =>
      split at h
      case isTrue hP =>
        cases h
        exact ⟨v, hP.1, by have := hL.2.2.1; omega, rfl, rfl, rfl⟩
      case isFalse => cases h
    case _ => cases h
  have hH := hL.has
  unfold gm_loc at hp
  split at hp
  case _ j =>
    obtain ⟨v, h1, h2, rfl, rfl, rfl⟩ := hld rfl hp
    cases v <;> simp [gm_isI] at h1
    exact lv_iload hx hb hdg h2 (k _ hL)
  case _ j =>
    obtain ⟨v, h1, h2, rfl, rfl, rfl⟩ := hld rfl hp
    cases v <;> simp [gm_isI] at h1
    exact lv_iload_n hx hb hdg rfl h2 (k _ hL)
  case _ j =>
    obtain ⟨v, h1, h2, rfl, rfl, rfl⟩ := hld rfl hp
    cases v <;> simp [gm_isL] at h1
    exact lv_lload hx hb hdg h2 (k _ hL)
  case _ j =>
    obtain ⟨v, h1, h2, rfl, rfl, rfl⟩ := hld rfl hp
    cases v <;> simp [gm_isL] at h1
    exact lv_lload_n hx hb hdg rfl h2 (k _ hL)
  case _ j =>
    obtain ⟨v, h1, h2, rfl, rfl, rfl⟩ := hld rfl hp
    cases v <;> simp [gm_isA] at h1
    · exact lv_aloadN hx hb hdg h2 (k _ hL)
    · exact lv_aload hx hb hdg h2 (k _ hL)
  case _ j =>
    obtain ⟨v, h1, h2, rfl, rfl, rfl⟩ := hld rfl hp
    cases v <;> simp [gm_isA] at h1
    · exact lv_aload_nN hx hb hdg rfl h2 (k _ hL)
    · exact lv_aload_n hx hb hdg rfl h2 (k _ hL)
  case _ j =>
    obtain ⟨v, h1, h2, rfl, rfl, rfl⟩ := hst hp
    cases v <;> simp [gm_isI] at h1
    exact lv_istore hx hb hdg hH h2 rfl (fun ls' h' => k _ (hL.st1 h'))
  case _ j =>
    obtain ⟨v, h1, h2, rfl, rfl, rfl⟩ := hst hp
    cases v <;> simp [gm_isI] at h1
    exact lv_istore_n hx hb hdg rfl hH h2 rfl (fun ls' h' => k _ (hL.st1 h'))
  case _ j =>
    obtain ⟨v, h1, h2, rfl, rfl, rfl⟩ := hst hp
    cases v <;> simp [gm_isA] at h1
    · exact lv_astoreN hx hb hdg hH h2 rfl (fun ls' h' => k _ (hL.st1 h'))
    · exact lv_astore hx hb hdg hH h2 rfl (fun ls' h' => k _ (hL.st1 h'))
  case _ j =>
    obtain ⟨v, h1, h2, rfl, rfl, rfl⟩ := hst hp
    cases v <;> simp [gm_isA] at h1
    · exact lv_astore_nN hx hb hdg rfl hH h2 rfl (fun ls' h' => k _ (hL.st1 h'))
    · exact lv_astore_n hx hb hdg rfl hH h2 rfl (fun ls' h' => k _ (hL.st1 h'))
  case _ j =>
    split at hp
    case _ x st1 =>
      split at hp
      case isTrue h =>
        cases hp
        exact lv_lstore hx hb hdg hH (by have := hL.2.2.1; omega) rfl (fun ls' h' => k _ (hL.st2 h'))
      case isFalse => cases hp
    case _ => cases hp
  case _ j =>
    split at hp
    case _ x st1 =>
      split at hp
      case isTrue h =>
        cases hp
        exact lv_lstore_n hx hb hdg rfl hH (by have := hL.2.2.1; omega) rfl (fun ls' h' => k _ (hL.st2 h'))
      case isFalse => cases hp
    case _ => cases hp
  case _ j n =>
    split at hp
    case _ x hj =>
      cases hp
      have hm : (j, Value.int x) ∈ gm_as lv := gm_as_mem.mpr ⟨hj, by intro z; cases z⟩
      obtain ⟨q, hq⟩ := List.getElem?_of_mem hm
      have hlt : j < lv.length := (List.getElem?_eq_some_iff.mp hj).1
      exact lv_iinc hx hb hdg hH hq rfl (by have := hL.2.2.1; omega) rfl (fun ls' h' => k _ (hL.st1 h'))
    case _ => cases hp
  case _ => cases hp
end GML
