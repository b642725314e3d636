/-! THE PLAIN MACHINE, 6: reading. -/
theorem gm_flw {q : Nat × Nat × Nat × Nat × Nat} (hq : q ∈ gm_flt) : Cond.fieldLink (gm_cn.getD q.1 "") q.2.1 (gm_T q.2.2.1 q.2.2.2.1).1 (gm_T q.2.2.1 q.2.2.2.1).2.1 (gm_T q.2.2.1 q.2.2.2.1).2.2.1 ∈ gm_gw := gm_gw_mem (gm_flt_ok q hq).1 rfl
section GMR
variable {p : Program} {l : Launch} {e : Env} {R : Room} {s : State} {m : MethodId} {args : Array Value} {below : List Frame} {meth : Method} {c : Code} {H : Heap} {locs : List Loc} {cells slots : Nat} {Q : State → Prop}
variable {cc : ByteArray} {pc : Nat} {ls : Array Slot} {D : va_G} {H0 : Heap} {E : Nat → Value} {h : gm_H}
theorem gm_al_of {P : Nat → Bool} {a : Nat} {j : Int32} {st st' : List Value} {len : Nat} (hp : gm_al P h a j st = some (len, st')) :
    ∃ (k : Nat) (vs : List Value) (v : Value), gm_rd h a = some (k, vs) ∧ 100 ≤ k ∧ P (k % 100) = true ∧ ¬ j < 0 ∧ vs[j.toNatClampNeg]? = some v ∧ len = 1 ∧ st' = v :: st := by
  unfold gm_al at hp
  split at hp
  case _ k vs hc =>
    split at hp
    case isTrue hh =>
      split at hp
      case _ v hv => cases hp; exact ⟨k, vs, v, hc, hh.1, hh.2.1, hh.2.2, hv, rfl, rfl⟩
      case _ => cases hp
    case isFalse => cases hp
  case _ => cases hp
theorem gm_at_mod (k : Nat) : gm_at k = gm_at (k % 100) := by
  unfold gm_at
  rw [Nat.mod_mod]
/-- an array's place -/
theorem gm_el {k : Nat} {vs : List Value} {cell : Cell} {j : Int32} {v : Value} (h1 : gm_arr s k vs cell) (hj : ¬ j < 0) (hv : vs[j.toNatClampNeg]? = some v) :
    s.isArrayOf cell (gm_at k) ∧ cell.vm ≠ .unknown ∧ ¬ (j < 0 ∨ cell.slots.size ≤ j.toNatClampNeg) ∧ cell.slots[j.toNatClampNeg]? = some v := by
  obtain ⟨g1, g2, g3, -⟩ := h1
  have e1 : cell.slots[j.toNatClampNeg]? = some v := g3.1 _ _ hv
  refine ⟨g1, g2, fun z => ?_, e1⟩
  rcases z with z | z
  · exact hj z
  · exact absurd (Array.getElem?_eq_some_iff.mp e1).1 (by omega)
theorem gm_rdop_W (hx : p.tables.exec = Jvm.exec) (hb : c.code = cc) {cn : Nat} (hown : s.vm.findClass (gm_cn.getD cn "") = some m.cls) (hC : gm_Cx D H0 E s) (hR : gm_HR D H0 s h H) {i : Instr} {st st' : List Value} {len : Nat}
    (hp : gm_rdop E cn i st h = some (len, st')) (hdg : decode cc pc = .ok (i, len))
    (k : W p l e R s m args below meth c H locs cells slots Q (F0 m (pc + len) ls st')) : W p l e R s m args below meth c H locs cells slots Q (F0 m pc ls st) := by
  obtain ⟨hts, hK, hZ, hS, -, -⟩ := hC
  obtain ⟨hz1, hz2, hz3, hcell⟩ := hR
  unfold gm_rdop at hp
  split at hp
  case _ x a st1 =>
    split at hp
    case _ ci f w k' vs hlk hrd =>
      split at hp
      case isTrue e =>
        split at hp
        case _ v hv =>
          cases hp
          subst e
          have hm := gm_look_mem hlk
          obtain ⟨-, hle, hkN⟩ := gm_flt_ok _ hm
          have hlink := hts _ (gm_flw hm) args
          obtain ⟨-, hcr, -⟩ := hcell a (k', vs) hrd
          rcases Nat.lt_or_ge k' 6 with h6 | h6
          · obtain ⟨h1, h2⟩ := hcr.1 h6
            refine va_get (D := D) (cl := gm_cl) (ws := [(a, .inr (k', vs))]) hx hb (fun w hw => hts w hw args) (gm_lays_ok k' h6) hown hK ?_ 0 rfl (gm_cl_at k' h6) f hkN hlink (fun _ z => z) hv hdg k
            intro j q hj
            match j, hj with
            | 0, hj => cases hj; exact h1
          · have e6 : k' = 6 := by
              have : k' ≤ 6 := hle
              omega
            subst e6
            obtain ⟨⟨v0, v1, e, g0, g1⟩, -⟩ := hcr.2.1 rfl
            dsimp only at e
            subst e
            match f, hv, hlink with
            | 0, hv, hlink =>
              cases hv
              obtain ⟨cf, kk, fi, fd, cell, r1, r2, r3, r4, r5, -⟩ := g0
              exact W.getf hx hb hown hlink r1 r2 r3 r4 r5 rfl rfl hdg k
            | 1, hv, hlink =>
              cases hv
              obtain ⟨cf, kk, fi, fd, cell, r1, r2, r3, r4, r5, -⟩ := g1
              exact W.getf hx hb hown hlink r1 r2 r3 r4 r5 rfl rfl hdg k
        case _ => cases hp
      case isFalse => cases hp
    case _ => cases hp
  case _ a st1 =>
    split at hp
    case _ kd vs hrd =>
      split at hp
      case isTrue h100 =>
        cases hp
        obtain ⟨-, hcr, -⟩ := hcell a (kd, vs) hrd
        obtain ⟨cell, r1, r2⟩ := hcr.2.2.2 h100
        exact W.alen hx hb r1 r2.1 r2.2.2.1.2 rfl rfl hdg k
      case isFalse => cases hp
    case _ => cases hp
  case _ j a st1 =>
    obtain ⟨kd, vs, v, hrd, h100, hP, hj, hv, rfl, rfl⟩ := gm_al_of hp
    obtain ⟨cell, r1, r2⟩ := (hcell a (kd, vs) hrd).2.1.2.2.2 h100
    obtain ⟨g1, g2, g3, g4⟩ := gm_el r2 hj hv
    have e0 : kd % 100 = 0 := by simpa using hP
    rw [gm_at_mod, e0] at g1
    exact W.iald hx hb r1 g1 g2 g3 g4 rfl rfl hdg k
  case _ j a st1 =>
    obtain ⟨kd, vs, v, hrd, h100, hP, hj, hv, rfl, rfl⟩ := gm_al_of hp
    obtain ⟨cell, r1, r2⟩ := (hcell a (kd, vs) hrd).2.1.2.2.2 h100
    obtain ⟨g1, g2, g3, g4⟩ := gm_el r2 hj hv
    have e0 : kd % 100 = 1 := by simpa using hP
    rw [gm_at_mod, e0] at g1
    exact W.lald hx hb r1 g1 g2 g3 g4 rfl rfl hdg k
  case _ j a st1 =>
    obtain ⟨kd, vs, v, hrd, h100, hP, hj, hv, rfl, rfl⟩ := gm_al_of hp
    obtain ⟨cell, r1, r2⟩ := (hcell a (kd, vs) hrd).2.1.2.2.2 h100
    obtain ⟨g1, g2, g3, g4⟩ := gm_el r2 hj hv
    have e0 : kd % 100 = 2 ∨ kd % 100 = 3 := by simpa using hP
    rw [gm_at_mod] at g1
    rcases e0 with e0 | e0
    · rw [e0] at g1
      exact W.bald hx hb r1 g1 g2 g3 g4 rfl rfl hdg k
    · rw [e0] at g1
      exact W.zald hx hb r1 g1 g2 g3 g4 rfl rfl hdg k
  case _ j a st1 =>
    obtain ⟨kd, vs, v, hrd, h100, hP, hj, hv, rfl, rfl⟩ := gm_al_of hp
    obtain ⟨cell, r1, r2⟩ := (hcell a (kd, vs) hrd).2.1.2.2.2 h100
    obtain ⟨g1, g2, g3, g4⟩ := gm_el r2 hj hv
    have e0 : (kd % 100 = 10 ∨ kd % 100 = 11) ∨ kd % 100 = 12 := by simpa using hP
    have hty : (gm_at kd).isReference = true := by
      rw [gm_at_mod]
      rcases e0 with (e0 | e0) | e0 <;> rw [e0] <;> rfl
    exact W.aald hx hb r1 g1 hty g2 g3 g4 rfl rfl hdg k
  case _ x st1 =>
    split at hp
    case _ q hlk =>
      cases hp
      have hm := gm_look_mem hlk
      obtain ⟨cf, kf, fi, f, a, cell, h1, h2, h3, h4, h5, h6, h7, h8⟩ := hZ _ hm
      have hlink := hts _ (gm_gw_mem (gm_stt_ok _ hm) rfl) args
      have ha : a < H0.size := (Array.getElem?_eq_some_iff.mp h5).1
      exact W.gets hx hb hown hlink h1 h2 h3 h4 (by rw [hz3 a ha]; exact h5) (fun e => by rw [e] at h6; cases h6) h7 rfl hdg k
    case _ => cases hp
  case _ x st1 =>
    split at hp
    case _ q hlk =>
      cases hp
      exact lv_ldc hx hb hown (hts _ (gm_gw_mem (gm_ict_ok _ (gm_look_mem hlk)) rfl) args) hdg k
    case _ =>
      split at hp
      case _ q hlk =>
        cases hp
        obtain ⟨a, e1, e2⟩ := hS _ (gm_look_mem hlk)
        dsimp only at e1
        rw [e1] at k
        exact va_ldcS hx hb hown e2 hdg k
      case _ => cases hp
  case _ x st1 =>
    split at hp
    case _ q hlk =>
      cases hp
      exact lv_ldcw hx hb hown (hts _ (gm_gw_mem (gm_ict_ok _ (gm_look_mem hlk)) rfl) args) hdg k
    case _ =>
      split at hp
      case _ q hlk =>
        cases hp
        obtain ⟨a, e1, e2⟩ := hS _ (gm_look_mem hlk)
        dsimp only at e1
        rw [e1] at k
        intro T hT X
        obtain ⟨t, a1, b1⟩ := k T hT X
        exact ⟨t, X.ldcStringW hx hown (text := q.2) (a := a) e2.1 e2.2 (g := F0 m pc ls st) rfl (by rw [hb]; exact hdg) t a1, b1⟩
      case _ => cases hp
  case _ x st1 =>
    split at hp
    case _ q hlk =>
      cases hp
      exact lv_ldc2 hx hb hown (hts _ (gm_gw_mem (gm_lct_ok _ (gm_look_mem hlk)) rfl) args) hdg k
    case _ => cases hp
  case _ => cases hp
end GMR
