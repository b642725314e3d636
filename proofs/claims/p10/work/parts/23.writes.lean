/-! THE PLAIN MACHINE, 7: writing. -/
theorem gm_HR.wr {D : va_G} {H0 : Heap} {s : State} {h : gm_H} {H H' : Heap} {a : Nat} {c c' : gm_C} (hR : gm_HR D H0 s h H) (hrd : gm_rd h a = some c) (hA : H0.size ≤ a) (hz : H'.size = H.size) (ho : ∀ q : Nat, q ≠ a → H'[q]? = H[q]?) (hc : gm_cr D H0 s a c' H') : gm_HR D H0 s (gm_wr h a c') H' := by
  obtain ⟨h1, h2, h3, h4⟩ := hR
  refine ⟨hz.trans h1, h2, fun q hq => ?_, fun b cb hb => ?_⟩
  · rw [ho q (by omega)]; exact h3 q hq
  · by_cases hba : b = a
    · subst hba
      have e1 : some c' = some cb := by
        rw [← hb]; simp [gm_rd, gm_wr]
      cases e1
      exact ⟨(h4 b c hrd).1, hc, fun _ => hA⟩
    · have e1 : gm_rd h b = some cb := by
        rw [← hb]; simp [gm_rd, gm_wr, hba]
      obtain ⟨g1, g2, g3⟩ := h4 b cb e1
      exact ⟨g1, g2.kept (ho b hba), g3⟩
theorem gm_arr.set {s : State} {k : Nat} {vs : List Value} {cell : Cell} (h : gm_arr s k vs cell) (j : Nat) (v : Value) : gm_arr s k (vs.set j v) (cell.setSlot j v) := by
  obtain ⟨g1, g2, g3, g4⟩ := h
  refine ⟨g1, g2, ⟨fun i w hw => ?_, ?_⟩, fun z => ⟨(g4 z).1, (g4 z).2.1, ?_⟩⟩
  · show (cell.slots.setIfInBounds j v)[i]? = some w
    rw [List.getElem?_set] at hw
    split at hw
    case isTrue e =>
      subst e
      split at hw
      case isTrue hlt =>
        cases hw
        have h1 := g3.1 j vs[j] (List.getElem?_eq_getElem hlt)
        have h2 : j < cell.slots.size := (Array.getElem?_eq_some_iff.mp h1).1
        simp [Array.getElem?_setIfInBounds, h2]
      case isFalse => cases hw
    case isFalse e =>
      have h1 := g3.1 i w hw
      rw [Array.getElem?_setIfInBounds, if_neg e]
      exact h1
  · show (cell.slots.setIfInBounds j v).size.toInt32 = nI (vs.set j v).length
    rw [Array.size_setIfInBounds, List.length_set]
    exact g3.2
  · show (cell.slots.setIfInBounds j v).toList = vs.set j v
    rw [Array.toList_setIfInBounds, (g4 z).2.2]
theorem gm_cr_arr {D : va_G} {H0 : Heap} {U : State} {a k : Nat} {vs : List Value} {H : Heap} {cell : Cell} (hk : 100 ≤ k) (h1 : H[a]? = some cell) (h2 : gm_arr U k vs cell) : gm_cr D H0 U a (k, vs) H :=
  ⟨fun z => absurd (show k < 6 from z) (by omega), fun z => absurd (show k = 6 from z) (by omega), fun z => absurd (show k = 7 from z) (by omega), fun _ => ⟨cell, h1, h2⟩⟩
theorem gm_cr_obj {D : va_G} {H0 : Heap} {U : State} {a k : Nat} {vs : List Value} {H : Heap} (hk : k < 6) (h1 : va_at D gm_cl (a, .inr (k, vs)) H) (h2 : vs.length = gm_N k) : gm_cr D H0 U a (k, vs) H :=
  ⟨fun _ => ⟨h1, h2⟩, fun z => absurd (show k = 6 from z) (by omega), fun z => absurd (show k = 7 from z) (by omega), fun z => absurd (show 100 ≤ k from z) (by omega)⟩
section GMWR
variable {p : Program} {l : Launch} {e : Env} {R : Room} {s : State} {m : MethodId} {args : Array Value} {below : List Frame} {meth : Method} {c : Code} {H : Heap} {locs : List Loc} {cells slots : Nat} {Q : State → Prop}
variable {cc : ByteArray} {pc : Nat} {ls : Array Slot} {D : va_G} {H0 : Heap} {E : Nat → Value} {h : gm_H}
theorem gm_aw_of {t ow a : Nat} {j : Int32} {v : Value} {st st' : List Value} {len : Nat} {h' : gm_H} (hp : gm_aw t ow h a j v st = some (len, st', h')) :
    ∃ (k : Nat) (vs : List Value), gm_rd h a = some (k, vs) ∧ 100 ≤ k ∧ k % 100 = t ∧ gm_ko k < 3 ∧ ¬ j < 0 ∧ j.toNatClampNeg < vs.length ∧ len = 1 ∧ st' = st ∧ h' = gm_wr h a (k, vs.set j.toNatClampNeg v) := by
  unfold gm_aw at hp
  split at hp
  case _ k vs hc =>
    split at hp
    case isTrue hh =>
      cases hp
      obtain ⟨q1, q2, q3, q4, q5, q6⟩ := hh
      exact ⟨k, vs, hc, q1, q2, by omega, q5, q6, rfl, rfl, rfl⟩
    case isFalse => cases hp
  case _ => cases hp
/-- an array's cell for a store, and the heap behind it -/
theorem gm_aw_R (hR : gm_HR D H0 s h H) {a k : Nat} {vs : List Value} {j : Int32} (hrd : gm_rd h a = some (k, vs)) (h100 : 100 ≤ k) (hko : gm_ko k < 3) (hj : ¬ j < 0) (hlt : j.toNatClampNeg < vs.length) :
    ∃ cell : Cell, H[a]? = some cell ∧ s.isArrayOf cell (gm_at k) ∧ cell.vm = .none ∧ va_RA s cell.cls (gm_at k) ∧ ¬ (j < 0 ∨ cell.slots.size ≤ j.toNatClampNeg) ∧ H0.size ≤ a ∧
      ∀ (v : Value) (H' : Heap), H'[a]? = some (cell.setSlot j.toNatClampNeg v) → H'.size = H.size → (∀ q, q ≠ a → H'[q]? = H[q]?) → gm_HR D H0 s (gm_wr h a (k, vs.set j.toNatClampNeg v)) H' := by
  obtain ⟨-, hcr, hA⟩ := hR.2.2.2 a (k, vs) hrd
  obtain ⟨cell, r1, r2⟩ := hcr.2.2.2 h100
  have e1 : cell.slots.size = vs.length := by rw [← Array.length_toList, (r2.2.2.2 hko).2.2]
  refine ⟨cell, r1, r2.1, (r2.2.2.2 hko).1, (r2.2.2.2 hko).2.1, fun z => ?_, hA hko, fun v H' g1 g2 g3 => ?_⟩
  · rcases z with z | z
    · exact hj z
    · rw [e1] at z; omega
  · exact hR.wr hrd (hA hko) g2 g3 (gm_cr_arr h100 g1 (r2.set _ _))
theorem gm_locs {a i : Nat} (hl : ∀ q ∈ locs, H0.size ≤ q.base) (ha : H0.size ≤ a) : ∀ q ∈ locs ++ [⟨a, i⟩], H0.size ≤ q.base := by
  intro q hq
  rcases List.mem_append.mp hq with z | z
  · exact hl q z
  · rw [List.mem_singleton] at z; subst z; exact ha
theorem gm_wrop_W (hx : p.tables.exec = Jvm.exec) (hb : c.code = cc) {cn ow : Nat} {ini : Bool} (hini : ini = true → meth.name = "<init>") (hown : s.vm.findClass (gm_cn.getD cn "") = some m.cls) (hC : gm_Cx D H0 E s) (hR : gm_HR D H0 s h H) (hlo : ∀ q ∈ locs, H0.size ≤ q.base) {i : Instr} {st st' : List Value} {len : Nat} {h' : gm_H}
    (hp : gm_wrop cn ow ini i st h = some (len, st', h')) (how : ow < 3) (hdg : decode cc pc = .ok (i, len))
    (k : ∀ (H' : Heap) (locs' : List Loc), gm_HR D H0 s h' H' → (∀ q ∈ locs', H0.size ≤ q.base) → W p l e R s m args below meth c H' locs' cells slots Q (F0 m (pc + len) ls st')) : W p l e R s m args below meth c H locs cells slots Q (F0 m pc ls st) := by
  obtain ⟨hts, hK, -, -, -, -⟩ := hC
  unfold gm_wrop at hp
  split at hp
  case _ x v a st1 =>
    split at hp
    case _ ci f w k' vs hlk hrd =>
      split at hp
      case isTrue hh =>
        obtain ⟨rfl, h6, hko, hfl, hn, hfit, hfin⟩ := hh
        cases hp
        have hm := gm_look_mem hlk
        obtain ⟨-, -, hkN⟩ := gm_flt_ok _ hm
        have hlink := hts _ (gm_flw hm) args
        obtain ⟨-, hcr, hA⟩ := hR.2.2.2 a (k', vs) hrd
        have hA := hA (by show gm_ko k' < 3; omega)
        obtain ⟨⟨r, hr1, cell, q1, q2, q3, q4⟩, hlen⟩ := hcr.1 h6
        have hc := gm_cl_at k' h6
        have hr : r = (gm_cn.getD k' "", gm_T k', gm_N k') := Option.some.inj (hr1.symm.trans hc)
        subst hr
        have hin := gm_lays_ok k' h6
        have hts' : ∀ w ∈ gm_gw, w.before args s = true := fun w hw => hts w hw args
        have hap := va_apart (own := gm_cn.getD cn "") (D := D) (cl := gm_cl) hts' hin (gm_ty k') (gm_tys_ok k' h6) (gm_nms_ok k' h6) hK hc
        obtain ⟨hS, hfc, kC, hkC, hkind⟩ := hK.1 k' _ hc
        obtain ⟨cf, kf, fi, fd, hi, hsl⟩ := hS f hkN
        have hst := (u_facts hfc hkC (u_lays hts' hin hkN) hi).1
        have hlay := hts' _ (hin _ (u_in_lay hkN))
        have hd := gm_tys_ok k' h6 f hkN
        have go : ∀ H' : Heap, H'[a]? = some (cell.setSlot fd.slot v) → H'.size = H.size → (∀ q, q ≠ a → H'[q]? = H[q]?) → W p l e R s m args below meth c H' (locs ++ [⟨a, fd.slot⟩]) cells slots Q (F0 m (pc + 3) ls st') := by
          intro H' e1 e2 e3
          rw [hsl] at e1 ⊢
          refine k H' _ (hR.wr hrd hA e2 e3 (gm_cr_obj h6 ⟨_, hc, t_OB.to (V := updV (vp_V vs) f v) ⟨_, e1, q2, q3, t_set q4 hap hkN v⟩ (fun j _ => vp_updV_set hfl v j)⟩ (by rw [List.length_set]; exact hlen))) (gm_locs hlo hA)
        by_cases hf : (gm_T k' f).2.2.2 = false
        · unfold u_lay at hlay
          rw [if_neg (by rw [hf]; decide)] at hlay
          have h6 := u_store hfc hkC hkind hlay hi hd hn hfit
          exact W.putK hx hb (f := fd) ⟨hown, hlink, ⟨_, _, _, hi⟩, hst⟩ (by rw [q2]; exact h6) q1 q3 (by rw [hsl]; exact k2_hasslot (q4 f hkN)) rfl rfl hdg go
        · have hf2 : (gm_T k' f).2.2.2 = true := by simpa using hf
          obtain ⟨hi1, hi2⟩ := hfin.resolve_left hf
          unfold u_lay at hlay
          rw [if_pos hf2] at hlay
          have hdecl : (gm_T k' f).1 = gm_cn.getD cn "" := by rw [← hi2]; exact gm_own_ok k' h6 f hkN
          have hcf : m.cls = cf := by
            obtain ⟨_, _, c', _, _, _, -, -, hf', -, -, -, hown2, -⟩ := Cond.laysFinal_spec hlay
            have e1 : c' = cf := by have := hi.symm.trans hf'; simp at this; exact this.1.symm
            rw [hdecl] at hown2
            rw [← e1]; exact Option.some.inj (hown.symm.trans hown2)
          have h6 := u_fits hfc hkC hkind (Or.inr hlay) hi hd hn hfit
          exact W.putFinK hx hb hown hlink hi hst hcf (hini hi1) (by rw [q2]; exact h6) q1 q3 (by rw [hsl]; exact k2_hasslot (q4 f hkN)) rfl rfl hdg go
      case isFalse => cases hp
    case _ => cases hp
  case _ x j a st1 =>
    obtain ⟨kd, vs, hrd, h100, hm, hko, hj, hlt, rfl, rfl, rfl⟩ := gm_aw_of hp
    obtain ⟨cell, r1, r2, r3, r4, r5, r6, r7⟩ := gm_aw_R hR hrd h100 hko hj hlt
    rw [gm_at_mod, hm] at r2
    exact W.iast hx hb r1 r2 (by rw [r3]; exact fun z => by cases z) r5 rfl rfl hdg (fun H' e1 e2 e3 => k H' _ (r7 _ H' e1 e2 e3) (gm_locs hlo r6))
  case _ x j a st1 =>
    obtain ⟨kd, vs, hrd, h100, hm, hko, hj, hlt, rfl, rfl, rfl⟩ := gm_aw_of hp
    obtain ⟨cell, r1, r2, r3, r4, r5, r6, r7⟩ := gm_aw_R hR hrd h100 hko hj hlt
    rw [gm_at_mod, hm] at r2
    exact W.last hx hb r1 r2 (by rw [r3]; exact fun z => by cases z) r5 rfl rfl hdg (fun H' e1 e2 e3 => k H' _ (r7 _ H' e1 e2 e3) (gm_locs hlo r6))
  case _ x j a st1 =>
    split at hp
    case isTrue =>
      obtain ⟨kd, vs, hrd, h100, hm, hko, hj, hlt, rfl, rfl, rfl⟩ := gm_aw_of hp
      obtain ⟨cell, r1, r2, r3, r4, r5, r6, r7⟩ := gm_aw_R hR hrd h100 hko hj hlt
      rw [gm_at_mod, hm] at r2
      exact W.zast hx hb r1 r2 (by rw [r3]; exact fun z => by cases z) r5 rfl rfl hdg (fun H' e1 e2 e3 => k H' _ (r7 _ H' e1 e2 e3) (gm_locs hlo r6))
    case isFalse =>
      obtain ⟨kd, vs, hrd, h100, hm, hko, hj, hlt, rfl, rfl, rfl⟩ := gm_aw_of hp
      obtain ⟨cell, r1, r2, r3, r4, r5, r6, r7⟩ := gm_aw_R hR hrd h100 hko hj hlt
      rw [gm_at_mod, hm] at r2
      exact W.bast hx hb r1 r2 (by rw [r3]; exact fun z => by cases z) r5 rfl rfl hdg (fun H' e1 e2 e3 => k H' _ (r7 _ H' e1 e2 e3) (gm_locs hlo r6))
  case _ j a st1 =>
    split at hp
    case _ k0 vs0 hrd0 =>
      split at hp
      case isTrue hq =>
        obtain ⟨kd, vs, hrd, h100, hm, hko, hj, hlt, rfl, rfl, rfl⟩ := gm_aw_of hp
        obtain ⟨cell, r1, r2, r3, r4, r5, r6, r7⟩ := gm_aw_R hR hrd h100 hko hj hlt
        have hC : ∃ C : String, gm_at kd = .object C := by
          rw [gm_at_mod, hm]
          rcases (show k0 % 100 = 10 ∨ k0 % 100 = 11 ∨ k0 % 100 = 12 by omega) with z | z | z <;> rw [z] <;> exact ⟨_, rfl⟩
        obtain ⟨C, hC⟩ := hC
        rw [hC] at r2
        exact va_WaastN hx hb r1 r2 (by rw [r3]; exact fun z => by cases z) r5 rfl rfl hdg (fun H' e1 e2 e3 => k H' _ (r7 _ H' e1 e2 e3) (gm_locs hlo r6))
      case isFalse => cases hp
    case _ => cases hp
  case _ b j a st1 =>
    split at hp
    case _ kb vb hrb =>
      split at hp
      case isTrue hq =>
        obtain ⟨kd, vs, hrd, h100, hm, hko, hj, hlt, rfl, rfl, rfl⟩ := gm_aw_of hp
        obtain ⟨cell, r1, r2, r3, r4, r5, r6, r7⟩ := gm_aw_R hR hrd h100 hko hj hlt
        obtain ⟨hq6, hq9⟩ := hq
        have hC : gm_at kd = .object (gm_cn.getD kb "") := by
          rw [gm_at_mod, hm]
          unfold gm_cmp at hq9 ⊢
          by_cases z3 : kb = 3
          · subst z3; rfl
          · by_cases z4 : kb = 4
            · subst z4; rfl
            · by_cases z1 : kb = 1
              · subst z1; rfl
              · simp [z3, z4, z1] at hq9
        obtain ⟨⟨r, hr1, cellV, g1, g2, g3, -⟩, -⟩ := (hR.2.2.2 b (kb, vb) hrb).2.1.1 hq6
        have hcls := (hK.1 kb _ (gm_cl_at kb hq6)).2
        rw [hC] at r4
        obtain ⟨kA, comp, k1, k2, k3, -⟩ := r4
        have hcomp : comp = D.1 kb := Option.some.inj (k3.symm.trans hcls.1)
        subst hcomp
        obtain ⟨kC, hkC, -⟩ := hcls.2
        exact W.aast hx hb r1 (fun q z => by rw [r3] at z; cases z) (fun z => by rw [r3] at z; cases z) k1 k2 rfl hkC ⟨fun z => r5 (Or.inl z), Nat.not_le.mp fun z => r5 (Or.inr z)⟩ g1 (fun q z => by rw [g3] at z; cases z) (by rw [g2]; exact hkC) (by rw [g2]; exact va_asg _ _) rfl rfl hdg (fun H' e1 e2 e3 => k H' _ (r7 _ H' e1 e2 e3) (gm_locs hlo r6))
      case isFalse => cases hp
    case _ => cases hp
  case _ => cases hp
end GMWR
