/-! THE PLAIN MACHINE, 8: making. -/
set_option maxRecDepth 100000 in
theorem gm_nwt_ok : ∀ q ∈ gm_nwt, tables_1[q.2.2.2]? = some (Cond.classLink (gm_cn.getD q.1 "") q.2.1 (gm_cn.getD q.2.2.1 "")) := by decide +kernel
set_option maxRecDepth 100000 in
theorem gm_ins_ok : ∀ ci, ci < 6 → Cond.instantiable (gm_cn.getD ci "") (gm_N ci) ∈ gm_gw ∧ Cond.initialized (gm_cn.getD ci "") ∈ gm_gw := by decide +kernel
set_option maxRecDepth 100000 in
theorem gm_ant_ok : ∀ q ∈ gm_ant, tables_1[q.2.2.2.2]? = some (Cond.classLink (gm_cn.getD q.1 "") q.2.1 q.2.2.2.1) ∧ gm_at (100 + q.2.2.1) = .object q.2.2.2.1 ∧ gm_at (200 + q.2.2.1) = .object q.2.2.2.1 := by decide +kernel
set_option maxRecDepth 100000 in
theorem gm_ac_ok : Cond.arrayClass .int ∈ gm_gw ∧ Cond.arrayClass .long ∈ gm_gw ∧ Cond.arrayClass .byte ∈ gm_gw ∧ Cond.arrayClass .boolean ∈ gm_gw := by decide +kernel
theorem gm_HR.nw {D : va_G} {H0 : Heap} {s : State} {h : gm_H} {H H' : Heap} {c : gm_C} {n : Nat} (hR : gm_HR D H0 s h H) (hz : H'.size = H.size + 1) (ho : ∀ q : Nat, q < H.size → H'[q]? = H[q]?) (hc : gm_cr D H0 s H.size c H') : gm_HR D H0 s (gm_nw h c n) H' := by
  obtain ⟨h1, h2, h3, h4⟩ := hR
  refine ⟨by show H'.size = h.1 + 1; omega, by show H0.size ≤ h.1 + 1; omega, fun q hq => ?_, fun b cb hb => ?_⟩
  · rw [ho q (by omega)]; exact h3 q hq
  · by_cases hba : b = h.1
    · have e1 : some c = some cb := by
        rw [← hb]; simp [gm_rd, gm_nw, hba]
      cases e1
      rw [hba]
      rw [h1] at hc
      exact ⟨by show h.1 < h.1 + 1; omega, hc, fun _ => h2⟩
    · have e1 : gm_rd h b = some cb := by
        rw [← hb]; simp [gm_rd, gm_nw, hba]
      obtain ⟨g1, g2, g3⟩ := h4 b cb e1
      exact ⟨by show b < h.1 + 1; omega, g2.kept (ho b (by omega)), g3⟩
theorem gm_push {H : Heap} {cell : Cell} : (H.push cell).size = H.size + 1 ∧ (∀ q : Nat, q < H.size → (H.push cell)[q]? = H[q]?) ∧ (H.push cell)[H.size]? = some cell := by
  refine ⟨by simp, fun q hq => ?_, by simp⟩
  rw [Array.getElem?_push]
  simp [Nat.ne_of_lt hq]
section GMN
variable {p : Program} {l : Launch} {e : Env} {R : Room} {s : State} {m : MethodId} {args : Array Value} {below : List Frame} {meth : Method} {c : Code} {H : Heap} {locs : List Loc} {cells slots : Nat} {Q : State → Prop}
variable {cc : ByteArray} {pc : Nat} {ls : Array Slot} {D : va_G} {H0 : Heap} {E : Nat → Value} {h : gm_H}
theorem gm_nwop_W (hx : p.tables.exec = Jvm.exec) (hb : c.code = cc) {cn ow : Nat} (hown : s.vm.findClass (gm_cn.getD cn "") = some m.cls) (hC : gm_Cx D H0 E s) (hR : gm_HR D H0 s h H) {i : Instr} {st st' : List Value} {len : Nat} {h' : gm_H}
    (hp : gm_nwop cn ow i st h = some (len, st', h')) (hdg : decode cc pc = .ok (i, len)) (hcells : cells + (h'.1 - h.1) ≤ R.cells) (hslots : slots + (h'.2.1 - h.2.1) ≤ R.slots)
    (k : ∀ H' : Heap, gm_HR D H0 s h' H' → W p l e R s m args below meth c H' locs (cells + (h'.1 - h.1)) (slots + (h'.2.1 - h.2.1)) Q (F0 m (pc + len) ls st')) : W p l e R s m args below meth c H locs cells slots Q (F0 m pc ls st) := by
  obtain ⟨hts, hK, -, -, -, -, -, hAO⟩ := hC
  have hts' : ∀ w ∈ gm_gw, w.before args s = true := fun w hw => hts w hw args
  unfold gm_nwop at hp
  split at hp
  case _ x st1 =>
    split at hp
    case _ ci w hlk =>
      split at hp
      case isTrue h6 =>
        cases hp
        have hm := gm_look_mem hlk
        have hc := gm_cl_at ci h6
        have hKn := hK.1 ci _ hc
        obtain ⟨i1, i2⟩ := gm_ins_ok ci h6
        have e1 : (gm_nw h (ci, (List.range (gm_N ci)).map (fun k => defaultValue (gm_ty ci k))) (gm_N ci)).1 - h.1 = 1 := by show h.1 + 1 - h.1 = 1; omega
        have e2 : (gm_nw h (ci, (List.range (gm_N ci)).map (fun k => defaultValue (gm_ty ci k))) (gm_N ci)).2.1 - h.2.1 = gm_N ci := by show h.2.1 + gm_N ci - h.2.1 = gm_N ci; omega
        rw [e1] at hcells k
        rw [e2] at hslots k
        refine W.newcK hx hb hown (hts' _ (gm_gw_mem (gm_nwt_ok _ hm) rfl)) (hts' _ i1) (hts' _ i2) rfl hdg hcells hslots hKn.2.1 rfl fun H1 kC hkC g1 z1 o1 => ?_
        rw [hR.1]
        refine k H1 (hR.nw z1 o1 (gm_cr_obj h6 ⟨_, hc, (u_born (gm_ty ci) hts' (gm_lays_ok ci h6) hKn hkC g1 (gm_tys_ok ci h6)).to (fun j hj => ?_)⟩ (by simp)))
        show _ = vp_V _ j
        have hj : j < gm_N ci := hj
        simp [vp_V, List.getD_eq_getElem?_getD, List.getElem?_map, List.getElem?_range hj]
      case isFalse => cases hp
    case _ => cases hp
  case _ t n st1 =>
    split at hp
    case _ q hq =>
      split at hp
      case isTrue hh =>
        cases hp
        obtain ⟨hn, hle, ho1, ho2⟩ := hh
        have e1 : (gm_nw h (100 * ow + q, List.replicate n.toNatClampNeg (defaultValue (gm_at q))) n.toNatClampNeg).1 - h.1 = 1 := by show h.1 + 1 - h.1 = 1; omega
        have e2 : (gm_nw h (100 * ow + q, List.replicate n.toNatClampNeg (defaultValue (gm_at q))) n.toNatClampNeg).2.1 - h.2.1 = n.toNatClampNeg := by show h.2.1 + n.toNatClampNeg - h.2.1 = n.toNatClampNeg; omega
        rw [e1] at hcells k
        rw [e2] at hslots k
        have hq10 : q < 4 := by cases t <;> simp [gm_ac] at hq <;> omega
        have hmod : (100 * ow + q) % 100 = q := by omega
        have hty : newarray.typeOf t = gm_at q := by cases t <;> simp [gm_ac] at hq <;> subst hq <;> rfl
        have hat : gm_at (100 * ow + q) = gm_at q := by
          rw [gm_at_mod, hmod]
        obtain ⟨a1, a2, a3, a4⟩ := gm_ac_ok
        have hac : (Cond.arrayClass (newarray.typeOf t)).before args s = true := by
          cases t <;> simp [gm_ac] at hq
          · exact hts' _ a4
          · exact hts' _ a3
          · exact hts' _ a1
          · exact hts' _ a2
        have hby : componentBytes (newarray.typeOf t) ≤ 8 := by
          cases t <;> simp [gm_ac] at hq <;> decide
        refine W.newa hx hb hac rfl hdg rfl hn (by have := Nat.mul_le_mul hle hby; omega) hcells hslots fun cA kA comp f1 f2 f3 => ?_
        obtain ⟨z1, z2, z3⟩ := gm_push (H := H) (cell := { cls := cA, slots := Array.replicate n.toNatClampNeg (defaultValue (newarray.typeOf t)), vm := .none })
        rw [hR.1]
        rw [hty] at f1 f3
        refine k _ (hR.nw z1 z2 (gm_cr_arr (by omega) z3 ⟨⟨fun z => (fun z2 => by cases z2), kA, f2, comp, by rw [hat]; exact f3⟩, (fun z => by cases z), gm_toL ?_, fun _ => ⟨rfl, ?_, ?_⟩⟩))
        · show (Array.replicate n.toNatClampNeg (defaultValue (newarray.typeOf t))).toList = _
          rw [hty]; simp
        rotate_left
        · show (Array.replicate n.toNatClampNeg (defaultValue (newarray.typeOf t))).toList = _
          rw [hty]; simp
        · rw [hat]
          cases t <;> simp [gm_ac] at hq <;> subst hq <;> exact f1
      case isFalse => cases hp
    case _ => cases hp
  case _ x n st1 =>
    split at hp
    case _ q C w hlk =>
      split at hp
      case isTrue hh =>
        cases hp
        obtain ⟨hn, hle, ho1, ho2⟩ := hh
        have hm := gm_look_mem hlk
        obtain ⟨t1, t3, t4⟩ := gm_ant_ok _ hm
        have e1 : (gm_nw h (100 * ow + q, List.replicate n.toNatClampNeg Value.null) n.toNatClampNeg).1 - h.1 = 1 := by show h.1 + 1 - h.1 = 1; omega
        have e2 : (gm_nw h (100 * ow + q, List.replicate n.toNatClampNeg Value.null) n.toNatClampNeg).2.1 - h.2.1 = n.toNatClampNeg := by show h.2.1 + n.toNatClampNeg - h.2.1 = n.toNatClampNeg; omega
        rw [e1] at hcells k
        rw [e2] at hslots k
        have hat : gm_at (100 * ow + q) = .object C := by
          rcases (show ow = 1 ∨ ow = 2 by omega) with z | z
          · subst z; exact t3
          · subst z; exact t4
        refine W.anew hx hb hown (hts' _ (gm_gw_mem t1 rfl)) (va_AO.use (hAO _ hm)) rfl hdg rfl hn (by omega) hcells hslots fun cA kA comp f1 f2 f3 f4 => ?_
        obtain ⟨z1, z2, z3⟩ := gm_push (H := H) (cell := { cls := cA, slots := Array.replicate n.toNatClampNeg Value.null, vm := .none })
        rw [hR.1]
        refine k _ (hR.nw z1 z2 (gm_cr_arr (by omega) z3 ⟨⟨fun z => (fun z2 => by cases z2), kA, f2, comp, by rw [hat]; exact f3⟩, (fun z => by cases z), gm_toL ?_, fun _ => ⟨rfl, ?_, ?_⟩⟩))
        · show (Array.replicate n.toNatClampNeg Value.null).toList = _
          simp
        rotate_left
        · show (Array.replicate n.toNatClampNeg Value.null).toList = _
          simp
        · rw [hat]
          exact ⟨kA, comp, f2, f3, f4, f1⟩
      case isFalse => cases hp
    case _ => cases hp
  case _ => cases hp
end GMN
