/-! THE PLAIN MACHINE, 9: a method's ends. -/
def gm_oc (r : gm_R) (h' : gm_H) (o : Outcome) : Prop := match r with
  | .inl v => o = .returned v
  | .inr a => o = .threw a ∧ gm_rd h' a = some (7, [])
def gm_Fin (D : va_G) (H0 : Heap) (below : List Frame) (s : State) (mc ms : Nat) (r : gm_R) (h' : gm_H) : State → Prop := fun t =>
  ∃ o, t.status = .running ∧ Ended t below o ∧ gm_oc r h' o ∧ gm_HR D H0 s h' t.heap ∧ s.WarmedH t.vm ∧ ∃ L : List Loc, s.sameButNew ({ t with vm := s.vm } : State) L mc ms ∧ ∀ q ∈ L, H0.size ≤ q.base
section GME
variable {p : Program} {l : Launch} {e : Env} {R : Room} {s : State} {m : MethodId} {args : Array Value} {below : List Frame} {meth : Method} {c : Code} {H : Heap} {locs : List Loc} {cells slots : Nat} {Q Q' : State → Prop}
variable {cc : ByteArray} {pc : Nat} {ls : Array Slot} {D : va_G} {H0 : Heap} {E : Nat → Value} {h : gm_H}
theorem gm_mono {g : JFrame} (hq : ∀ t, Q t → Q' t) (k : W p l e R s m args below meth c H locs cells slots Q g) : W p l e R s m args below meth c H locs cells slots Q' g := by
  intro T hT X
  obtain ⟨t, a, b⟩ := k T hT X
  exact ⟨t, a, hq t b⟩
theorem gm_MQ_Fin {v : Option Value} (hR : gm_HR D H0 s h H) : ∀ t, MQ below (fun _ _ o t => o = .returned v ∧ t.heap = H) args s cells slots (gm_A H0) t → gm_Fin D H0 below s cells slots (.inl v) h t := by
  rintro t ⟨o, h1, h2, ⟨h3, h4⟩, L, ⟨-, h5, h6⟩, h7⟩
  exact ⟨o, h1, h2, h3, by rw [h4]; exact hR, h5, L, h6, h7⟩
theorem gm_rt_W (hx : p.tables.exec = Jvm.exec) (hb : c.code = cc) {ret : Option FieldType} (hr : meth.sig.returnType = ret) (hlocks : meth.locks = false) (hR : gm_HR D H0 s h H) (hlo : ∀ q ∈ locs, H0.size ≤ q.base) {i : Instr} {st : List Value} {v : Option Value}
    (hp : gm_rt ret i st = some v) (hdg : decode cc pc = .ok (i, 1)) : W p l e R s m args below meth c H locs cells slots (gm_Fin D H0 below s cells slots (.inl v) h) (F0 m pc ls st) := by
  unfold gm_rt at hp
  split at hp
  case _ x ty =>
    split at hp
    case isTrue hh =>
      cases hp
      exact gm_mono (gm_MQ_Fin hR) (W.zret hx hb hr hh.2 (fun t ht _ => ⟨rfl, ht⟩) hlo hdg hlocks)
    case isFalse => cases hp
  case _ x =>
    cases hp
    exact gm_mono (gm_MQ_Fin hR) (W.lret hx hb hr (fun t ht _ => ⟨rfl, ht⟩) hlo hdg hlocks)
  case _ a nm =>
    cases hp
    exact gm_mono (gm_MQ_Fin hR) (W.aret hx hb hr (Or.inl ⟨nm, rfl⟩) (Or.inr ⟨a, rfl⟩) (fun t ht _ => ⟨rfl, ht⟩) hlo hdg hlocks)
  case _ nm =>
    cases hp
    exact gm_mono (gm_MQ_Fin hR) (W.aret hx hb hr (Or.inl ⟨nm, rfl⟩) (Or.inl rfl) (fun t ht _ => ⟨rfl, ht⟩) hlo hdg hlocks)
  case _ =>
    cases hp
    exact gm_mono (gm_MQ_Fin hR) (W.vret hx hb hr (fun t ht _ => ⟨rfl, ht⟩) hlo hdg hlocks)
  case _ => cases hp
end GME
def gm_ise : String := "java/lang/IllegalStateException"
def gm_isn : List String := ["java/lang/RuntimeException", "java/lang/Exception"]
set_option maxRecDepth 100000 in
theorem gm_tht_ok : ∀ q ∈ gm_tht, Cond.classLink (gm_cn.getD q.1 "") q.2.1 gm_ise ∈ gm_gw ∧ Cond.initialized gm_ise ∈ gm_gw ∧ (∀ w ∈ vx_at0 (gm_cn.getD q.1 "") q.2.2 gm_ise gm_isn, w ∈ gm_gw ∨ w ∈ gm_xw) ∧ ∀ w ∈ Cond.classLink (gm_cn.getD q.1 "") q.2.1 gm_ise :: Cond.initialized gm_ise :: vx_at0 (gm_cn.getD q.1 "") q.2.2 gm_ise gm_isn, vx_ot w = true := by decide +kernel
theorem gm_xg_tab {w : Cond} (h : gm_xg w = true) : w.onTables = true := by
  cases w <;> first | rfl | cases h
section GMT
variable {p : Program} {l : Launch} {e : Env} {R : Room} {s : State} {m : MethodId} {args : Array Value} {below : List Frame} {meth : Method} {c : Code} {H : Heap} {locs : List Loc} {cells slots : Nat}
variable {cc : ByteArray} {pc : Nat} {ls : Array Slot} {D : va_G} {H0 : Heap} {E : Nat → Value} {h : gm_H} {rest : List Value}
theorem gm_throw_W (hexec : p.tables.exec = Jvm.exec) (hb : c.code = cc) (hl : l.stackTraces = false) {cn ik ic : Nat} (hq : (cn, ik, ic) ∈ gm_tht) (hown : s.vm.findClass (gm_cn.getD cn "") = some m.cls) (hC : gm_Cx D H0 E s) (hR : gm_HR D H0 s h H) (hlo : ∀ q ∈ locs, H0.size ≤ q.base) (hsize : ls.size = c.maxLocals)
    (d0 : decode cc pc = .ok (.new ik, 3)) (d3 : decode cc (pc + 3) = .ok (.dup, 1)) (d4 : decode cc (pc + 4) = .ok (.invokespecial ic, 3)) (d7 : decode cc (pc + 7) = .ok (.athrow, 1))
    (hout : ∀ x ∈ c.exceptionTable.toList, covers x (pc + 7) = false) (hRframes : 8 ≤ R.frames) (hRlocals : 200 ≤ R.locals) (hrest : (rest.map fun v => v.category).sum ≤ 8) (hRcells : cells + 1 ≤ R.cells) (hRslots : slots + 6 ≤ R.slots) (hlocks : meth.locks = false) :
    W p l e R s m args below meth c H locs cells slots (gm_Fin D H0 below s (cells + 1) (slots + 6) (.inr h.1) (gm_nw h (7, []) 6)) (F0 m pc ls rest) := by
  obtain ⟨hts, -, -, -, hU, hN, hxw, -⟩ := hC
  obtain ⟨tk, ti, ta, tg⟩ := gm_tht_ok _ hq
  intro T hT X
  have htr : e.platform.stackTraces = false := (show e.platform.stackTraces = l.stackTraces by rw [X.admits.platform]).trans hl
  have Y := vx_rebase X (R' := { frames := R.frames, locals := R.locals, cells := 1, slots := 6 }) (Nat.le_refl _) (Nat.le_refl _) hRcells hRslots
  obtain ⟨s', hA⟩ : ∃ z, z = (T.setVm s.vm).setFrames (.invoking m args :: below) := ⟨_, rfl⟩
  rw [← hA] at Y
  have hvm : s'.vm = s.vm := by rw [hA]; rfl
  have hhp : s'.heap = H := by rw [hA]; exact hT
  have hW0 : s.WarmedH s'.vm := by rw [hvm]; exact State.WarmedH.refl s
  have hat' : ∀ w ∈ vx_at0 (gm_cn.getD cn "") ic gm_ise gm_isn, w.before args s' = true := by
    intro w hw
    have h0 : w.before args s = true := by
      rcases ta w hw with z | z
      · exact hts w z args
      · exact va_Nw.use (gm_xg_tab (List.mem_filter.mp z).2) (hxw w z)
    exact vx_ot_at hW0 hvm.symm (tg w (List.mem_cons_of_mem _ (List.mem_cons_of_mem _ hw))) h0
  have hk' : (Cond.classLink (gm_cn.getD cn "") ik gm_ise).before args s' = true := vx_ot_at hW0 hvm.symm (tg _ List.mem_cons_self) (hts _ tk args)
  have hini' : (Cond.initialized gm_ise).before args s' = true := vx_ot_at hW0 hvm.symm (tg _ (List.mem_cons_of_mem _ List.mem_cons_self)) (hts _ ti args)
  have hlow : ∀ a : Nat, a < H0.size → ¬ gm_A H0 a → H[a]? = H0[a]? := fun a ha _ => hR.2.2.1 a ha
  have hU' : vx_Zq Bundle.tN "UNASSIGNED_STACK" Bundle.steD (gm_A H0) s' s'.heap := by rw [hhp]; exact vx_Zq.moved hW0.alike (hU.kept hlow)
  have hN' : vx_Zq Bundle.tN "SUPPRESSED_SENTINEL" Bundle.listD (gm_A H0) s' s'.heap := by rw [hhp]; exact vx_Zq.moved hW0.alike (hN.kept hlow)
  have hw : ∀ w ∈ Bundle.ownAtoms0 (gm_cn.getD cn "") ic gm_ise gm_isn, w.before args s' = true := vx_own hat' (vx_isRefq hU'.1) (vx_isRefq hN'.1) hU'.2.word hN'.2.word
  have hown' : s'.vm.findClass (gm_cn.getD cn "") = some m.cls := by rw [hvm]; exact hown
  have hins : (Cond.instantiable gm_ise 6).before args s' = true := hw _ (by simp [Bundle.ownAtoms0])
  obtain ⟨vm₁, cX, kX, hfX, hkX, -, -, X₁, st1⟩ := Y.newCold hexec (own := gm_cn.getD cn "") (C := gm_ise) (index := ik) (n := 6) hown' hk' hins hini'
    (g := F0 m pc ls rest) rfl (by rw [hb]; exact d0) (Nat.le_refl _) (Nat.le_refl _)
  generalize hT1 : (T.setVm vm₁).pushCell { cls := cX, slots := kX.instanceTypes.map defaultValue, vm := .none } = T1 at X₁ st1
  have hcat : (Value.ref T.heap.size).category = 1 := rfl
  have hcellA : T1.heap[T.heap.size]? = some (freshCell cX kX) := by rw [← hT1]; exact State.heap_pushCell_size _ _
  have d3' : decode c.code (pc + 3) = .ok (.dup, 1) := by rw [hb]; exact d3
  obtain ⟨U, hsteps, hrun, hend, hW, hsame, ce, hce, hO⟩ := X₁.ctorThrow0 hexec htr (own := gm_cn.getD cn "") (cls := gm_ise) (names := gm_isn) (ic := ic) hown' (by decide +kernel) (by decide +kernel) hw (fun x hx => nomatch hx) hfX hkX hcellA (by rw [hhp, hT]; exact Nat.le_refl _)
    (g := { method := m, pc := pc + 4, locals := ls, stack := .ref T.heap.size :: .ref T.heap.size :: rest, locked := none }) rfl hsize rfl rfl (rest := rest) rfl
    (by rw [hb]; exact d4) (by rw [hb]; exact d7) hout (by show 2 + 3 < R.frames; omega) (by simp only [List.map_cons, List.sum_cons, hcat]; have hgl : gm_isn.length = 2 := rfl; rw [hgl]; omega) hlocks
  obtain ⟨f1, f2⟩ := vx_frame hsame
  rw [hhp] at f1 f2
  have hWs : s.WarmedH U.vm := State.WarmedH.trans hW0 hW
  have hcl : s.vm.findClass gm_ise = some ce.cls := by
    have h9 := hO.cls
    rw [hvm] at h9
    exact h9
  have hzU : U.heap.size ≤ H.size + 1 := by
    have h9 : U.heap.size ≤ s'.heap.size + (0 + 1) := hsame.2.2.1
    rw [hhp] at h9
    exact h9
  have hall : s.sameButNew ({ U with vm := s.vm } : State) locs (cells + 1) (slots + 6) := by
    subst hA
    obtain ⟨e1, e2⟩ := hsame
    rw [State.setFrames_setFrames] at e1
    have h2 : (T.setVm s.vm).sameButNew ({ U with vm := s.vm } : State) [] (0 + 1) (0 + 6) := ⟨e1, e2⟩
    have h3 := X.same.trans h2
    rw [List.append_nil] at h3
    exact h3.mono (by omega) (by omega)
  have hTH : T.heap.size = h.1 := by rw [hT]; exact hR.1
  rw [hTH] at hend hce
  have hlt : h.1 < U.heap.size := (Array.getElem?_eq_some_iff.mp hce).1
  have hH1 := hR.1
  have hR' : gm_HR D H0 s (gm_nw h (7, []) 6) U.heap := by
    refine hR.nw (by omega) (fun q hq => f2 q hq (fun z hz => nomatch hz)) ?_
    rw [hH1]
    exact ⟨fun z => absurd (show 7 < 6 from z) (by omega), fun z => absurd (show 7 = 6 from z) (by omega), fun _ => ⟨ce, hce, hO.vm, hcl⟩, fun z => absurd (show 100 ≤ 7 from z) (by omega)⟩
  refine ⟨U, ?_, .threw h.1, hrun, hend, ⟨rfl, by simp [gm_rd, gm_nw]⟩, hR', hWs, locs, hall, hlo⟩
  refine st1 _ ?_
  show Steps p.tables e below (T1.setTop { method := m, pc := pc + 3, locals := ls, stack := .ref T.heap.size :: rest, locked := none }) _
  jvm_step X₁.here [X₁.here.top, hexec, d3', Value.category]
  exact hsteps
end GMT
