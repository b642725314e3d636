/-! THE PLAIN MACHINE, 15: the machine does what a run of the plain machine says. -/
theorem gm_thr_of {mi cn pc : Nat} {i : Instr} (h : gm_thr mi cn pc i = true) : ∃ ik ic : Nat, i = .new ik ∧ (cn, ik, ic) ∈ gm_tht ∧ gm_ft mi (pc + 3) = some (.dup, 1) ∧ gm_ft mi (pc + 4) = some (.invokespecial ic, 3) ∧ gm_ft mi (pc + 7) = some (.athrow, 1) := by
  unfold gm_thr at h
  split at h
  case _ x =>
    split at h
    case _ ic hlk =>
      simp only [Bool.and_eq_true, decide_eq_true_eq] at h
      exact ⟨x, ic, rfl, gm_look_mem hlk, h.1.1, h.1.2, h.2⟩
    case _ => cases h
  case _ => cases h
/-- a table without a row that takes pc -/
theorem gm_hd_none : ∀ {L : List ExceptionTableEntry} {hh : List (Nat × Nat × Nat × Nat)} {pc : Nat}, L.map (fun h => (h.startPc, h.endPc, h.handlerPc, h.catchType)) = hh → gm_hd hh pc = none → ∀ x ∈ L, covers x pc = false
  | [], _, _, _, _, x, hx => by cases hx
  | a :: L, hh, pc, hm, hn, x, hx => by
    subst hm
    rw [List.map_cons] at hn
    unfold gm_hd at hn
    split at hn
    case isTrue => cases hn
    case isFalse hz =>
      rcases List.mem_cons.mp hx with e | e
      · subst e
        simp [covers]
        omega
      · exact gm_hd_none rfl hn x e
/-- the row that takes pc -/
theorem gm_hd_some : ∀ {L : List ExceptionTableEntry} {hh : List (Nat × Nat × Nat × Nat)} {pc t : Nat}, L.map (fun h => (h.startPc, h.endPc, h.handlerPc, h.catchType)) = hh → gm_hd hh pc = some t → ∃ pre x suf, L = pre ++ x :: suf ∧ (∀ z ∈ pre, covers z pc = false) ∧ covers x pc = true ∧ x.handlerPc = t ∧ (x.startPc, x.endPc, x.handlerPc, x.catchType) ∈ hh
  | [], _, _, _, hm, hn => by subst hm; cases hn
  | a :: L, hh, pc, t, hm, hn => by
    subst hm
    rw [List.map_cons] at hn
    unfold gm_hd at hn
    split at hn
    case isTrue hz =>
      cases hn
      exact ⟨[], a, L, rfl, (fun z hz => by cases hz), (by simp [covers]; omega), rfl, List.mem_cons_self⟩
    case isFalse hz =>
      obtain ⟨pre, x, suf, h1, h2, h3, h4, h5⟩ := gm_hd_some rfl hn
      refine ⟨a :: pre, x, suf, by rw [h1]; rfl, fun z hz2 => ?_, h3, h4, List.mem_cons_of_mem _ h5⟩
      rcases List.mem_cons.mp hz2 with e | e
      · subst e
        simp [covers]
        omega
      · exact h2 z e
set_option maxRecDepth 100000 in
/-- every row of every table catches the exception that is thrown -/
theorem gm_hh_ok : ∀ M ∈ gm_mt, ∀ q ∈ M.2.2.2.2.1, q.2.2.2 ≠ 0 ∧ Cond.classLink (gm_cn.getD M.2.2.2.2.2.1 "") q.2.2.2 gm_ise ∈ gm_gw := by decide +kernel
theorem gm_castable : Cond.castable gm_ise gm_ise ∈ gm_xw := by decide +kernel
def gm_Sim (l : Launch) (D : va_G) (H0 : Heap) (E : Nat → Value) (n : Nat) : Prop := ∀ (d mi pc : Nat) (lv st : List Value) (h : gm_H) (r : gm_R) (h' : gm_H), gm_run E n d mi pc lv st h = some (r, h') →
  ∀ (p : Program) (e : Env) (R : Room) (s : State) (m : MethodId) (args : Array Value) (below : List Frame) (meth : Method) (c : Code) (H : Heap) (locs : List Loc) (cells slots : Nat) (ls : Array Slot) (M : gm_M),
    gm_mt[mi]? = some M → gm_Fr M p s m meth c → gm_Cx D H0 E s → gm_HR D H0 s h H → gm_L ls M.2.2.1 lv → d + 8 ≤ R.frames → 40 * d + 200 ≤ R.locals → cells + (h'.1 - h.1) ≤ R.cells → slots + (h'.2.1 - h.2.1) ≤ R.slots → (∀ q ∈ locs, H0.size ≤ q.base) →
    W p l e R s m args below meth c H locs cells slots (gm_Fin D H0 below s (cells + (h'.1 - h.1)) (slots + (h'.2.1 - h.2.1)) r h') (F0 m pc ls st)
theorem gm_heap_setTop (T : State) (g : JFrame) : (T.setTop g).heap = T.heap := by simp [State.setTop, State.modifyTopJava]
theorem gm_heap_pushFrame (T : State) (f : Frame) : (T.pushFrame f).heap = T.heap := by simp [State.pushFrame, State.setFrames]
set_option maxHeartbeats 4000000 in
theorem gm_sim {l : Launch} (hl : l.stackTraces = false) (D : va_G) (H0 : Heap) (E : Nat → Value) : ∀ n, gm_Sim l D H0 E n := by
  intro n
  induction n with
  | zero => intro d mi pc lv st h r h' hr; cases hr
  | succ n ih =>
    intro d mi pc lv st h r h' hr p e R s m args below meth c H locs cells slots ls M hM hF hC hR hL hfr hlc hce hsl hlo
    have hall := gm_run_le _ _ _ _ _ _ _ _ _ hr
    unfold gm_run at hr
    split at hr
    case _ => cases hr
    case _ pc1 lv1 st1 h1 hn =>
      have b := gm_next_is hM hn
      dsimp only [gm_is] at b
      have a := gm_run_le _ _ _ _ _ _ _ _ _ hr
      refine gm_go_W hM hF hC hR hL hlo hn (by omega) (by omega) (by omega) (by omega) (fun H' ls' locs' g1 g2 g3 => ?_)
      have z := ih _ _ _ _ _ _ _ _ hr p e R s m args below meth c H' locs' (cells + (h1.1 - h.1)) (slots + (h1.2.1 - h.2.1)) ls' M hM hF hC g1 g2 hfr hlc (by omega) (by omega) g3
      rw [show cells + (h1.1 - h.1) + (h'.1 - h1.1) = cells + (h'.1 - h.1) by omega, show slots + (h1.2.1 - h.2.1) + (h'.2.1 - h1.2.1) = slots + (h'.2.1 - h.2.1) by omega] at z
      exact z
    case _ sd mi1 as rest hn =>
      obtain ⟨i, hft, hcal, h4⟩ := gm_next_is hM hn
      have hdg : decode c.code pc = .ok (i, 3) := by rw [hF.2.1]; exact gm_ft_ok hM hft
      intro T hT X
      obtain ⟨M', mk, vm₁, hM', h0, h8, hen, hnamed, hW1, X₁, hstep⟩ := gm_enter (ls := ls) X hT hF hC hR h4 hcal hdg
      split at hr
      case _ d1 M1 M2 em1 em2 =>
        cases em1.symm.trans hM'
        cases em2.symm.trans hM
        obtain ⟨hmem1, -, hml12⟩ := (gm_mt_nm M' (List.mem_of_getElem? hM'))
        have hcn' := (gm_mt_nm M' (List.mem_of_getElem? hM')).2.1
        have hC1 : gm_Cx D H0 E (T.setVm vm₁) := hC.moved (U := T.setVm vm₁) hW1
        obtain ⟨mk2, methk, ck, hn2, hmk, hck, hcc, hcl, hct, hcr, hclk, -⟩ := gm_cw_spec (hC1.1 _ (gm_cw_mem h0 hM') #[])
        cases (X₁.named hnamed).symm.trans hn2
        have hpk : (T.setVm vm₁).plainMethod mk := State.plainMethod.of_named (gm_pf (List.mem_of_getElem? hM')) hn2 hmk
        have callee : ∀ (r1 : gm_R) (h1 : gm_H), gm_run E n d1 mi1 0 (gm_en as M'.2.2.1) [] h = some (r1, h1) → h1.1 ≤ h'.1 → h1.2.1 ≤ h'.2.1 →
            ∃ t, (∀ acts, Steps p.tables e below (doInvoke e ((T.setVm vm₁).setTop (F0 m pc ls rest)) acts mk as.toArray).1 t) ∧ ∃ o, Ended t (.java (F0 m pc ls rest) :: below) o ∧ gm_oc r1 h1 o ∧ gm_HR D H0 s h1 t.heap ∧ ((T.setVm vm₁).calling (F0 m pc ls rest) mk as.toArray).WarmedH t.vm ∧
              ∃ L : List Loc, ((T.setVm vm₁).calling (F0 m pc ls rest) mk as.toArray).sameButNew ({ t with vm := ((T.setVm vm₁).calling (F0 m pc ls rest) mk as.toArray).vm } : State) L (h1.1 - h.1) (h1.2.1 - h.2.1) ∧ ∀ q ∈ L, H0.size ≤ q.base := by
          intro r1 h1 hc hle1 hle2
          have hle0 := gm_run_le _ _ _ _ _ _ _ _ _ hc
          obtain ⟨Y, hent⟩ := X₁.into (g := F0 m pc ls rest) rfl (by rw [hF.2.2.1]; exact hL.1) hdg as.toArray (R' := { frames := R.frames - 1, locals := R.locals - 40, cells := h1.1 - h.1, slots := h1.2.1 - h.2.1 }) hmk hck hclk hpk
            (by show R.frames - 1 + 1 ≤ R.frames; omega) (by show 2 * 0 + (rest.map fun v => v.category).sum + (ck.maxLocals + 11) + (R.locals - 40) ≤ R.locals; rw [hcl]; omega) (by show cells + (h1.1 - h.1) ≤ R.cells; omega) (by show slots + (h1.2.1 - h.2.1) ≤ R.slots; omega)
          have hvmE : ((T.setVm vm₁).calling (F0 m pc ls rest) mk as.toArray).vm = vm₁ := by simp [State.calling, State.pushFrame, State.setFrames, State.setTop, State.modifyTopJava]
          have hWs2 : s.WarmedH ((T.setVm vm₁).calling (F0 m pc ls rest) mk as.toArray).vm := by rw [hvmE]; exact hW1
          have hn3 : ((T.setVm vm₁).calling (F0 m pc ls rest) mk as.toArray).methodNamed? M'.1 = some mk := by
            have : ∀ (A B : State), A.vm = B.vm → A.methodNamed? M'.1 = B.methodNamed? M'.1 := fun A B z => by simp only [State.methodNamed?, z]
            rw [this _ (T.setVm vm₁) hvmE]; exact hn2
          have hFr' : gm_Fr M' p ((T.setVm vm₁).calling (F0 m pc ls rest) mk as.toArray) mk methk ck := ⟨hF.1, hcc, hcl, hcr, hclk, hct, by rw [hcn']; exact findClass_of_methodNamed hn3, (name_of_methodNamed hn2 hmk).1⟩
          have hW := ih _ _ _ _ _ _ _ _ hc p e { frames := R.frames - 1, locals := R.locals - 40, cells := h1.1 - h.1, slots := h1.2.1 - h.2.1 } ((T.setVm vm₁).calling (F0 m pc ls rest) mk as.toArray) mk as.toArray (.java (F0 m pc ls rest) :: below) methk ck H [] 0 0 _ M' hM' hFr' (hC.moved hWs2) (hR.moved hWs2.alike) (gm_entry hen)
            (by show d1 + 8 ≤ R.frames - 1; omega) (by show 40 * d1 + 200 ≤ R.locals - 40; omega) (by show 0 + (h1.1 - h.1) ≤ h1.1 - h.1; omega) (by show 0 + (h1.2.1 - h.2.1) ≤ h1.2.1 - h.2.1; omega) (fun q hq => by cases hq)
          have hheap : ((((T.setVm vm₁).setTop (F0 m pc ls rest)).pushFrame (.java (entryFrame mk as.toArray ck.maxLocals))) : State).heap = H := by
            rw [gm_heap_pushFrame, gm_heap_setTop]; exact hT
          obtain ⟨t, hst, o, hrun, hend, hoc, hHR, hWt, L, hsame, hLb⟩ := hW _ hheap Y
          refine ⟨t, fun acts => ?_, o, hend, hoc, hHR.moved hWs2.alike.symm, hWt, L, by rw [Nat.zero_add, Nat.zero_add] at hsame; exact hsame, hLb⟩
          rw [hent acts, hcl, lg_entry_eq]
          rw [hcl, lg_entry_eq] at hst
          exact Steps.weaken (mid := [.java (F0 m pc ls rest)]) hst
        split at hr
        case _ => cases hr
        case _ v h1 hc =>
          have hle2 := gm_run_le _ _ _ _ _ _ _ _ _ hr
          have hle1 := gm_run_le _ _ _ _ _ _ _ _ _ hc
          obtain ⟨t, hst, o, hend, hoc, hHR, hWt, L, hsame, hLb⟩ := callee _ _ hc hle2.1 hle2.2
          dsimp only [gm_oc] at hoc
          subst hoc
          obtain ⟨T', X', hWT, hsT, ht⟩ := X₁.outOf (g := F0 m pc ls rest) rfl hdg hend hWt hsame
          have hT' : T'.heap = t.heap := by rw [ht, gm_heap_setTop]
          obtain ⟨t2, a1, b1⟩ := ih _ _ _ _ _ _ _ _ hr p e R s m args below meth c t.heap (locs ++ L) (cells + (h1.1 - h.1)) (slots + (h1.2.1 - h.2.1)) ls M hM hF hC hHR hL hfr hlc (by omega) (by omega)
            (fun q hq => (List.mem_append.mp hq).elim (hlo q) (hLb q)) T' hT' X'
          rw [show cells + (h1.1 - h.1) + (h'.1 - h1.1) = cells + (h'.1 - h.1) by omega, show slots + (h1.2.1 - h.2.1) + (h'.2.1 - h1.2.1) = slots + (h'.2.1 - h.2.1) by omega] at b1
          refine ⟨t2, hstep _ (fun acts => (hst acts).trans ?_), b1⟩
          rw [ht]
          exact a1
        case _ a1 h1 hc =>
          have hle1 := gm_run_le _ _ _ _ _ _ _ _ _ hc
          split at hr
          case _ tg htg =>
            have hle2 := gm_run_le _ _ _ _ _ _ _ _ _ hr
            obtain ⟨t, hst, o, hend, hoc, hHR, hWt, L, hsame, hLb⟩ := callee _ _ hc hle2.1 hle2.2
            obtain ⟨rfl, hrd⟩ := hoc
            obtain ⟨T', X', hWT, hsT, ht⟩ := X₁.outOfThrown (g := F0 m pc ls rest) rfl hend hWt hsame
            have hT' : T'.heap = t.heap := by rw [ht, gm_heap_pushFrame, gm_heap_setTop]
            obtain ⟨pre, x, suf, hsplit, hpre, hcov, hpcx, hxin⟩ := gm_hd_some hF.2.2.2.2.2.1 htg
            obtain ⟨hc0, hlinkw⟩ := gm_hh_ok M (List.mem_of_getElem? hM) _ hxin
            obtain ⟨ce, hce1, hce2, hce3⟩ := (hHR.2.2.2 a1 (7, []) hrd).2.1.2.2.1 rfl
            have hcast : (Cond.castable gm_ise gm_ise).before args s = true := va_Nw.use rfl (hC.2.2.2.2.2.2.1 _ gm_castable)
            have kk := ih _ _ _ _ _ _ _ _ hr p e R s m args below meth c t.heap (locs ++ L) (cells + (h1.1 - h.1)) (slots + (h1.2.1 - h.2.1)) ls M hM hF hC hHR hL hfr hlc (by omega) (by omega)
              (fun q hq => (List.mem_append.mp hq).elim (hlo q) (hLb q))
            rw [show cells + (h1.1 - h.1) + (h'.1 - h1.1) = cells + (h'.1 - h.1) by omega, show slots + (h1.2.1 - h.2.1) + (h'.2.1 - h1.2.1) = slots + (h'.2.1 - h.2.1) by omega] at kk
            subst hpcx
            obtain ⟨t2, b1, b2⟩ := vx_catch (pc := pc) (rest := rest) (E := gm_ise) (name := gm_ise) hF.2.2.2.2.2.2.1 pre x suf hsplit (fun z hz => Or.inl (hpre z hz)) hcov hc0 (hC.1 _ hlinkw args) hcast hce1 hce2 hce3 kk T' hT' X'
            refine ⟨t2, hstep _ (fun acts => (hst acts).trans ?_), b2⟩
            rw [ht]
            exact b1
          case _ hnone =>
            cases hr
            obtain ⟨t, hst, o, hend, hoc, hHR, hWt, L, hsame, hLb⟩ := callee _ _ hc (Nat.le_refl _) (Nat.le_refl _)
            obtain ⟨rfl, hrd⟩ := hoc
            obtain ⟨T', X', hWT, hsT, ht⟩ := X₁.outOfThrown (g := F0 m pc ls rest) rfl hend hWt hsame
            have hT' : T'.heap = t.heap := by rw [ht, gm_heap_pushFrame, gm_heap_setTop]
            obtain ⟨st1, hrun, hend2, hW2, hsm⟩ := X'.leaveThrown a1 (g := F0 m pc ls rest) rfl rfl rfl (gm_hd_none hF.2.2.2.2.2.1 hnone) hF.2.2.2.2.1
            refine ⟨_, hstep _ (fun acts => (hst acts).trans (by rw [ht]; exact st1)), .threw a1, hrun, hend2, ⟨rfl, hrd⟩, ?_, hW2, locs ++ L, hsm, fun q hq => (List.mem_append.mp hq).elim (hlo q) (hLb q)⟩
            show gm_HR D H0 s h' T'.heap
            rw [hT']; exact hHR
      case _ => cases hr
    case _ v hn =>
      cases hr
      obtain ⟨i, hft, hrt⟩ := gm_next_is hM hn
      rw [show cells + (h.1 - h.1) = cells by omega, show slots + (h.2.1 - h.2.1) = slots by omega]
      exact gm_rt_W hF.1 hF.2.1 hF.2.2.2.1 hF.2.2.2.2.1 hR hlo hrt (gm_ft_ok hM hft)
    case _ a h1 hn =>
      cases hr
      obtain ⟨⟨i, hft, hthr⟩, h8, rfl, rfl, hh0⟩ := gm_next_is hM hn
      obtain ⟨ik, ic, rfl, hq, f3, f4, f7⟩ := gm_thr_of hthr
      have e1 : (gm_nw h (7, []) 6).1 - h.1 = 1 := by show h.1 + 1 - h.1 = 1; omega
      have e2 : (gm_nw h (7, []) 6).2.1 - h.2.1 = 6 := by show h.2.1 + 6 - h.2.1 = 6; omega
      rw [e1] at hce ⊢
      rw [e2] at hsl ⊢
      have hnoh : ∀ x ∈ c.exceptionTable.toList, covers x (pc + 7) = false := by
        intro x hx
        have hz := hF.2.2.2.2.2.1
        rw [hh0, List.map_eq_nil_iff] at hz
        rw [hz] at hx
        cases hx
      exact gm_throw_W hF.1 hF.2.1 hl hq hF.2.2.2.2.2.2.1 hC hR hlo (by rw [hF.2.2.1]; exact hL.1) (gm_ft_ok hM hft) (gm_ft_ok hM f3) (gm_ft_ok hM f4) (gm_ft_ok hM f7) hnoh (by omega) (by omega) h8 hce hsl hF.2.2.2.2.1
