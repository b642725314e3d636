/-! THE PLAIN MACHINE, 12: a call's instruction leads to the callee's entry. -/
section GMI
variable {p : Program} {l : Launch} {e : Env} {R : Room} {s : State} {m : MethodId} {args : Array Value} {below : List Frame} {meth : Method} {c : Code} {H : Heap} {T : State} {locs : List Loc} {cells slots : Nat}
variable {pc : Nat} {ls : Array Slot} {D : va_G} {H0 : Heap} {E : Nat → Value} {h : gm_H}
/-- the receiver's class -/
theorem gm_recv (hC : gm_Cx D H0 E s) (hR : gm_HR D H0 s h H) {a k : Nat} {vs : List Value} (hrd : gm_rd h a = some (k, vs)) (hk : k ≤ 6) : ∃ cell : Cell, H[a]? = some cell ∧ cell.vm.isStatics = false ∧ s.vm.findClass (gm_cn.getD k "") = some cell.cls := by
  obtain ⟨-, hcr, -⟩ := hR.2.2.2 a (k, vs) hrd
  rcases Nat.lt_or_ge k 6 with h6 | h6
  · obtain ⟨⟨r, hr1, cell, q1, q2, q3, q4⟩, -⟩ := hcr.1 h6
    have hc := gm_cl_at k h6
    exact ⟨cell, q1, by rw [q3]; rfl, by rw [q2]; exact (hC.2.1.1 k _ hc).2.1⟩
  · have e6 : k = 6 := by omega
    subst e6
    obtain ⟨-, cell, q1, q2, q3, -⟩ := hcr.2.1 rfl
    exact ⟨cell, q1, q2, q3⟩
theorem gm_enter (X : Stand p l e R s m args below meth c T locs cells slots) (hT : T.heap = H) {M : gm_M} (hF : gm_Fr M p s m meth c) (hC : gm_Cx D H0 E s) (hR : gm_HR D H0 s h H) {i : Instr} {st as rest : List Value} {sd mi : Nat} (hsd : sd ≠ 4)
    (hq : gm_cal M.2.2.2.2.2.1 i st h = some (sd, mi, as, rest)) (hdg : decode c.code pc = .ok (i, 3)) :
    ∃ (M' : gm_M) (mk : MethodId) (vm₁ : Vm), gm_mt[mi]? = some M' ∧ 0 < mi ∧ (rest.map fun v => v.category).sum ≤ 8 ∧ (gm_en1 as).length ≤ M'.2.2.1 ∧ s.methodNamed? M'.1 = some mk ∧ s.WarmedH vm₁ ∧ Stand p l e R s m args below meth c (T.setVm vm₁) locs cells slots ∧
      ∀ target, (∀ acts, Steps p.tables e below (doInvoke e ((T.setVm vm₁).setTop (F0 m pc ls rest)) acts mk as.toArray).1 target) → Steps p.tables e below (T.setTop (F0 m pc ls st)) target := by
  obtain ⟨x, n, w, hm, h8, hen, hcase⟩ := gm_cal_of hq
  have hok := gm_ct_ok _ hm
  unfold gm_ctq at hok
  dsimp only at hok
  obtain ⟨hx, -, -, -, -, -, hown, -⟩ := hF
  obtain ⟨hts, hK, -, -, -, -, hxw, -⟩ := id hC
  split at hok
  case _ M' wd hM' hwd =>
    rw [if_neg hsd] at hok
    simp only [Bool.and_eq_true, decide_eq_true_eq] at hok
    obtain ⟨⟨h0, hnp⟩, hok⟩ := hok
    have hcode := hts _ (gm_cw_mem h0 hM') args
    have hin := List.mem_of_getElem? hM'
    obtain ⟨hy, hcn, -⟩ := gm_mt_nm M' hin
    have hen' : (gm_en1 as).length ≤ M'.2.2.1 := by
      unfold gm_mL at hen
      rw [hM'] at hen
      exact hen
    have hlen : ∀ sig, parseMethodDescriptor M'.1.desc = some sig → n = sig.parameters.length := by
      intro sig hs
      rw [hs] at hnp
      exact (Option.some.inj hnp).symm
    obtain ⟨mk, methM, cM, hnamed, hmethM, hcodeM, hcM, hmL, -, hret, hlk, hsigM⟩ := gm_cw_spec hcode
    rcases hcase with ⟨e1, ei, hn, rfl, rfl⟩ | ⟨e1, a, hd, rfl, hcase⟩
    · subst e1; subst ei
      rw [if_neg (by decide), if_pos rfl] at hok
      simp only [Bool.and_eq_true, decide_eq_true_eq] at hok
      obtain ⟨hlink, hstat⟩ := hok
      have hlink := hts _ (gm_gw_mem hlink rfl) args
      have hstat := hts _ (gm_lw_mem hstat rfl) args
      have hwi : Cond.initialized M'.1.cls ∈ gm_gw := by
        have hz : (M', wd) ∈ (gm_mt.zip gm_mw).drop 1 := by
          refine List.mem_of_getElem? (i := mi - 1) ?_
          rw [List.getElem?_drop, show 1 + (mi - 1) = mi by omega, List.getElem?_zip_eq_some]
          exact ⟨hM', hwd⟩
        exact gm_lw_mem (gm_mw_in _ hz) rfl
      have hini := hts _ hwi args
      have hstatic : methM.isStatic = true := Cond.static_spec hnamed hmethM hstat
      obtain ⟨kP, hkP, -⟩ := className_of_methodNamed hnamed
      have hinitP : kP.init = .initialized := Cond.initialized_spec (findClass_of_methodNamed hnamed) hkP hini
      obtain ⟨vm₁, X₁, hstep₁⟩ := X.invokestatic hx hown hlink hnamed hmethM hstatic hkP hinitP hy (g := F0 m pc ls st) rfl (argsL := (st.take n).reverse) (rest := st.drop n) (by rw [List.length_reverse, List.length_take]; have := hlen _ hsigM; omega) (by rw [List.reverse_reverse, List.take_append_drop]) hdg
      exact ⟨M', mk, vm₁, hM', h0, h8, hen', hnamed, X₁.warmed, X₁, hstep₁⟩
    · have hnl : n < st.length := by
        rcases Nat.lt_or_ge n st.length with z | z
        · exact z
        · rw [List.drop_eq_nil_of_le z] at hd; cases hd
      have hst : st = (st.take n).reverse.reverse ++ .ref a :: rest := by rw [List.reverse_reverse, ← hd, List.take_append_drop]
      have hlen2 : ∀ sig, parseMethodDescriptor M'.1.desc = some sig → ((st.take n).reverse).length = sig.parameters.length := by
        intro sig hs
        rw [List.length_reverse, List.length_take]
        have := hlen sig hs
        omega
      rcases hcase with ⟨e0, ei, hrc⟩ | ⟨e2, ei⟩
      · subst e0; subst ei
        rw [if_pos rfl] at hok
        simp only [Bool.and_eq_true, decide_eq_true_eq] at hok
        obtain ⟨⟨⟨hlink, hinst⟩, hsel⟩, h6⟩ := hok
        have hlink := hts _ (gm_gw_mem hlink rfl) args
        have hinst := hts _ (gm_lw_mem hinst rfl) args
        have hsel := hts _ (gm_lw_mem hsel rfl) args
        rw [hM'] at hrc
        cases hrd : gm_rd h a with
        | none => rw [hrd] at hrc; cases hrc
        | some cl =>
          obtain ⟨k, vs⟩ := cl
          rw [hrd] at hrc
          have ek : k = M'.2.2.2.2.2.1 := Option.some.inj hrc
          obtain ⟨cellB, hcB, hoB, hclB⟩ := gm_recv hC hR hrd (by omega)
          rw [ek, hcn] at hclB
          obtain ⟨mk2, methM2, hnamed2, hmethM2, hstM, habM⟩ := Cond.instanceMethod_spec hinst
          cases hnamed.symm.trans hnamed2
          cases hmethM.symm.trans hmethM2
          obtain ⟨c2, r2, m2, q1, q2, q3, q4, kP, hkP, hkPi⟩ := Cond.selects_spec hsel
          cases hclB.symm.trans q1
          cases (State.methodFound?_of_named hnamed hy).symm.trans q2
          cases hnamed.symm.trans q3
          have hselP : selectMethod e.platform s.vm cellB.cls mk = .method mk := by rw [Launch.admits_selectMethod X.admits]; exact q4
          obtain ⟨vm₁, X₁, hstep₁⟩ := X.invokevirtual hx hown hlink hnamed hmethM hstM hkP hkPi hy (a := a) (cell := cellB) (by rw [hT]; exact hcB)
            (fun z hz => by rw [hz] at hoB; cases hoB) hselP hmethM habM hkP hkPi (g := F0 m pc ls st) rfl (argsL := (st.take n).reverse) (rest := rest) (hlen2 _ hsigM) hst hdg
          exact ⟨M', mk, vm₁, hM', h0, h8, hen', hnamed, X₁.warmed, X₁, hstep₁⟩
      · subst ei
        have hpl : e.platform.magicAccessors = ({} : Platform).magicAccessors := by rw [X.admits.platform]
        rcases (show sd = 2 ∨ sd = 3 by omega) with z | z
        · subst z
          rw [if_neg (by decide), if_neg (by decide), if_pos rfl] at hok
          simp only [Bool.and_eq_true, decide_eq_true_eq] at hok
          obtain ⟨⟨⟨⟨hlink, hinst⟩, hnm⟩, hhh⟩, hrn⟩ := hok
          have hlink := hts _ (gm_gw_mem hlink rfl) args
          have hinst := hts _ (gm_lw_mem hinst rfl) args
          have hcode' : (Cond.code M'.1 M'.2.1 M'.2.2.1 none).before args s = true := by
            unfold gm_cw at hcode
            rw [hhh] at hcode
            rw [← hrn]
            exact hcode
          obtain ⟨mk3, methM3, cM3, kP, vm₁, hnamed3, hmethM3, hcodeM3, -, hlocalsM, -, hkP, -, hW₁, hstep₁⟩ := Steps.initColdArgs (e := e) X.here hx X.warmed hpl hown hnm hy hlink hinst hcode' (f := F0 m pc ls st) rfl hlen2 hst hdg
          cases hnamed.symm.trans hnamed3
          exact ⟨M', mk, vm₁, hM', h0, h8, hen', hnamed, hW₁, X.noted hW₁, hstep₁⟩
        · subst z
          rw [if_neg (by decide), if_neg (by decide), if_neg (by decide), if_pos rfl] at hok
          simp only [Bool.and_eq_true, decide_eq_true_eq] at hok
          obtain ⟨⟨⟨⟨hlink, hinst⟩, hnm⟩, hhh⟩, hrn⟩ := hok
          have hlink : (Cond.methodLinkNest (gm_cn.getD M.2.2.2.2.2.1 "") x M'.1 "GraphReader").before args s = true := va_Nw.use rfl (hxw _ (List.mem_filter.mpr ⟨List.mem_of_getElem? hlink, rfl⟩))
          have hinst := hts _ (gm_lw_mem hinst rfl) args
          have hcode' : (Cond.code M'.1 M'.2.1 M'.2.2.1 none).before args s = true := by
            unfold gm_cw at hcode
            rw [hhh] at hcode
            rw [← hrn]
            exact hcode
          obtain ⟨mk3, methM3, cM3, kP, vm₁, hnamed3, hmethM3, hcodeM3, -, hlocalsM, -, hkP, -, hW₁, hstep₁⟩ := Steps.initColdArgsNest (e := e) X.here hx X.warmed hpl hown hnm hy hlink hinst hcode' (f := F0 m pc ls st) rfl hlen2 hst hdg
          cases hnamed.symm.trans hnamed3
          exact ⟨M', mk, vm₁, hM', h0, h8, hen', hnamed, hW₁, X.noted hW₁, hstep₁⟩
  case _ => cases hok
end GMI
