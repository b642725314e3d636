/-! THE PLAIN MACHINE, 10: what the tables say of methods and calls. -/
theorem gm_lw_mem {w : Cond} {i : Nat} (h : lw_tbl[i]? = some w) (hg : goodWord w = true) : w ∈ gm_gw :=
  List.mem_filter.mpr ⟨List.mem_of_getElem? h, hg⟩
theorem gm_cw_good (M : gm_M) : goodWord (gm_cw M) = true := by
  unfold gm_cw
  split <;> rfl
theorem gm_cw_mem {mi : Nat} {M : gm_M} (h0 : 0 < mi) (hM : gm_mt[mi]? = some M) : gm_cw M ∈ gm_gw := by
  have hlt : mi < gm_mt.length := (List.getElem?_eq_some_iff.mp hM).1
  rw [gm_mt_len] at hlt
  have h := gm_cwok mi h0 hlt
  rw [show gm_mt.getD mi gm_m0 = M by rw [List.getD_eq_getElem?_getD, hM]; rfl] at h
  exact gm_lw_mem h (gm_cw_good M)
set_option maxRecDepth 100000 in
theorem gm_mw_in : ∀ q ∈ (gm_mt.zip gm_mw).drop 1, lw_tbl[q.2.2.2.2]? = some (.initialized q.1.1.cls) := by decide +kernel
set_option maxRecDepth 100000 in
theorem gm_mt_nm : ∀ M ∈ gm_mt, (M.1.cls ≠ "java/lang/invoke/MethodHandle" ∧ M.1.cls ≠ "java/lang/invoke/VarHandle") ∧ gm_cn.getD M.2.2.2.2.2.1 "" = M.1.cls ∧ M.2.2.1 ≤ 12 := by decide +kernel
set_option maxRecDepth 100000 in
theorem gm_mt_pn : ∀ M ∈ gm_mt, plainName M.1.cls = true ∨ M.1 = ⟨"java/lang/Math", "min", "(II)I"⟩ ∨ M.1 = ⟨"java/lang/Math", "max", "(II)I"⟩ := by decide +kernel
theorem gm_nr1 : (NativeRow.find? Jvm.natives "java/lang/Math" "min" "(II)I").isNone = true := by decide +kernel
theorem gm_nr2 : (NativeRow.find? Jvm.natives "java/lang/Math" "max" "(II)I").isNone = true := by decide +kernel
theorem gm_pf {M : gm_M} (h : M ∈ gm_mt) : plainFor M.1 = true := by
  rcases gm_mt_pn M h with z | z | z
  · exact plainFor_of_name z
  · rw [z]; unfold plainFor; rw [gm_nr1, Bool.or_true]
  · rw [z]; unfold plainFor; rw [gm_nr2, Bool.or_true]
theorem gm_cw_spec {M : gm_M} {args : Array Value} {s : State} (h : (gm_cw M).before args s = true) :
    ∃ m meth c, s.methodNamed? M.1 = some m ∧ s.vm.method? m = some meth ∧ meth.code = some c ∧ c.code = M.2.1 ∧ c.maxLocals = M.2.2.1 ∧ c.exceptionTable.toList.map (fun h => (h.startPc, h.endPc, h.handlerPc, h.catchType)) = M.2.2.2.2.1 ∧ meth.sig.returnType = M.2.2.2.1 ∧ meth.locks = false ∧ parseMethodDescriptor M.1.desc = some meth.sig := by
  unfold gm_cw at h
  split at h
  case _ e =>
    obtain ⟨m, hn⟩ := Cond.code_named h
    obtain ⟨meth, c, h1, h2, h3, h4, h5, h6, h7, h8⟩ := Cond.code_spec hn h
    refine ⟨m, meth, c, hn, h1, h2, h3, h4, ?_, h5, h6, h8⟩
    rw [e]
    have : c.exceptionTable = #[] := by simpa using h7
    rw [this]; rfl
  case _ hh _ =>
    obtain ⟨m, meth, c, h0, h1, h2, h3, h4, h5, h6, h7, h8⟩ := Cond.codeWith_spec h
    exact ⟨m, meth, c, h0, h1, h2, h3, h4, h5, h6, h7, h8⟩
/-- a call's row: the words of its sort -/
def gm_ctq (q : Nat × Nat × Nat × Nat × Nat × Nat) : Bool := match gm_mt[q.2.2.2.1]?, gm_mw[q.2.2.2.1]? with
  | some M, some w =>
    if q.2.2.1 = 4 then decide (tables_1[q.2.2.2.2.2]? = some (.methodLink (gm_cn.getD q.1 "") q.2.1 objectInit)) && decide (q.2.2.2.2.1 = 0)
    else decide (0 < q.2.2.2.1) && decide ((parseMethodDescriptor M.1.desc).map (fun d => d.parameters.length) = some q.2.2.2.2.1) &&
      (if q.2.2.1 = 0 then decide (tables_1[q.2.2.2.2.2]? = some (.methodLink (gm_cn.getD q.1 "") q.2.1 M.1)) && decide (lw_tbl[w.2.1]? = some (.instanceMethod M.1)) && decide (lw_tbl[w.2.2.1]? = some (.selects M.1.cls M.1 M.1)) && decide (M.2.2.2.2.2.1 ≤ 6)
      else if q.2.2.1 = 1 then decide (tables_1[q.2.2.2.2.2]? = some (.methodLink (gm_cn.getD q.1 "") q.2.1 M.1)) && decide (lw_tbl[w.2.1]? = some (.static M.1))
      else if q.2.2.1 = 2 then decide (tables_1[q.2.2.2.2.2]? = some (.methodLink (gm_cn.getD q.1 "") q.2.1 M.1)) && decide (lw_tbl[w.2.1]? = some (.instanceMethod M.1)) && decide (M.1.name = "<init>") && decide (M.2.2.2.2.1 = []) && decide (M.2.2.2.1 = none)
      else if q.2.2.1 = 3 then decide (tables_1[q.2.2.2.2.2]? = some (.methodLinkNest (gm_cn.getD q.1 "") q.2.1 M.1 "GraphReader")) && decide (lw_tbl[w.2.1]? = some (.instanceMethod M.1)) && decide (M.1.name = "<init>") && decide (M.2.2.2.2.1 = []) && decide (M.2.2.2.1 = none)
      else false)
  | _, _ => false
set_option maxRecDepth 100000 in
theorem gm_ct_ok : ∀ q ∈ gm_ct, gm_ctq q = true := by decide +kernel
theorem gm_oi1 : Cond.instanceMethod objectInit ∈ gm_gw := by decide +kernel
