/-! THE CLAIM OUT OF A PURE ONE: what is left is a run of the plain machine. -/
/-- THE PURE GOAL: from every first heap the law's run ends with 1, within the room -/
def gm_Pure : Prop := ∀ (E : Nat → Value) (b : Nat) (xs : List Int32) (h0 : gm_H), xs.length ≤ 3076 → gm_Ini E b xs h0 →
  ∃ (n d : Nat) (h' : gm_H), d ≤ 2000 ∧ gm_run E n d 0 0 (gm_en [.ref b] 4) [] h0 = some (.inl (some (.int 1)), h') ∧ h'.1 ≤ h0.1 + 601024 ∧ h'.2.1 ≤ h0.2.1 + 7293000
def lw_P (b : Addr) (xs : List Int32) (args : Array Value) (s : State) : Prop := args = #[.ref b] ∧ s.IntsAt b xs ∧ xs.length ≤ 3076 ∧ (Jvm.Cond.and given_1 narrow_1).before args s = true ∧ heapFits s = true
def lw_Q (_ : Array Value) (s : State) (o : Outcome) (t : State) : Prop := o = .returned (some (.int 1)) ∧ Framed s o t [] 601024 7293000
set_option maxHeartbeats 4000000 in
theorem lw_walk (hp : gm_Pure) {l : Launch} (hl : l.stackTraces = false) (b : Addr) (xs : List Int32) : MetFree l x (headSpec (Jvm.Cond.code x code maxLocals ret :: tables_1) room_1) (lw_P b xs) (fun _ _ _ _ _ => True) lw_Q := by
  refine MetFree.of_bodyS (code := code) (maxLocals := maxLocals) (ret := ret) (by decide) ?_ ?_
  · intro args s m h hn
    obtain ⟨meth, c, h1, h2, h3, h4, h5, h6, -, -⟩ := Cond.code_spec hn (atoms_spec (ws := Jvm.Cond.code x code maxLocals ret :: tables_1) h _ List.mem_cons_self)
    exact ⟨meth, c, h1, h2, h3, h4, h5, h6⟩
  · intro p e s m args below meth c s₁ B hml0 hP _
    obtain ⟨rfl, hx, hbd, hgv, hfit⟩ := hP
    obtain ⟨scr, harrAt, hlist, hof, hsmall⟩ := hx
    obtain ⟨hcb, hkn, -, -⟩ := State.arrayAt?_spec harrAt
    have hown : s.vm.findClass "GraphReaderLaw" = some m.cls := findClass_of_methodNamed B.named
    have hts0 : ∀ c ∈ (Jvm.Cond.code x code maxLocals ret :: tables_1), c.before #[Value.ref b] s = true := atoms_spec (ws := Jvm.Cond.code x code maxLocals ret :: tables_1) B.pre
    have hts : ∀ w ∈ lw_tbl, w.before #[Value.ref b] s = true := k2_hts_sels lw_privs (fun w hw => hts0 w (List.mem_cons_of_mem _ hw)) lw_privs_ok
    have hml : c.maxLocals = 4 := B.maxLocals_eq (hts0 _ List.mem_cons_self)
    have X₀ : Stand p l e room_1 s m #[Value.ref b] below meth c s₁ [] 0 0 := Stand.of_body B
    have hh0 : s₁.heap = s.heap := by rw [B.state]; rfl
    have hsz : scr.slots.size = xs.length := by rw [← Array.length_toList, hlist, List.length_map]
    have hval : ∀ j : Nat, j < xs.length → scr.slots[j]? = some (.int (xs.getD j 0)) := fun j hj => by
      rw [← Array.getElem?_toList, hlist]
      simp [hj]
    have hX : va_X b xs.length (fun j => xs.getD j 0) s s.heap := ⟨scr, hcb, hof, hkn, hsz, hval⟩
    obtain ⟨D, E, h0, hC, hR, hI⟩ := gm_start (by omega) hfit hts hX hgv
    have hxs : (List.range xs.length).map (fun j => xs.getD j 0) = xs := by
      apply List.ext_getElem? fun j => ?_
      rcases Nat.lt_or_ge j xs.length with hj | hj
      · simp [List.getElem?_range hj, hj]
      · rw [List.getElem?_eq_none (by simp; omega), List.getElem?_eq_none hj]
    rw [hxs] at hI
    obtain ⟨n, d, h', hd, hrun, hc1, hs1⟩ := hp E b xs h0 hbd hI
    obtain ⟨-, c', -, hc', -, -, -, -, hex, -⟩ := Cond.code_spec B.named (hts0 _ List.mem_cons_self)
    have hnm := (name_of_methodNamed B.named B.method).1
    have hM : gm_mt[0]? = some (⟨"GraphReaderLaw", "law", "([I)Z"⟩, code, 4, some .boolean, [], 7, 3) := rfl
    have hF : gm_Fr (⟨"GraphReaderLaw", "law", "([I)Z"⟩, code, 4, some .boolean, [], 7, 3) p s m meth c := by
      refine ⟨B.exec, B.bytes, hml, B.returns, B.notSynchronized, ?_, hown, hnm⟩
      have he := B.noHandlers (hts0 _ List.mem_cons_self)
      have he2 : c.exceptionTable = #[] := by simpa using he
      rw [he2]; rfl
    have hle := gm_run_le _ _ _ _ _ _ _ _ _ hrun
    have K := gm_sim hl D s.heap E n d 0 0 _ _ h0 _ h' hrun p e room_1 s m #[Value.ref b] below meth c s.heap [] 0 0 _ _ hM hF hC hR (gm_entry (vs := [.ref b]) (n := 4) (by show 1 ≤ 4; decide))
      (by show d + 8 ≤ 2048; omega) (by show 40 * d + 200 ≤ 84000; omega) (by show 0 + (h'.1 - h0.1) ≤ 601024; omega) (by show 0 + (h'.2.1 - h0.2.1) ≤ 7293000; omega) (fun q hq => by cases hq)
    obtain ⟨t, a1, o, b1, b2, b3, -, b5, L, b6, b7⟩ := K s₁ hh0 X₀
    refine ⟨t, o, ?_, b1, b2, b3, ⟨_, b3⟩, b5, b6.weaken (fun y hy hlt => absurd hlt (Nat.not_lt.mpr (b7 y hy))) (by omega) (by omega)⟩
    show Steps p.tables e below (s₁.setTop (entryFrame m ([Value.ref b] : List Value).toArray 4)) t
    rw [lg_entry_eq]
    exact a1
theorem lw_pre_spec {args : Array Value} {s : State} (hf : heapFits s = true) (h : (Jvm.Cond.and given_1 narrow_1).before args s = true) (hr : rest_1_c.before args s = true) : ∃ (b : Addr) (xs : List Int32), lw_P b xs args s := by
  have hs := flat_of_before _ h
  have hq := flat_of_before _ hr
  have hc : (Cond.count 1).before args s = true := hs _ (by decide +kernel)
  have harr : (Cond.arrayOf (.arg 0) .int).before args s = true := hs _ (by decide +kernel)
  have hle : (Cond.le (.length (.arg 0)) (.int 3076)).before args s = true := hs _ (by decide +kernel)
  have hlen : (Cond.isInt (.length (.arg 0))).before args s = true := hq _ (by decide +kernel)
  have hall : (Cond.all (.arg 0) (.isInt (.elem (.arg 0) (.index 0)))).before args s = true := hq _ (by decide +kernel)
  obtain ⟨b, xs, hb, hx⟩ := State.ints_of_pre rfl harr hlen hall
  have hsm : xs.length < 2 ^ 31 := hx.choose_spec.2.2.2
  have hev : (Term.length (.arg 0)).eval args s none [] s = some (.int xs.length.toInt32) := hx.length_eval hb
  have hv := Cond.le_ints hev (show (Term.int 3076).eval args s none [] s = some (.int 3076) from rfl)
  have hd : xs.length.toInt32 ≤ 3076 := by
    simpa [Cond.before, Cond.holds, hv] using hle
  have hN : xs.length ≤ 3076 := (Int32.ofNat_le_ofNat hsm (by decide)).mp (show Int32.ofNat xs.length ≤ Int32.ofNat 3076 from hd)
  exact ⟨b, xs, Cond.one_arg hc (show args[0]? = some (.ref b) from hb), hx, hN, h, hf⟩
theorem lw_frame {s t : State} {o : Outcome} {args : Array Value} (h : Framed s o t [] 601024 7293000) :
    Framed s o t (fieldLocs frame_1_writes args s ++ arrayLocs frame_1_arrays args s ++ staticLocs frame_1_statics s) 601024 7293000 := h
theorem lw_limb (hp : gm_Pure) (L : Cond) (hL : ∀ (args : Array Value) (s t : State), L.after args s (.returned (some (.int 1))) t = true) :
    ArmFor flags0 classFile x code maxLocals ret World_1 tables_1 room_1 Calls_1 rest_1 Pre_1
      (fun tb e a s o t => postC L tb e a s o t ∧ Framed s o t (fieldLocs frame_1_writes a s ++ arrayLocs frame_1_arrays a s ++ staticLocs frame_1_statics s) 601024 7293000) := by
  intro l hfl _ _ p e ha hc hk s m args below hf hfit hheap happ hpre
  have hl : l.stackTraces = false := by unfold Launch.stackTraces; rw [hfl]; decide
  obtain ⟨b, xs, hP⟩ := lw_pre_spec hheap hpre.2.2 hpre.2.1
  obtain ⟨k, o, h1, h2, h3, rfl, hF⟩ := lw_walk hp hl b xs p e ha hc hk s m args below hf ((Spec.applies_iff_loose hf).mp happ).1 hP trivial
  exact ⟨k, _, h1, h2, h3, hL args s _, lw_frame hF⟩
theorem gm_claim (hp : gm_Pure) : Claimed_1_1 ∧ Claimed_1_2 := ⟨lw_limb hp limb_1_1 (fun args s t => by simp [limb_1_1, Cond.after, Cond.holds, Cond.value]), lw_limb hp limb_1_2 (fun args s t => Cond.after_iff.mpr (by
  first | (rw [show limb_1_2 = Cond.eq .result (.int 1) from rfl, Cond.eq_ints (x := 1) (y := 1) rfl rfl]; simp; done) | (simp [limb_1_2, Cond.value, Term.eval]; done)))⟩
