/-! THE PLAIN MACHINE, 4: the heap, one step, a run. -/
/-- a cell: its kind (0 .. 5 the objects of our classes, 6 a String, 7 an exception, 100 + t, 200 + t, 300 + t arrays), what it holds -/
abbrev gm_C : Type := Nat × List Value
/-- the next address, how many slots have been laid, the cells -/
abbrev gm_H : Type := Nat × Nat × (Nat → Option gm_C)
/-- how a call ends: with a value or none; or with an exception -/
abbrev gm_R : Type := Option Value ⊕ Nat
def gm_rd (h : gm_H) (a : Nat) : Option gm_C := h.2.2 a
def gm_wr (h : gm_H) (a : Nat) (c : gm_C) : gm_H := (h.1, h.2.1, fun b => if b = a then some c else h.2.2 b)
def gm_nw (h : gm_H) (c : gm_C) (n : Nat) : gm_H := (h.1 + 1, h.2.1 + n, fun b => if b = h.1 then some c else h.2.2 b)
/-- who may write a kind -/
def gm_ko (k : Nat) : Nat := if k < 5 then 1 else if k = 5 then 2 else if k < 100 then 3 else k / 100
def gm_at (k : Nat) : FieldType := match k % 100 with
  | 0 => .int
  | 1 => .long
  | 2 => .byte
  | 3 => .boolean
  | 4 => .char
  | 5 => .short
  | 10 => .object "GraphReader$LocalClass"
  | 11 => .object "GraphReader$Thing"
  | 12 => .object "GraphReader$Descriptor"
  | _ => .float
def gm_look {α : Type} (T : List (Nat × Nat × α)) (c i : Nat) : Option α := match T with
  | [] => none
  | (a, b, x) :: r => if a = c ∧ b = i then some x else gm_look r c i
def gm_fi (T : List (Nat × Instr × Nat)) (pc : Nat) : Option (Instr × Nat) := match T with
  | [] => none
  | (a, x) :: r => if a = pc then some x else gm_fi r pc
def gm_ft (mi pc : Nat) : Option (Instr × Nat) := gm_fi (gm_iL.getD mi []) pc
def gm_al (p : Nat → Bool) (h : gm_H) (a : Nat) (j : Int32) (st : List Value) : Option (Nat × List Value) := match gm_rd h a with
  | some (k, vs) => if 100 ≤ k ∧ p (k % 100) = true ∧ ¬ j < 0 then match vs[j.toNatClampNeg]? with
    | some v => some (1, v :: st)
    | none => none
    else none
  | none => none
/-- reading: fields, arrays, statics, constants -/
def gm_rdop (E : Nat → Value) (cn : Nat) (i : Instr) (st : List Value) (h : gm_H) : Option (Nat × List Value) := match i, st with
  | .getfield x, .ref a :: st => match gm_look gm_flt cn x, gm_rd h a with
    | some (ci, k, _), some (k', vs) => if k' = ci then match vs[k]? with
      | some v => some (3, v :: st)
      | none => none
      else none
    | _, _ => none
  | .arraylength, .ref a :: st => match gm_rd h a with
    | some (k, vs) => if 100 ≤ k then some (1, .int (nI vs.length) :: st) else none
    | none => none
  | .iaload, .int j :: .ref a :: st => gm_al (fun t => t == 0) h a j st
  | .laload, .int j :: .ref a :: st => gm_al (fun t => t == 1) h a j st
  | .baload, .int j :: .ref a :: st => gm_al (fun t => t == 2 || t == 3) h a j st
  | .aaload, .int j :: .ref a :: st => gm_al (fun t => t == 10 || t == 11 || t == 12) h a j st
  | .getstatic x, st => match gm_look gm_stt cn x with
    | some q => some (3, E q.1 :: st)
    | none => none
  | .ldc x, st => match gm_look gm_ict cn x with
    | some q => some (2, .int q.1 :: st)
    | none => match gm_look gm_sct cn x with
      | some q => some (2, E q.1 :: st)
      | none => none
  | .ldc_w x, st => match gm_look gm_ict cn x with
    | some q => some (3, .int q.1 :: st)
    | none => match gm_look gm_sct cn x with
      | some q => some (3, E q.1 :: st)
      | none => none
  | .ldc2_w x, st => match gm_look gm_lct cn x with
    | some q => some (3, .long q.1 :: st)
    | none => none
  | _, _ => none
def gm_aw (t : Nat) (ow : Nat) (h : gm_H) (a : Nat) (j : Int32) (v : Value) (st : List Value) : Option (Nat × List Value × gm_H) := match gm_rd h a with
  | some (k, vs) => if 100 ≤ k ∧ k % 100 = t ∧ gm_ko k = ow ∧ ow < 3 ∧ ¬ j < 0 ∧ j.toNatClampNeg < vs.length then some (1, st, gm_wr h a (k, vs.set j.toNatClampNeg v)) else none
  | none => none
def gm_isB (h : gm_H) (a : Nat) : Bool := match gm_rd h a with
  | some (k, _) => k % 100 == 3
  | none => false
/-- which array takes an object of a kind -/
def gm_cmp (k : Nat) : Nat := if k = 3 then 10 else if k = 4 then 11 else if k = 1 then 12 else 99
/-- writing -/
def gm_wrop (cn ow : Nat) (ini : Bool) (i : Instr) (st : List Value) (h : gm_H) : Option (Nat × List Value × gm_H) := match i, st with
  | .putfield x, v :: .ref a :: st => match gm_look gm_flt cn x, gm_rd h a with
    | some (ci, k, _), some (k', vs) =>
      if k' = ci ∧ ci < 6 ∧ gm_ko ci = ow ∧ k < vs.length ∧ narrow (gm_ty ci k) v = v ∧ fits (gm_ty ci k) v = true ∧ ((gm_T ci k).2.2.2 = false ∨ (ini = true ∧ ci = cn)) then some (3, st, gm_wr h a (ci, vs.set k v)) else none
    | _, _ => none
  | .iastore, .int x :: .int j :: .ref a :: st => gm_aw 0 ow h a j (.int x) st
  | .lastore, .long x :: .int j :: .ref a :: st => gm_aw 1 ow h a j (.long x) st
  | .bastore, .int x :: .int j :: .ref a :: st => if gm_isB h a = true then gm_aw 3 ow h a j (.int (x &&& 1)) st else gm_aw 2 ow h a j (.int x.toInt8.toInt32) st
  | .aastore, .null :: .int j :: .ref a :: st => match gm_rd h a with
    | some (k, _) => if 10 ≤ k % 100 ∧ k % 100 ≤ 12 then gm_aw (k % 100) ow h a j .null st else none
    | none => none
  | .aastore, .ref b :: .int j :: .ref a :: st => match gm_rd h b with
    | some (kb, _) => if kb < 6 ∧ gm_cmp kb < 99 then gm_aw (gm_cmp kb) ow h a j (.ref b) st else none
    | none => none
  | _, _ => none
def gm_ac (t : ArrayType) : Option Nat := match t with
  | .int => some 0
  | .long => some 1
  | .byte => some 2
  | .boolean => some 3
  | _ => none
/-- making -/
def gm_nwop (cn ow : Nat) (i : Instr) (st : List Value) (h : gm_H) : Option (Nat × List Value × gm_H) := match i, st with
  | .new x, st => match gm_look gm_nwt cn x with
    | some (ci, _) => if ci < 6 then some (3, .ref h.1 :: st, gm_nw h (ci, (List.range (gm_N ci)).map (fun k => defaultValue (gm_ty ci k))) (gm_N ci)) else none
    | none => none
  | .newarray t, .int n :: st => match gm_ac t with
    | some q => if ¬ n < 0 ∧ n.toNatClampNeg ≤ 60000000 ∧ 1 ≤ ow ∧ ow < 3 then some (2, .ref h.1 :: st, gm_nw h (100 * ow + q, List.replicate n.toNatClampNeg (defaultValue (gm_at q))) n.toNatClampNeg) else none
    | none => none
  | .anewarray x, .int n :: st => match gm_look gm_ant cn x with
    | some (q, _, _) => if ¬ n < 0 ∧ n.toNatClampNeg ≤ 60000000 ∧ 1 ≤ ow ∧ ow < 3 then some (3, .ref h.1 :: st, gm_nw h (100 * ow + q, List.replicate n.toNatClampNeg .null) n.toNatClampNeg) else none
    | none => none
  | _, _ => none
def gm_en1 : List Value → List Value
  | [] => []
  | .long x :: r => .long x :: gm_u :: gm_en1 r
  | .double x :: r => .double x :: gm_u :: gm_en1 r
  | v :: r => v :: gm_en1 r
def gm_en (args : List Value) (n : Nat) : List Value := gm_en1 args ++ List.replicate (n - (gm_en1 args).length) gm_u
def gm_mL (mi : Nat) : Nat := match gm_mt[mi]? with
  | some M => M.2.2.1
  | none => 0
/-- a call: its sort, the callee, its arguments (the receiver first), what is left on the stack -/
def gm_ca1 (cn : Nat) (sorts : List Nat) (x : Nat) (st : List Value) (h : gm_H) : Option (Nat × Nat × List Value × List Value) := match gm_look gm_ct cn x with
  | some (sd, mi, n, _) => if sd ∈ sorts then
      if sd = 1 then (if n ≤ st.length ∧ ((st.drop n).map fun v => v.category).sum ≤ 8 ∧ (gm_en1 (st.take n).reverse).length ≤ gm_mL mi then some (sd, mi, (st.take n).reverse, st.drop n) else none)
      else match st.drop n with
        | .ref a :: rest => if (rest.map fun v => v.category).sum ≤ 8 ∧ (gm_en1 (.ref a :: (st.take n).reverse)).length ≤ gm_mL mi ∧ (sd = 0 → (gm_rd h a).map (·.1) = (gm_mt[mi]?).map (·.2.2.2.2.2.1)) then some (sd, mi, .ref a :: (st.take n).reverse, rest) else none
        | _ => none
    else none
  | none => none
def gm_cal (cn : Nat) (i : Instr) (st : List Value) (h : gm_H) : Option (Nat × Nat × List Value × List Value) := match i with
  | .invokevirtual x => gm_ca1 cn [0] x st h
  | .invokestatic x => gm_ca1 cn [1] x st h
  | .invokespecial x => gm_ca1 cn [2, 3, 4] x st h
  | _ => none
def gm_it (ty : FieldType) : Bool := match ty with
  | .int => true
  | .boolean => true
  | .byte => true
  | .char => true
  | .short => true
  | _ => false
def gm_rt (ret : Option FieldType) (i : Instr) (st : List Value) : Option (Option Value) := match i, st, ret with
  | .ireturn, [.int v], some ty => if gm_it ty = true ∧ narrow ty (.int v) = .int v then some (some (.int v)) else none
  | .lreturn, [.long v], some .long => some (some (.long v))
  | .areturn, [.ref a], some (.object _) => some (some (.ref a))
  | .areturn, [.null], some (.object _) => some (some .null)
  | .return_, [], none => some none
  | _, _, _ => none
def gm_thr (mi cn pc : Nat) (i : Instr) : Bool := match i with
  | .new x => match gm_look gm_tht cn x with
    | some ic => decide (gm_ft mi (pc + 3) = some (.dup, 1)) && decide (gm_ft mi (pc + 4) = some (.invokespecial ic, 3)) && decide (gm_ft mi (pc + 7) = some (.athrow, 1))
    | none => false
  | _ => false
def gm_tg (pc : Nat) (off : Int) : Option Nat := if 0 ≤ (pc : Int) + off then some ((pc : Int) + off).toNat else none
def gm_hd (hh : List (Nat × Nat × Nat × Nat)) (pc : Nat) : Option Nat := match hh with
  | [] => none
  | (a, b, t, _) :: r => if a ≤ pc ∧ pc < b then some t else gm_hd r pc
/-- where a step leads: on; into a call; back with a value; out with an exception -/
abbrev gm_S : Type := (Nat × List Value × List Value × gm_H) ⊕ (Nat × Nat × List Value × List Value) ⊕ Option Value ⊕ (Nat × gm_H)
def gm_next (E : Nat → Value) (mi pc : Nat) (lv st : List Value) (h : gm_H) : Option gm_S := match gm_mt[mi]?, gm_ft mi pc with
  | some (y, _, _, ret, hh, cn, ow), some (i, len) =>
    match gm_pure i st with
    | some (n, st') => if n = len then some (.inl (pc + len, lv, st', h)) else none
    | none => match gm_loc i lv st with
    | some (n, lv', st') => if n = len then some (.inl (pc + len, lv', st', h)) else none
    | none => match gm_br i st with
    | some (t, off, st') => match gm_tg pc off with
      | some tgt => if len = 3 then some (.inl (if t = true then tgt else pc + 3, lv, st', h)) else none
      | none => none
    | none => match gm_sw i st with
    | some (off, st') => match gm_tg pc off with
      | some tgt => some (.inl (tgt, lv, st', h))
      | none => none
    | none => match gm_rdop E cn i st h with
    | some (n, st') => if n = len then some (.inl (pc + len, lv, st', h)) else none
    | none => match gm_wrop cn ow (y.name == "<init>") i st h with
    | some (n, st', h') => if n = len then some (.inl (pc + len, lv, st', h')) else none
    | none => match gm_nwop cn ow i st h with
    | some (n, st', h') => if n = len then some (.inl (pc + len, lv, st', h')) else none
    | none => match gm_cal cn i st h with
    | some q => if len = 3 then (if q.1 = 4 then some (.inl (pc + 3, lv, q.2.2.2, h)) else some (.inr (.inl q))) else none
    | none => match gm_rt ret i st with
    | some v => if len = 1 then some (.inr (.inr (.inl v))) else none
    | none => if gm_thr mi cn pc i = true ∧ len = 3 ∧ (st.map fun v => v.category).sum ≤ 8 ∧ hh = [] then some (.inr (.inr (.inr (h.1, gm_nw h (7, []) 6)))) else none
  | _, _ => none
/-- fuel, depth, method, place, locals, stack, heap -/
def gm_run (E : Nat → Value) : Nat → Nat → Nat → Nat → List Value → List Value → gm_H → Option (gm_R × gm_H)
  | 0, _, _, _, _, _, _ => none
  | n + 1, d, mi, pc, lv, st, h => match gm_next E mi pc lv st h with
    | none => none
    | some (.inl (pc', lv', st', h')) => gm_run E n d mi pc' lv' st' h'
    | some (.inr (.inl (_, mi', args, rest))) => match d, gm_mt[mi']?, gm_mt[mi]? with
      | d' + 1, some M', some M => match gm_run E n d' mi' 0 (gm_en args M'.2.2.1) [] h with
        | none => none
        | some (.inl v, h') => gm_run E n (d' + 1) mi (pc + 3) lv (v.toList ++ rest) h'
        | some (.inr a, h') => match gm_hd M.2.2.2.2.1 pc with
          | some t => gm_run E n (d' + 1) mi t lv [.ref a] h'
          | none => some (.inr a, h')
      | _, _, _ => none
    | some (.inr (.inr (.inl v))) => some (.inl v, h)
    | some (.inr (.inr (.inr (a, h')))) => some (.inr a, h')
def gm_call (E : Nat → Value) (n d mi : Nat) (args : List Value) (h : gm_H) : Option (gm_R × gm_H) := match gm_mt[mi]? with
  | some M => gm_run E n d mi 0 (gm_en args M.2.2.1) [] h
  | none => none
