/-! THE READER, plainly: what a read does to place, heap and handles (after the document and the class's own order). -/
/-- a local class: kind, superclass, id, fields (name, type), barred, constants -/
abbrev gs_C : Type := Int32 × Option Nat × Int64 × List (Int32 × Int32) × Bool × Int32
def gs_kind (c : gs_C) : Int32 := c.1
def gs_sup (c : gs_C) : Option Nat := c.2.1
def gs_cid (c : gs_C) : Int64 := c.2.2.1
def gs_fs (c : gs_C) : List (Int32 × Int32) := c.2.2.2.1
def gs_bar (c : gs_C) : Bool := c.2.2.2.2.1
def gs_con (c : gs_C) : Int32 := c.2.2.2.2.2
/-- what a read leaves alone: limits (depth, handles, length, bytes), classes, the bytes, how many -/
abbrev gs_K : Type := (Int32 × Int32 × Int32 × Int32) × (Nat → Option gs_C) × (Nat → UInt8) × Nat × Bool × Int64
def gs_cls (K : gs_K) : Nat → Option gs_C := K.2.1
def gs_by (K : gs_K) : Nat → UInt8 := K.2.2.1
def gs_n (K : gs_K) : Nat := K.2.2.2.1
/-- what a rest does where no byte is left: begins a read (true), or ends at once -/
def gs_rst (K : gs_K) : Bool := K.2.2.2.2.1
/-- what stands at first in an array of references -/
def gs_fill (K : gs_K) : Int64 := K.2.2.2.2.2
/-- a descriptor's own level: where its name begins, its length, id, flags, fields (name, type), local class -/
abbrev gs_L : Type := Nat × Nat × Int64 × Int32 × List (Int32 × Int32) × Option Nat
def gs_nf (l : gs_L) : Nat := l.1
def gs_nl (l : gs_L) : Nat := l.2.1
def gs_did (l : gs_L) : Int64 := l.2.2.1
def gs_fl (l : gs_L) : Int32 := l.2.2.2.1
def gs_df (l : gs_L) : List (Int32 × Int32) := l.2.2.2.2.1
def gs_own (l : gs_L) : Option Nat := l.2.2.2.2.2
/-- an object: sort, class, values, name, extra -/
abbrev gs_O : Type := Int32 × Option Nat × List Int64 × Int32 × Int32
/-- place, heap, handles (the object's number, -2 null, -1 none; the descriptor and those above it), the first of them that counts -/
abbrev gs_S : Type := Nat × List gs_O × List (Int32 × List gs_L) × Nat
def gs_pl (s : gs_S) : Nat := s.1
def gs_hp (s : gs_S) : List gs_O := s.2.1
def gs_hs (s : gs_S) : List (Int32 × List gs_L) := s.2.2.1
def gs_f1 (s : gs_S) : Nat := s.2.2.2
abbrev gs_M (α : Type) : Type := gs_S → Except Int32 (α × gs_S)
def gs_b {α β : Type} (m : gs_M α) (f : α → gs_M β) : gs_M β := fun s => match m s with
  | .error e => .error e
  | .ok q => f q.1 q.2
def gs_r {α : Type} (a : α) : gs_M α := fun s => .ok (a, s)
def gs_x {α : Type} (e : Int32) : gs_M α := fun _ => .error e
def gs_g : gs_M gs_S := fun s => .ok (s, s)
def gs_p (k : Nat) (s : gs_S) : gs_S := (k, s.2)
/-- a byte with its sign; without -/
def gs_sb (K : gs_K) (i : Nat) : Int32 := (gs_by K i).toInt8.toInt32
def gs_ub (K : gs_K) (i : Nat) : Int64 := (gs_sb K i &&& 255).toInt64
def gs_num (K : gs_K) (a : Nat) : Nat → Int64
  | 0 => 0
  | k + 1 => gs_num K a k <<< 8 ||| gs_ub K (a + k)
def gs_nxt (K : gs_K) (k : Nat) : gs_M Int64 := fun s => if gs_n K - gs_pl s < k then .error (-3) else .ok (gs_num K (gs_pl s) k, gs_p (gs_pl s + k) s)
def gs_u1 (K : gs_K) : gs_M Int32 := gs_b (gs_nxt K 1) fun v => gs_r v.toInt32
def gs_u4 (K : gs_K) : gs_M Int32 := gs_b (gs_nxt K 4) fun v => gs_r v.toInt32
/-- so many signs -/
def gs_sgn (K : gs_K) : Nat → gs_M Unit
  | 0 => gs_r ()
  | k + 1 => fun s => if gs_n K ≤ gs_pl s then .error (-3) else if gs_sb K (gs_pl s) ≤ 0 then .error (-4) else gs_sgn K k (gs_p (gs_pl s + 1) s)
/-- a UTF: where its signs begin -/
def gs_utf (K : gs_K) : gs_M Nat := gs_b (gs_nxt K 2) fun v => gs_b gs_g fun s => gs_b (gs_sgn K v.toInt32.toNatClampNeg) fun _ => gs_r (gs_pl s)
def gs_spelt (K : gs_K) (a n : Nat) (t : List Int32) : Bool := decide (n = t.length) && (List.range n).all fun k => gs_sb K (a + k) == t.getD k 0
def gs_let (K : gs_K) (a n : Nat) (f m : Int32) : Int32 := if n = 1 then (if gs_sb K a - f < m then gs_sb K a - f else -1) else -1
def gs_isB (t : Int32) : Bool := t == 119 || t == 122
def gs_blk (K : gs_K) : gs_M Int32 := gs_b (gs_u1 K) fun t => gs_b (if t = 119 then gs_u1 K else gs_u4 K) fun n => fun s =>
  if n < 0 then .error (-4) else if gs_n K - gs_pl s < n.toNatClampNeg then .error (-3) else .ok (n, gs_p (gs_pl s + n.toNatClampNeg) s)
/-- the rest, with a read one deeper -/
def gs_rest (K : gs_K) (rc : gs_M Int32) : Nat → gs_M Unit
  | 0 => gs_r ()
  | k + 1 => fun s =>
    if gs_n K ≤ gs_pl s then (if gs_rst K = true then gs_b rc (fun _ => gs_rest K rc k) s else .error (-3))
    else if gs_sb K (gs_pl s) = 120 then .ok ((), gs_p (gs_pl s + 1) s)
    else if gs_isB (gs_sb K (gs_pl s)) = true then gs_b (gs_blk K) (fun _ => gs_rest K rc k) s
    else gs_b rc (fun _ => gs_rest K rc k) s
def gs_addT (o : gs_O) : gs_M Nat := fun s => if 234 ≤ (gs_hp s).length then .error (-8) else .ok ((gs_hp s).length, (s.1, gs_hp s ++ [o], s.2.2))
def gs_addE (v : Int32) : gs_M Nat := fun s => if 234 ≤ (gs_hs s).length then .error (-8) else .ok ((gs_hs s).length, (s.1, s.2.1, gs_hs s ++ [(v, [])], gs_f1 s))
def gs_setE (e : Nat) (v : Int32) : gs_M Unit := fun s => .ok ((), (s.1, s.2.1, (gs_hs s).modify e (fun q => (v, q.2)), gs_f1 s))
def gs_setD (e : Nat) (L : List gs_L) : gs_M Unit := fun s => .ok ((), (s.1, s.2.1, (gs_hs s).modify e (fun q => (q.1, L)), gs_f1 s))
/-- an object changed -/
def gs_mod (o : Nat) (f : gs_O → gs_O) : gs_M Unit := fun s => .ok ((), (s.1, (gs_hp s).modify o f, s.2.2))
def gs_size (s : gs_S) : Nat := (gs_hs s).length - gs_f1 s
def gs_room (d : Nat) : gs_M Unit := fun s => if 8 < d ∨ 60 < gs_size s then .error (-8) else .ok ((), s)
def gs_lim (K : gs_K) (l : gs_L) (d : Nat) (n : Int32) : gs_M Unit := fun s =>
  if ((gs_own l).bind (gs_cls K)).any gs_bar = true ∨ K.1.1 < nI d ∨ K.1.2.1 < nI (gs_size s) ∨ K.1.2.2.1 < n ∨ K.1.2.2.2 < nI (gs_pl s) then .error (-8) else .ok ((), s)
def gs_ent (K : gs_K) : gs_M Nat := gs_b (gs_u4 K) fun i => fun s =>
  if i - 8257536 < 0 then .error (-4) else if nI (gs_size s) ≤ i - 8257536 then .error (-4) else .ok (gs_f1 s + (i - 8257536).toNatClampNeg, s)
def gs_ref (K : gs_K) : gs_M Int32 := gs_b (gs_ent K) fun e => fun s => let v := ((gs_hs s).getD e (-1, [])).1; if v = -1 then .error (-4) else .ok (v, s)
def gs_text (K : gs_K) : gs_M Int32 := gs_b (gs_addE (-1)) fun e => gs_b (gs_utf K) fun a => gs_b gs_g fun s =>
  gs_b (gs_addT (1, none, (List.range (gs_pl s - a)).map (fun k => (gs_sb K (a + k)).toInt64), 0, 0)) fun o => gs_b (gs_setE e (nI o)) fun _ => gs_r (nI o)
def gs_sort (s : gs_S) (v : Int32) : Int32 := if v < 0 then -1 else if h : v.toNatClampNeg < (gs_hp s).length then (gs_hp s)[v.toNatClampNeg].1 else -1
/-- the index of a name among fields -/
def gs_ix (fs : List (Int32 × Int32)) (x : Int32) : Option Nat := fs.findIdx? (fun q => q.1 == x)
def gs_fits (l : gs_L) (c : gs_C) : Bool :=
  (decide (gs_fl l &&& 16 = 0) != decide (gs_kind c = 3)) && (decide (gs_fl l &&& 2 = 0) || decide (gs_kind c = 0) || decide (gs_kind c = 3) || decide (gs_did l = gs_cid c)) &&
  (gs_df l).all (fun q => match gs_ix (gs_fs c) q.1 with
    | none => true
    | some j => decide (q.2 = ((gs_fs c).getD j (0, 0)).2) || (decide (6 ≤ q.2) && decide (6 ≤ ((gs_fs c).getD j (0, 0)).2)))
def gs_find (K : gs_K) (a n : Nat) : Option Nat := let c := gs_let K a n 65 6; if c < 0 then none else if (gs_cls K c.toNatClampNeg).isSome = true then some c.toNatClampNeg else none
def gs_types : List Int32 := [66, 67, 73, 74, 83, 90, 91, 76]
/-- a descriptor's fields, k of them left -/
def gs_flds (K : gs_K) (rc : gs_M Int32) : Nat → List (Int32 × Int32) → gs_M (List (Int32 × Int32))
  | 0, fs => gs_r fs
  | k + 1, fs => gs_b (gs_u1 K) fun b => match gs_types.findIdx? (· == b) with
    | none => gs_x (-5)
    | some t => gs_b (gs_utf K) fun a => gs_b gs_g fun s =>
      if t < 6 then gs_flds K rc k (fs ++ [(gs_let K a (gs_pl s - a) 97 26, nI t)])
      else gs_b rc fun v => fun s' => if gs_sort s' v = 1 then gs_flds K rc k (fs ++ [(gs_let K a (gs_pl s - a) 97 26, nI t)]) s' else .error (-4)
/-- a descriptor's flags -/
def gs_flg (K : gs_K) (id : Int64) : gs_M Int32 := gs_b (gs_u1 K) (fun fl s => if (fl &&& 2 ≠ 0 ∧ fl &&& 4 ≠ 0) ∨ (fl &&& 16 ≠ 0 ∧ id ≠ 0) then .error (-5) else .ok (fl, s))
/-- how many fields, and they -/
def gs_strm (K : gs_K) (rc : gs_M Int32) (fl : Int32) : gs_M (List (Int32 × Int32)) := gs_b (gs_nxt K 2) fun c => if 8 < c.toInt32 then gs_x (-5) else gs_b (gs_flds K rc c.toInt32.toNatClampNeg []) fun fs => if fl &&& 16 ≠ 0 ∧ 0 < c.toInt32 then gs_x (-5) else gs_r fs
/-- matched with its local class -/
def gs_mch (K : gs_K) (l : gs_L) : gs_M Unit := fun s => if gs_fl l &&& 4 ≠ 0 then .error (-5) else if ((gs_find K (gs_nf l) (gs_nl l)).bind (gs_cls K)).any (fun c => !gs_fits l c) = true then .error (-5) else .ok ((), s)
/-- a descriptor; up: the one above, none where too many stand above one another -/
def gs_dsc1 (K : gs_K) (rc : gs_M Int32) (up : Option (gs_M (List gs_L))) : gs_M (List gs_L) := gs_b (gs_u1 K) fun t =>
    if t = 112 then gs_r [] else if t = 113 then gs_b (gs_ent K) fun e => fun s => (match ((gs_hs s).getD e (-1, [])).2 with
      | [] => .error (-4)
      | l :: L => .ok (l :: L, s))
    else if t ≠ 114 then gs_x (-4) else match up with
    | none => gs_x (-4)
    | some up => gs_b (gs_utf K) fun a => gs_b gs_g fun s => gs_b (gs_nxt K 8) fun id => gs_b (gs_addE (-1)) fun e => gs_b (gs_flg K id) fun fl => gs_b (gs_strm K rc fl) fun fs =>
      gs_b (gs_rest K rc 701) fun _ => gs_b up fun L => gs_b (gs_mch K (a, gs_pl s - a, id, fl, fs, gs_find K a (gs_pl s - a))) fun _ =>
      gs_b (gs_setD e ((a, gs_pl s - a, id, fl, fs, gs_find K a (gs_pl s - a)) :: L)) fun _ => gs_r ((a, gs_pl s - a, id, fl, fs, gs_find K a (gs_pl s - a)) :: L)
def gs_desc (K : gs_K) (rc : gs_M Int32) : Nat → gs_M (List gs_L)
  | 0 => gs_dsc1 K rc none
  | f + 1 => gs_dsc1 K rc (some (gs_desc K rc f))
/-- the classes of a chain, from itself up -/
def gs_up (K : gs_K) : Nat → Option Nat → List (Nat × gs_C)
  | 0, _ => []
  | _, none => []
  | k + 1, some c => match gs_cls K c with
    | none => []
    | some C => (c, C) :: gs_up K k (gs_sup C)
def gs_chain (K : gs_K) (c : Option Nat) : List (Nat × gs_C) := gs_up K 6 c
def gs_slots (K : gs_K) (c : Option Nat) : Nat := ((gs_chain K c).map fun q => (gs_fs q.2).length).sum
def gs_first (K : gs_K) (C : gs_C) : Nat := gs_slots K (gs_sup C)
def gs_v0 (C : gs_C) (t : Int32) : Int64 := if 6 ≤ t then -2 else if gs_kind C ≠ 0 then 0 else if t = 5 then 1 else 7
/-- the slots as they are at first, topmost class first -/
def gs_slot0 (K : gs_K) (c : Option Nat) : List Int64 := ((gs_chain K c).reverse.map fun q => (gs_fs q.2).map fun f => gs_v0 q.2 f.2).flatten
def gs_inch (K : gs_K) (c of : Option Nat) : Bool := (gs_chain K of).any fun q => some q.1 == c
def gs_prim (K : gs_K) (t : Int32) : gs_M Int64 := gs_b (gs_nxt K (if t = 0 ∨ t = 5 then 1 else if t = 1 ∨ t = 4 then 2 else if t = 2 then 4 else 8)) fun v =>
  gs_r (if t = 0 then v.toInt32.toInt8.toInt32.toInt64 else if t = 2 then v.toInt32.toInt64 else if t = 4 then v.toInt32.toInt16.toInt32.toInt64 else if t = 5 then (if v = 0 then 0 else 1) else v)
/-- the slot of a field in a class that takes it -/
def gs_slot (K : gs_K) (tg : Option Nat) (q : Int32 × Int32) : Option Nat := match tg.bind (gs_cls K) with
  | none => none
  | some C => match gs_ix (gs_fs C) q.1 with
    | none => none
    | some j => if ((gs_fs C).getD j (0, 0)).2 = q.2 then some (gs_first K C + j) else none
def gs_wrt (K : gs_K) (tg : Option Nat) (o : Nat) (q : Int32 × Int32) (v : Int64) : gs_M Unit := fun s => match gs_slot K tg q with
  | none => .ok ((), s)
  | some j => if q.2 = 6 ∧ v.toInt32 ≠ -2 ∧ gs_sort s v.toInt32 ≠ 2 then .error (-6) else gs_mod o (fun ob => (ob.1, ob.2.1, ob.2.2.1.set j v, ob.2.2.2)) s
def gs_vals (K : gs_K) (rc : gs_M Int32) (tg : Option Nat) (o : Nat) : List (Int32 × Int32) → gs_M Unit
  | [] => gs_r ()
  | q :: fs => gs_b (if q.2 < 6 then gs_prim K q.2 else gs_b rc fun v => gs_r v.toInt64) fun v => gs_b (gs_wrt K tg o q v) fun _ => gs_vals K rc tg o fs
def gs_extra (K : gs_K) (o : Nat) : gs_M Unit := fun s =>
  if gs_n K - gs_pl s < 6 then .ok ((), s) else if gs_sb K (gs_pl s) ≠ 119 then .ok ((), s) else if gs_sb K (gs_pl s + 1) &&& 255 < 4 then .ok ((), s)
  else gs_mod o (fun ob => (ob.1, ob.2.1, ob.2.2.1, ob.2.2.2.1, (gs_num K (gs_pl s + 2) 4).toInt32)) s
def gs_data (K : gs_K) (rc : gs_M Int32) (c : Option Nat) (o : Nat) (l : gs_L) : gs_M Unit :=
  let tg := if gs_inch K (gs_own l) c = true then gs_own l else none
  gs_b (gs_vals K rc tg o (gs_df l)) fun _ => if gs_fl l &&& 1 = 0 then gs_r () else gs_b (if (tg.bind (gs_cls K)).any (fun C => gs_kind C == 2) = true then gs_extra K o else gs_r ()) fun _ => gs_rest K rc 701
def gs_dats (K : gs_K) (rc : gs_M Int32) (c : Option Nat) (o : Nat) : List gs_L → gs_M Unit
  | [] => gs_r ()
  | l :: L => gs_b (gs_data K rc c o l) fun _ => gs_dats K rc c o L
def gs_have {α : Type} (m : gs_M (List gs_L)) (f : gs_L → List gs_L → gs_M α) : gs_M α := gs_b m fun L => match L with
  | [] => gs_x (-4)
  | l :: L => f l L
def gs_inst (K : gs_K) (rc : gs_M Int32) (d : Nat) : gs_M Int32 := gs_have (gs_desc K rc 8) fun l up => gs_b (gs_lim K l d 0) fun _ =>
  if gs_fl l &&& 16 ≠ 0 then gs_x (-5) else match gs_own l with
  | none => gs_x (-9)
  | some c => match gs_cls K c with
    | none => gs_x (-9)
    | some C => if gs_kind C = 0 ∨ gs_kind C = 3 then gs_x (-5) else
      gs_b (gs_addT (0, some c, gs_slot0 K (some c), 0, 0)) fun o => gs_b (gs_addE (if gs_kind C = 4 then -2 else nI o)) fun e =>
      gs_b (gs_dats K rc (some c) o (l :: up).reverse) fun _ => gs_b gs_g fun s =>
      if gs_kind C = 4 ∧ (gs_fs C).head?.any (fun q => decide (q.2 < 6)) = true ∧ (((gs_hp s).getD o (0, none, [], 0, 0)).2.2.1.getD 0 0) < 0 then gs_x (-6) else gs_b (gs_setE e (nI o)) fun _ => gs_r (nI o)
def gs_ints (K : gs_K) (o : Nat) : Nat → Nat → gs_M Unit
  | 0, _ => gs_r ()
  | k + 1, j => gs_b (gs_u4 K) fun v => gs_b (gs_mod o (fun ob => (ob.1, ob.2.1, ob.2.2.1.set j v.toInt64, ob.2.2.2))) fun _ => gs_ints K o k (j + 1)
def gs_refs (rc : gs_M Int32) (o : Nat) : Nat → Nat → gs_M Unit
  | 0, _ => gs_r ()
  | k + 1, j => gs_b rc fun v => gs_b (gs_mod o (fun ob => (ob.1, ob.2.1, ob.2.2.1.set j v.toInt64, ob.2.2.2))) fun _ => gs_refs rc o k (j + 1)
def gs_tI : List Int32 := [91, 73]
def gs_tR : List Int32 := [91, 76, 106, 97, 118, 97, 46, 108, 97, 110, 103, 46, 79, 98, 106, 101, 99, 116, 59]
def gs_arr (K : gs_K) (rc : gs_M Int32) (d : Nat) : gs_M Int32 := gs_have (gs_desc K rc 8) fun l _ =>
  let ints := gs_spelt K (gs_nf l) (gs_nl l) gs_tI
  if ints = false ∧ gs_spelt K (gs_nf l) (gs_nl l) gs_tR = false then gs_x (-5) else gs_b (gs_u4 K) fun n => if n < 0 then gs_x (-6) else gs_b (gs_lim K l d n) fun _ =>
  gs_b (gs_addT (if ints = true then 2 else 3, none, List.replicate n.toNatClampNeg (if ints = true then 0 else gs_fill K), 0, 0)) fun o => gs_b (gs_addE (nI o)) fun _ =>
  gs_b (if ints = true then gs_ints K o n.toNatClampNeg 0 else gs_refs rc o n.toNatClampNeg 0) fun _ => gs_r (nI o)
/-- the name that a text of one sign tells -/
def gs_cname (s : gs_S) (v : Int32) : Int32 := if v < 0 then -1 else match (gs_hp s)[v.toNatClampNeg]? with
  | none => -1
  | some ob => if ob.1 = 1 then (match ob.2.2.1 with
    | [x] => x.toInt32 - 97
    | _ => -1) else -1
def gs_only (c : Nat) (nm : Int32) : gs_M Nat := fun s => match (gs_hp s).findIdx? (fun ob => ob.1 == 4 && ob.2.1 == some c && ob.2.2.2.1 == nm) with
  | some k => .ok (k, s)
  | none => gs_addT (4, some c, [], nm, 0) s
def gs_con1 (K : gs_K) (rc : gs_M Int32) (d : Nat) : gs_M Int32 := gs_have (gs_desc K rc 8) fun l _ => gs_b (gs_lim K l d 0) fun _ =>
  if gs_fl l &&& 16 = 0 then gs_x (-5) else match gs_own l with
  | none => gs_x (-9)
  | some c => gs_b (gs_addE (-2)) fun e => gs_b rc fun v => fun s => let nm := gs_cname s v
    if nm < 0 ∨ 26 ≤ nm ∨ ((gs_cls K c).elim 0 gs_con >>> (nm &&& 31)) &&& 1 = 0 then .error (-6) else gs_b (gs_only c nm) (fun o => gs_b (gs_setE e (nI o)) fun _ => gs_r (nI o)) s
/-- a read at a depth; rc: one deeper -/
def gs_body (K : gs_K) (rc : gs_M Int32) (d : Nat) : gs_M Int32 := gs_b (gs_room d) fun _ => gs_b (gs_u1 K) fun t =>
  if t = 112 then gs_r (-2) else if t = 113 then gs_ref K else if t = 114 then gs_b (fun s => .ok ((), gs_p (gs_pl s - 1) s)) fun _ => gs_b (gs_desc K rc 8) fun _ => gs_r (-2)
  else if t = 115 then gs_inst K rc d else if t = 116 then gs_text K else if t = 117 then gs_arr K rc d else if t = 126 then gs_con1 K rc d
  else if t = 119 ∨ t = 122 ∨ t = 120 then gs_x (if d = 1 then -7 else -4) else if t = 123 then gs_x (-10) else gs_x (-4)
/-- 9 less the depth -/
def gs_rc (K : gs_K) : Nat → gs_M Int32
  | 0 => gs_x (-8)
  | k + 1 => gs_body K (gs_rc K k) (8 - k)
def gs_reset (K : gs_K) : Nat → gs_M Unit
  | 0 => gs_r ()
  | k + 1 => fun s => if gs_pl s < gs_n K ∧ gs_sb K (gs_pl s) = 121 then gs_reset K k (gs_pl s + 1, gs_hp s, gs_hs s, (gs_hs s).length) else .ok ((), s)
def gs_out (K : gs_K) : gs_M Int32 := gs_b (gs_room 1) fun _ => gs_b (gs_reset K 701) fun _ => gs_rc K 8
/-! THE CLASS'S HEAP: what a GraphReader at x looks like. -/
/-- its own objects and arrays, made by the constructor one behind the other -/
def gx_A (h : gm_H) (x : Nat) : Prop := gm_kd h x = 0 ∧ gm_fv h x 4 = .ref (x + 1) ∧ gm_fv h x 5 = .ref (x + 2) ∧ gm_fv h x 8 = .ref (x + 3) ∧ gm_fv h x 10 = .ref (x + 4) ∧ gm_kd h (x + 1) = 110 ∧ gm_ln h (x + 1) = 6 ∧ gm_kd h (x + 2) = 102 ∧ gm_ln h (x + 2) = 700
  ∧ gm_kd h (x + 3) = 111 ∧ gm_ln h (x + 3) = 234 ∧ gm_kd h (x + 4) = 2 ∧ gm_fv h (x + 4) 0 = .ref (x + 5) ∧ gm_fv h (x + 4) 1 = .ref (x + 6) ∧ gm_kd h (x + 5) = 100 ∧ gm_ln h (x + 5) = 234 ∧ gm_kd h (x + 6) = 112 ∧ gm_ln h (x + 6) = 234 ∧ x + 6 < h.1
/-- an address where something may stand; F: those that are kept out -/
def gx_ok (h : gm_H) (x : Nat) (F : Nat → Prop) (a : Nat) : Prop := (a < x ∨ x + 6 < a) ∧ a < h.1 ∧ ¬ F a
def gx_ow (ca : Nat → Nat) : Option Nat → Value
  | none => .null
  | some c => .ref (ca c)
/-- a local class at a -/
def gx_cl (h : gm_H) (x : Nat) (ca : Nat → Nat) (F : Nat → Prop) (c : Nat) (C : gs_C) (a : Nat) : Prop := (gx_ok h x F a ∧ gx_ok h x F (a + 1) ∧ gx_ok h x F (a + 2)) ∧ gm_kd h a = 3 ∧ gm_fv h a 0 = .int (nI c) ∧ gm_fv h a 1 = .int (gs_kind C) ∧ gm_fv h a 2 = gx_ow ca (gs_sup C) ∧ gm_fv h a 3 = .long (gs_cid C) ∧ gm_fv h a 4 = .ref (a + 1) ∧ gm_fv h a 5 = .ref (a + 2)
  ∧ gm_fv h a 6 = .int (nI (gs_fs C).length) ∧ gm_fv h a 7 = .int (if gs_bar C = true then 1 else 0) ∧ gm_fv h a 8 = .int (gs_con C) ∧ (gs_fs C).length ≤ 4 ∧ gm_kd h (a + 1) = 100 ∧ gm_ln h (a + 1) = 4 ∧ gm_kd h (a + 2) = 100 ∧ gm_ln h (a + 2) = 4
  ∧ ∀ (j : Nat) (q : Int32 × Int32), (gs_fs C)[j]? = some q → gm_fv h (a + 1) j = .int q.1 ∧ gm_fv h (a + 2) j = .int q.2
/-- limits, bytes, classes -/
def gx_B (h : gm_H) (x : Nat) (K : gs_K) : Prop := gm_fv h x 0 = .int K.1.1 ∧ gm_fv h x 1 = .int K.1.2.1 ∧ gm_fv h x 2 = .int K.1.2.2.1 ∧ gm_fv h x 3 = .int K.1.2.2.2 ∧ gm_fv h x 6 = .int (nI (gs_n K)) ∧ gs_n K ≤ 700 ∧ ∀ i, i < gs_n K → gm_fv h (x + 2) i = .int (gs_sb K i)
/-- what was there before: the table of sizes, the three Strings -/
def gx_str : Nat → List Int32
  | 0 => gs_types
  | 1 => gs_tR
  | _ => gs_tI
def gx_G (E : Nat → Value) (h : gm_H) (x : Nat) (F : Nat → Prop) : Prop := (∃ z : Nat, E 0 = .ref z ∧ gx_ok h x F z ∧ gm_kd h z = 300 ∧ gm_ln h z = 6 ∧ ∀ j, j < 6 → gm_fv h z j = .int (([1, 2, 4, 8, 2, 1] : List Int32).getD j 0)) ∧ (E 5 = .int 1 ∧ (E 1 = .null ∨ ∃ z : Nat, E 1 = .ref z))
  ∧ ∀ i, i < 3 → ∃ a v : Nat, E (2 + i) = .ref a ∧ gx_ok h x F a ∧ gx_ok h x F v ∧ gm_kd h a = 6 ∧ gm_ln h a = 2 ∧ gm_fv h a 0 = .ref v ∧ gm_fv h a 1 = .int 0 ∧ gm_kd h v = 302 ∧ gm_ln h v = (gx_str i).length ∧ ∀ j, j < (gx_str i).length → gm_fv h v j = .int ((gx_str i).getD j 0)
def gx_C (E : Nat → Value) (h : gm_H) (x : Nat) (ca : Nat → Nat) (K : gs_K) (F : Nat → Prop) : Prop := (gx_G E h x F ∧ ∀ c, 6 ≤ c → gs_cls K c = none) ∧ ∀ c, c < 6 → (gs_cls K c = none → gm_fv h (x + 1) c = .null) ∧ ∀ C, gs_cls K c = some C → gm_fv h (x + 1) c = .ref (ca c) ∧ gx_cl h x ca F c C (ca c) ∧ ∀ s, gs_sup C = some s → s < c ∧ (gs_cls K s).isSome = true
/-- an object at t -/
def gx_th (h : gm_H) (ca : Nat → Nat) (o : gs_O) (t : Nat) : Prop := gm_kd h t = 4 ∧ gm_fv h t 0 = .int o.1 ∧ gm_fv h t 1 = gx_ow ca o.2.1 ∧ gm_fv h t 2 = .ref (t + 1) ∧ gm_fv h t 3 = .int o.2.2.2.1 ∧ gm_fv h t 4 = .int o.2.2.2.2 ∧ gm_kd h (t + 1) = 101 ∧ gm_ln h (t + 1) = o.2.2.1.length
  ∧ o.2.2.1.length < 1000 ∧ ∀ (j : Nat) (v : Int64), o.2.2.1[j]? = some v → gm_fv h (t + 1) j = .long v
/-- a descriptor and those above it; F: addresses that it has nothing at -/
def gx_ds (h : gm_H) (x : Nat) (ca : Nat → Nat) (K : gs_K) (F : Nat → Prop) : List gs_L → Value → Prop
  | [], v => v = .null
  | l :: L, v => ∃ a u w : Nat, v = .ref a ∧ gx_ok h x F a ∧ gx_ok h x F u ∧ gx_ok h x F w ∧ gm_kd h a = 1 ∧ gm_fv h a 0 = .int (nI (gs_nf l)) ∧ gm_fv h a 1 = .int (nI (gs_nl l)) ∧ gm_fv h a 2 = .long (gs_did l) ∧ gm_fv h a 3 = .int (gs_fl l) ∧ gm_fv h a 4 = .int (nI (gs_df l).length)
    ∧ gm_fv h a 5 = .ref u ∧ gm_fv h a 6 = .ref w ∧ gm_fv h a 8 = .int (nI L.length) ∧ gm_fv h a 9 = gx_ow ca (gs_own l) ∧ gm_kd h u = 100 ∧ gm_ln h u = (gs_df l).length ∧ gm_kd h w = 100 ∧ gm_ln h w = (gs_df l).length ∧ ((gs_df l).length ≤ 8 ∧ ∀ c, (gs_cls K c).isSome = true → u ≠ ca c ∧ u ≠ ca c + 1 ∧ u ≠ ca c + 2 ∧ w ≠ ca c ∧ w ≠ ca c + 1 ∧ w ≠ ca c + 2)
    ∧ gs_nf l + gs_nl l ≤ gs_n K ∧ (∀ c, gs_own l = some c → c < 6 ∧ (gs_cls K c).isSome = true) ∧ (∀ (j : Nat) (q : Int32 × Int32), (gs_df l)[j]? = some q → gm_fv h u j = .int q.1 ∧ gm_fv h w j = .int q.2 ∧ 0 ≤ q.2 ∧ q.2 < 8) ∧ gx_ds h x ca K F L (gm_fv h a 7)
/-- place, sizes, objects, handles -/
def gx_M (h : gm_H) (x : Nat) (K : gs_K) (s : gs_S) : Prop := gm_fv h x 7 = .int (nI (gs_pl s)) ∧ gs_pl s ≤ gs_n K ∧ gm_fv h x 9 = .int (nI (gs_hp s).length) ∧ (gs_hp s).length ≤ 234 ∧ gm_fv h (x + 4) 2 = .int (nI (gs_f1 s)) ∧ gm_fv h (x + 4) 3 = .int (nI (gs_hs s).length) ∧ gs_f1 s ≤ (gs_hs s).length ∧ (gs_hs s).length ≤ 234 ∧ ∃ r : Int32, gm_fv h x 12 = .int r
def gx_T (h : gm_H) (x : Nat) (ca : Nat → Nat) (F : Nat → Prop) (s : gs_S) (ta : Nat → Nat) : Prop := (∀ i j, i < j → j < (gs_hp s).length → ta i + 1 < ta j) ∧ ∀ (i : Nat) (o : gs_O), (gs_hp s)[i]? = some o → gm_fv h (x + 3) i = .ref (ta i) ∧ (gx_ok h x F (ta i) ∧ gx_ok h x F (ta i + 1)) ∧ gx_th h ca o (ta i)
def gx_H (h : gm_H) (x : Nat) (ca : Nat → Nat) (K : gs_K) (F : Nat → Prop) (s : gs_S) : Prop := ∀ (i : Nat) (e : Int32 × List gs_L), (gs_hs s)[i]? = some e → gm_fv h (x + 5) i = .int e.1 ∧ gx_ds h x ca K F e.2 (gm_fv h (x + 6) i)
/-- the classes of the heap's objects are there -/
def gs_isd (e : Int32 × List gs_L) : Bool := !e.2.isEmpty
def gs_dn (s : gs_S) : Nat := (gs_hs s).countP gs_isd
def gs_hok (K : gs_K) (s : gs_S) : Prop := (∀ (i : Nat) (o : gs_O) (c : Nat), (gs_hp s)[i]? = some o → o.2.1 = some c → (gs_cls K c).isSome = true) ∧ ∀ (i : Nat) (e : Int32 × List gs_L), (gs_hs s)[i]? = some e → e.2.length ≤ gs_dn s
def gx_R (E : Nat → Value) (h : gm_H) (x : Nat) (ca : Nat → Nat) (K : gs_K) (F : Nat → Prop) (s : gs_S) : Prop := gx_A h x ∧ gx_B h x K ∧ gx_C E h x ca K F ∧ gx_M h x K s ∧ (∃ ta, gx_T h x ca F s ta) ∧ gx_H h x ca K F s ∧ gs_hok K s
/-! what keeps a GraphReader as it is; how it changes -/
section REP
variable {E : Nat → Value} {h h' : gm_H} {x a b j k n : Nat} {ca : Nat → Nat} {K : gs_K} {F F' : Nat → Prop} {s s' : gs_S} {v : Value}
theorem gv_kd (e : gm_rd h' a = gm_rd h a) : gm_kd h' a = gm_kd h a := by unfold gm_kd; rw [e]
theorem gv_ln (e : gm_rd h' a = gm_rd h a) : gm_ln h' a = gm_ln h a := by unfold gm_ln; rw [e]
theorem gv_fv (e : gm_rd h' a = gm_rd h a) : gm_fv h' a j = gm_fv h a j := by unfold gm_fv; rw [e]
theorem gm_rd_sfn (e : b ≠ a) : gm_rd (gm_sf h a k v) b = gm_rd h b := by rw [gm_rd_sf, if_neg e]
theorem gm_rd_nwn {c : gm_C} (e : b ≠ h.1) : gm_rd (gm_nw h c n) b = gm_rd h b := by rw [gm_rd_nw, if_neg e]
theorem gx_ok.tr (o : gx_ok h x F a) (hle : h.1 ≤ h'.1) : gx_ok h' x F a := ⟨o.1, Nat.lt_of_lt_of_le o.2.1 hle, o.2.2⟩
theorem gx_ok.wk (o : gx_ok h x F a) (hF : ∀ b, F' b → h.1 ≤ b ∨ F b) : gx_ok h x F' a := ⟨o.1, o.2.1, fun z => by
  rcases hF _ z with q | q
  · have := o.2.1; omega
  · exact o.2.2 q⟩
/-- two heaps alike where something may stand -/
def gx_ag (h h' : gm_H) (x : Nat) (F : Nat → Prop) : Prop := h.1 ≤ h'.1 ∧ ∀ a, gx_ok h x F a → gm_rd h' a = gm_rd h a
theorem gx_ag.sf (hb : ¬ gx_ok h x F b) : gx_ag h (gm_sf h b k v) x F := ⟨by rw [gm_sf_1]; exact Nat.le_refl _, fun a o => gm_rd_sfn (fun z => hb (z ▸ o))⟩
theorem gx_ag.nw {c : gm_C} : gx_ag h (gm_nw h c n) x F := ⟨Nat.le_succ _, fun a o => gm_rd_nwn (by have := o.2.1; omega)⟩
theorem gx_ok.no (hb : x ≤ b ∧ b ≤ x + 6) : ¬ gx_ok h x F b := fun o => by have := o.1; omega
theorem gx_cl.tr {c : Nat} {C : gs_C} (q : gx_cl h x ca F c C a) (g : gx_ag h h' x F) : gx_cl h' x ca F c C a := by
  obtain ⟨⟨o1, o2, o3⟩, q⟩ := q
  refine ⟨⟨o1.tr g.1, o2.tr g.1, o3.tr g.1⟩, ?_⟩
  simp only [gv_kd (g.2 _ o1), gv_kd (g.2 _ o2), gv_kd (g.2 _ o3), gv_ln (g.2 _ o2), gv_ln (g.2 _ o3), gv_fv (g.2 _ o1), gv_fv (g.2 _ o2), gv_fv (g.2 _ o3)]
  exact q
theorem gx_cl.wk {c : Nat} {C : gs_C} (q : gx_cl h x ca F c C a) (hF : ∀ b, F' b → h.1 ≤ b ∨ F b) : gx_cl h x ca F' c C a := ⟨⟨q.1.1.wk hF, q.1.2.1.wk hF, q.1.2.2.wk hF⟩, q.2⟩
theorem gx_G.tr (q : gx_G E h x F) (g : gx_ag h h' x F) : gx_G E h' x F := by
  obtain ⟨⟨z, e0, o, k1, k2, k3⟩, e5, q⟩ := q
  refine ⟨⟨z, e0, o.tr g.1, ?_⟩, e5, fun i hi => ?_⟩
  · simp only [gv_kd (g.2 _ o), gv_ln (g.2 _ o), gv_fv (g.2 _ o)]
    exact ⟨k1, k2, k3⟩
  · obtain ⟨a, v, e, o1, o2, q⟩ := q i hi
    refine ⟨a, v, e, o1.tr g.1, o2.tr g.1, ?_⟩
    simp only [gv_kd (g.2 _ o1), gv_ln (g.2 _ o1), gv_fv (g.2 _ o1), gv_kd (g.2 _ o2), gv_ln (g.2 _ o2), gv_fv (g.2 _ o2)]
    exact q
theorem gx_G.wk (q : gx_G E h x F) (hF : ∀ b, F' b → h.1 ≤ b ∨ F b) : gx_G E h x F' := by
  obtain ⟨⟨z, e0, o, k⟩, e5, q⟩ := q
  refine ⟨⟨z, e0, o.wk hF, k⟩, e5, fun i hi => ?_⟩
  obtain ⟨a, v, e, o1, o2, q⟩ := q i hi
  exact ⟨a, v, e, o1.wk hF, o2.wk hF, q⟩
theorem gx_C.tr (q : gx_C E h x ca K F) (g : gx_ag h h' x F) (e : ∀ c, c < 6 → gm_fv h' (x + 1) c = gm_fv h (x + 1) c) : gx_C E h' x ca K F := by
  refine ⟨⟨q.1.1.tr g, q.1.2⟩, fun c hc => ⟨fun z => ?_, fun C z => ?_⟩⟩
  · rw [e c hc]; exact (q.2 c hc).1 z
  · obtain ⟨a1, a2, a3⟩ := (q.2 c hc).2 C z
    exact ⟨by rw [e c hc]; exact a1, a2.tr g, a3⟩
theorem gx_C.wk (q : gx_C E h x ca K F) (hF : ∀ b, F' b → h.1 ≤ b ∨ F b) : gx_C E h x ca K F' := ⟨⟨q.1.1.wk hF, q.1.2⟩, fun c hc => ⟨(q.2 c hc).1, fun C z => ⟨((q.2 c hc).2 C z).1, ((q.2 c hc).2 C z).2.1.wk hF, ((q.2 c hc).2 C z).2.2⟩⟩⟩
theorem gx_th.tr {o : gs_O} (q : gx_th h ca o a) (e1 : gm_rd h' a = gm_rd h a) (e2 : gm_rd h' (a + 1) = gm_rd h (a + 1)) : gx_th h' ca o a := by
  unfold gx_th
  simp only [gv_kd e1, gv_kd e2, gv_ln e2, gv_fv e1, gv_fv e2]
  exact q
theorem gx_ds.tr (g : gx_ag h h' x F) : ∀ {L : List gs_L} {v : Value}, gx_ds h x ca K F L v → gx_ds h' x ca K F L v
  | [], _, q => q
  | l :: L, v, q => by
    obtain ⟨a, u, w, rfl, o1, o2, o3, q⟩ := q
    refine ⟨a, u, w, rfl, o1.tr g.1, o2.tr g.1, o3.tr g.1, ?_⟩
    simp only [gv_kd (g.2 _ o1), gv_kd (g.2 _ o2), gv_kd (g.2 _ o3), gv_ln (g.2 _ o2), gv_ln (g.2 _ o3), gv_fv (g.2 _ o1), gv_fv (g.2 _ o2), gv_fv (g.2 _ o3)]
    obtain ⟨q1, q2, q3, q4, q5, q6, q7, q8, q9, q10, q11, q12, q13, q14, q15, q16, q17, q18, q19⟩ := q
    exact ⟨q1, q2, q3, q4, q5, q6, q7, q8, q9, q10, q11, q12, q13, q14, q15, q16, q17, q18, gx_ds.tr g q19⟩
theorem gx_ds.wk (hF : ∀ b, F' b → h.1 ≤ b ∨ F b) : ∀ {L : List gs_L} {v : Value}, gx_ds h x ca K F L v → gx_ds h x ca K F' L v
  | [], _, q => q
  | l :: L, v, q => by
    obtain ⟨a, u, w, rfl, o1, o2, o3, q1, q2, q3, q4, q5, q6, q7, q8, q9, q10, q11, q12, q13, q14, q15, q16, q17, q18, q19⟩ := q
    exact ⟨a, u, w, rfl, o1.wk hF, o2.wk hF, o3.wk hF, q1, q2, q3, q4, q5, q6, q7, q8, q9, q10, q11, q12, q13, q14, q15, q16, q17, q18, gx_ds.wk hF q19⟩
theorem gx_R.wk (q : gx_R E h x ca K F s) (hF : ∀ b, F' b → h.1 ≤ b ∨ F b) : gx_R E h x ca K F' s := by
  obtain ⟨q1, q2, q3, q4, ⟨ta, q5⟩, q6, q7⟩ := q
  refine ⟨q1, q2, q3.wk hF, q4, ⟨ta, q5.1, fun i o z => ?_⟩, fun i e z => ?_, q7⟩
  · obtain ⟨b1, b2, b3⟩ := q5.2 i o z
    exact ⟨b1, ⟨b2.1.wk hF, b2.2.wk hF⟩, b3⟩
  · exact ⟨(q6 i e z).1, (q6 i e z).2.wk hF⟩
/-- own cells changed, objects and handles as before -/
theorem gx_R.own (q : gx_R E h x ca K F s) (g : gx_ag h h' x F) (hA : gx_A h' x) (hB : gx_B h' x K) (h1 : ∀ c, c < 6 → gm_fv h' (x + 1) c = gm_fv h (x + 1) c) (hM : gx_M h' x K s') (h3 : ∀ i, i < (gs_hp s).length → gm_fv h' (x + 3) i = gm_fv h (x + 3) i)
    (h5 : ∀ i, i < (gs_hs s).length → gm_fv h' (x + 5) i = gm_fv h (x + 5) i ∧ gm_fv h' (x + 6) i = gm_fv h (x + 6) i) (e1 : gs_hp s' = gs_hp s) (e2 : gs_hs s' = gs_hs s) : gx_R E h' x ca K F s' := by
  obtain ⟨q1, q2, q3, q4, ⟨ta, q5⟩, q6, q7⟩ := q
  refine ⟨hA, hB, q3.tr g h1, hM, ⟨ta, by rw [e1]; exact q5.1, fun i o z => ?_⟩, fun i e z => ?_, ⟨fun i o c z => q7.1 i o c (by rw [← e1]; exact z), fun i e z => by unfold gs_dn; rw [e2] at z ⊢; exact q7.2 i e z⟩⟩
  · rw [e1] at z
    obtain ⟨b1, b2, b3⟩ := q5.2 i o z
    refine ⟨by rw [h3 i (List.getElem?_eq_some_iff.mp z).1]; exact b1, ⟨b2.1.tr g.1, b2.2.tr g.1⟩, b3.tr (g.2 _ b2.1) (g.2 _ b2.2)⟩
  · rw [e2] at z
    have := h5 i (List.getElem?_eq_some_iff.mp z).1
    rw [this.1, this.2]
    exact ⟨(q6 i e z).1, (q6 i e z).2.tr g⟩
theorem gx_R.new {c : gm_C} (q : gx_R E h x ca K F s) : gx_R E (gm_nw h c n) x ca K F s := by
  have hx := q.1.2.2.2.2.2.2.2.2.2.2.2.2.2.2.2.2.2.2
  have e : ∀ i, i ≤ 6 → x + i ≠ h.1 := fun i hi => by omega
  have e0 : x ≠ h.1 := by omega
  refine q.own gx_ag.nw ?_ ?_ (fun c _ => gm_fv_nw (e 1 (by decide))) ?_ (fun i _ => gm_fv_nw (e 3 (by decide))) (fun i _ => ⟨gm_fv_nw (e 5 (by decide)), gm_fv_nw (e 6 (by decide))⟩) rfl rfl
  · have z := q.1
    unfold gx_A at z ⊢
    simp only [gm_kd_nw e0, gm_fv_nw e0, gm_kd_nw (e 1 (by decide)), gm_ln_nw (e 1 (by decide)), gm_kd_nw (e 2 (by decide)), gm_ln_nw (e 2 (by decide)), gm_kd_nw (e 3 (by decide)), gm_ln_nw (e 3 (by decide)), gm_kd_nw (e 4 (by decide)), gm_fv_nw (e 4 (by decide)), gm_kd_nw (e 5 (by decide)), gm_ln_nw (e 5 (by decide)), gm_kd_nw (e 6 (by decide)), gm_ln_nw (e 6 (by decide)), gm_nw_1]
    obtain ⟨z1, z2, z3, z4, z5, z6, z7, z8, z9, z10, z11, z12, z13, z14, z15, z16, z17, z18, z19⟩ := z
    exact ⟨z1, z2, z3, z4, z5, z6, z7, z8, z9, z10, z11, z12, z13, z14, z15, z16, z17, z18, by omega⟩
  · have z := q.2.1
    unfold gx_B at z ⊢
    simp only [gm_fv_nw e0, gm_fv_nw (e 2 (by decide))]
    exact z
  · have z := q.2.2.2.1
    unfold gx_M at z ⊢
    simp only [gm_fv_nw e0, gm_fv_nw (e 4 (by decide))]
    exact z
theorem gx_R.out (q : gx_R E h x ca K F s) (hF : F a) (ha : x + 6 < a) : gx_R E (gm_sf h a k v) x ca K F s := by
  have e : ∀ i, i ≤ 6 → x + i ≠ a := fun i hi => by omega
  have e0 : x ≠ a := by omega
  refine q.own (gx_ag.sf fun z => z.2.2 hF) ?_ ?_ (fun c _ => gm_fv_sfa (e 1 (by decide))) ?_ (fun i _ => gm_fv_sfa (e 3 (by decide))) (fun i _ => ⟨gm_fv_sfa (e 5 (by decide)), gm_fv_sfa (e 6 (by decide))⟩) rfl rfl
  · have z := q.1
    unfold gx_A at z ⊢
    simp only [gm_kd_sf, gm_ln_sf, gm_fv_sfa e0, gm_fv_sfa (e 4 (by decide)), gm_sf_1]
    exact z
  · have z := q.2.1
    unfold gx_B at z ⊢
    simp only [gm_fv_sfa e0, gm_fv_sfa (e 2 (by decide))]
    exact z
  · have z := q.2.2.2.1
    unfold gx_M at z ⊢
    simp only [gm_fv_sfa e0, gm_fv_sfa (e 4 (by decide))]
    exact z
/-- its own fields: place 7, heapSize 9 alone, lastingFault 11, raisedFault 12 -/
theorem gx_R.fld (q : gx_R E h x ca K F s) (hk : k = 7 ∨ k = 11 ∨ k = 12) (hM : gx_M (gm_sf h x k v) x K s') (e1 : gs_hp s' = gs_hp s) (e2 : gs_hs s' = gs_hs s) : gx_R E (gm_sf h x k v) x ca K F s' := by
  have e : ∀ i, 0 < i → x + i ≠ x := fun i hi => by omega
  refine q.own (gx_ag.sf (gx_ok.no (by omega))) ?_ ?_ (fun c _ => gm_fv_sfa (e 1 (by decide))) hM (fun i _ => gm_fv_sfa (e 3 (by decide))) (fun i _ => ⟨gm_fv_sfa (e 5 (by decide)), gm_fv_sfa (e 6 (by decide))⟩) e1 e2
  · have z := q.1
    unfold gx_A at z ⊢
    simp only [gm_kd_sf, gm_ln_sf, gm_fv_sfj (show 4 ≠ k by omega), gm_fv_sfj (show 5 ≠ k by omega), gm_fv_sfj (show 8 ≠ k by omega), gm_fv_sfj (show 10 ≠ k by omega), gm_fv_sfa (e 4 (by decide)), gm_sf_1]
    exact z
  · have z := q.2.1
    unfold gx_B at z ⊢
    simp only [gm_fv_sfj (show 0 ≠ k by omega), gm_fv_sfj (show 1 ≠ k by omega), gm_fv_sfj (show 2 ≠ k by omega), gm_fv_sfj (show 3 ≠ k by omega), gm_fv_sfj (show 6 ≠ k by omega), gm_fv_sfa (e 2 (by decide))]
    exact z
theorem gx_R.len (q : gx_R E h x ca K F s) : gm_ln h x = 13 ∧ gm_ln h (x + 4) = 4 := ⟨gm_kd_ln q.1.1 (by decide), gm_kd_ln q.1.2.2.2.2.2.2.2.2.2.2.2.1 (by decide)⟩
theorem gx_R.place {p : Nat} (q : gx_R E h x ca K F s) (hp : p ≤ gs_n K) : gx_R E (gm_sf h x 7 (.int (nI p))) x ca K F (gs_p p s) := by
  have e : ∀ i, 0 < i → x + i ≠ x := fun i hi => by omega
  refine q.fld (Or.inl rfl) ?_ rfl rfl
  obtain ⟨z1, z2, z3, z4, z5, z6, z7, z8, z9⟩ := q.2.2.2.1
  refine ⟨gm_fv_sf (by rw [q.len.1]; decide), hp, ?_, z4, ?_, ?_, z7, z8, ?_⟩
  · rw [gm_fv_sfj (by decide)]; exact z3
  · rw [gm_fv_sfa (e 4 (by decide))]; exact z5
  · rw [gm_fv_sfa (e 4 (by decide))]; exact z6
  · rw [gm_fv_sfj (by decide)]; exact z9
theorem gx_R.raise {f : Int32} (q : gx_R E h x ca K F s) : gx_R E (gm_sf h x 12 (.int f)) x ca K F s := by
  have e : ∀ i, 0 < i → x + i ≠ x := fun i hi => by omega
  refine q.fld (Or.inr (Or.inr rfl)) ?_ rfl rfl
  obtain ⟨z1, z2, z3, z4, z5, z6, z7, z8, z9⟩ := q.2.2.2.1
  refine ⟨?_, z2, ?_, z4, ?_, ?_, z7, z8, f, gm_fv_sf (by rw [q.len.1]; decide)⟩
  · rw [gm_fv_sfj (by decide)]; exact z1
  · rw [gm_fv_sfj (by decide)]; exact z3
  · rw [gm_fv_sfa (e 4 (by decide))]; exact z5
  · rw [gm_fv_sfa (e 4 (by decide))]; exact z6
end REP
/-! handles and objects that come and change -/
section REP3
variable {E : Nat → Value} {h h' : gm_H} {x a b e j k n t : Nat} {ca : Nat → Nat} {K : gs_K} {F F' : Nat → Prop} {s s' : gs_S} {v : Int32}
/-- two changes of the handles' cells alone -/
theorem gx_R.hnd (q : gx_R E h x ca K F s) (g : gx_ag h h' x F) (h1 : h'.1 = h.1) (hk : ∀ a, gm_kd h' a = gm_kd h a) (hl : ∀ a, gm_ln h' a = gm_ln h a) (hf : ∀ a j, a ≠ x + 5 → a ≠ x + 6 → (a ≠ x + 4 ∨ j < 2) → gm_fv h' a j = gm_fv h a j)
    (hM : gx_M h' x K s') (e1 : gs_hp s' = gs_hp s) (hH : gx_H h' x ca K F s') (hD : ∀ (i : Nat) (e : Int32 × List gs_L), (gs_hs s')[i]? = some e → e.2.length ≤ gs_dn s') : gx_R E h' x ca K F s' := by
  obtain ⟨q1, q2, q3, q4, ⟨ta, q5⟩, q6, q7⟩ := q
  refine ⟨?_, ?_, q3.tr g (fun c _ => hf _ _ (by omega) (by omega) (by omega)), hM, ⟨ta, by rw [e1]; exact q5.1, fun i o z => ?_⟩, hH, fun i o c z => q7.1 i o c (by rw [← e1]; exact z), hD⟩
  · unfold gx_A at q1 ⊢
    simp only [hk, hl, h1, hf x _ (by omega) (by omega) (Or.inl (by omega)), hf (x + 4) 0 (by omega) (by omega) (Or.inr (by decide)), hf (x + 4) 1 (by omega) (by omega) (Or.inr (by decide))]
    exact q1
  · unfold gx_B at q2 ⊢
    simp only [hf x _ (by omega) (by omega) (Or.inl (by omega)), hf (x + 2) _ (by omega) (by omega) (Or.inl (by omega))]
    exact q2
  · rw [e1] at z
    obtain ⟨b1, b2, b3⟩ := q5.2 i o z
    exact ⟨by rw [hf (x + 3) i (by omega) (by omega) (by omega)]; exact b1, ⟨b2.1.tr g.1, b2.2.tr g.1⟩, b3.tr (g.2 _ b2.1) (g.2 _ b2.2)⟩
theorem gs_cnt_mod {α : Type} {p : α → Bool} {f : α → α} : ∀ (l : List α) (e : Nat) (a : α), l[e]? = some a → (p a = false → p (f a) = true → (l.modify e f).countP p = l.countP p + 1) ∧ (p (f a) = p a → (l.modify e f).countP p = l.countP p)
  | [], e, a, h => by simp at h
  | b :: l, 0, a, h => by
    simp at h
    subst h
    constructor
    · intro h1 h2
      simp [h1, h2]
    · intro h1
      simp [List.countP_cons, h1]
  | b :: l, e + 1, a, h => by
    simp at h
    obtain ⟨h1, h2⟩ := gs_cnt_mod (p := p) (f := f) l e a h
    constructor
    · intro h3 h4
      simp only [List.modify_succ_cons, List.countP_cons]
      rw [h1 h3 h4]
      omega
    · intro h3
      simp only [List.modify_succ_cons, List.countP_cons]
      rw [h2 h3]
theorem gx_ag.trans {h1 h2 : gm_H} (p : gx_ag h h1 x F) (q : gx_ag h1 h2 x F) : gx_ag h h2 x F := ⟨Nat.le_trans p.1 q.1, fun a o => (q.2 a (o.tr p.1)).trans (p.2 a o)⟩
/-- an entry more -/
theorem gx_R.addE (q : gx_R E h x ca K F s) (hn : (gs_hs s).length < 234) : gx_R E (gm_sf (gm_sf (gm_sf h (x + 5) (gs_hs s).length (.int v)) (x + 6) (gs_hs s).length .null) (x + 4) 3 (.int (nI ((gs_hs s).length + 1)))) x ca K F (s.1, s.2.1, gs_hs s ++ [(v, [])], gs_f1 s) := by
  have A := q.1
  obtain ⟨-, -, -, -, -, -, -, -, -, -, -, -, -, -, -, A5, -, A6, -⟩ := A
  obtain ⟨z1, z2, z3, z4, z5, z6, z7, z8, z9⟩ := q.2.2.2.1
  have g : gx_ag h (gm_sf (gm_sf (gm_sf h (x + 5) (gs_hs s).length (.int v)) (x + 6) (gs_hs s).length .null) (x + 4) 3 (.int (nI ((gs_hs s).length + 1)))) x F := ((gx_ag.sf (gx_ok.no (by omega))).trans (gx_ag.sf (gx_ok.no (by omega)))).trans (gx_ag.sf (gx_ok.no (by omega)))
  have l4 : gm_ln h (x + 4) = 4 := q.len.2
  refine q.hnd g (by simp only [gm_sf_1]) (fun a => by simp only [gm_kd_sf]) (fun a => by simp only [gm_ln_sf]) (fun a j h5 h6 h4 => ?_) ?_ rfl (fun i w hw => ?_) (fun i w hw => ?_)
  · have e4 : gm_fv (gm_sf (gm_sf (gm_sf h (x + 5) (gs_hs s).length (.int v)) (x + 6) (gs_hs s).length .null) (x + 4) 3 (.int (nI ((gs_hs s).length + 1)))) a j = gm_fv (gm_sf (gm_sf h (x + 5) (gs_hs s).length (.int v)) (x + 6) (gs_hs s).length .null) a j := by
      rcases h4 with z | z
      · exact gm_fv_sfa z
      · exact gm_fv_sfj (by omega)
    rw [e4, gm_fv_sfa h6, gm_fv_sfa h5]
  · refine ⟨?_, z2, ?_, z4, ?_, ?_, ?_, ?_, ?_⟩
    · rw [gm_fv_sfa (by omega), gm_fv_sfa (by omega), gm_fv_sfa (by omega)]; exact z1
    · rw [gm_fv_sfa (by omega), gm_fv_sfa (by omega), gm_fv_sfa (by omega)]; exact z3
    · rw [gm_fv_sfj (by decide), gm_fv_sfa (by omega), gm_fv_sfa (by omega)]; exact z5
    · rw [gm_fv_sf (by simp only [gm_ln_sf]; omega)]; simp [gs_hs]
    · simp [gs_hs, gs_f1] at z7 ⊢; omega
    · simp [gs_hs] at hn ⊢; omega
    · rw [gm_fv_sfa (by omega), gm_fv_sfa (by omega), gm_fv_sfa (by omega)]; exact z9
  · have hw : (gs_hs s ++ [(v, [])])[i]? = some w := hw
    rw [gm_fv_sfa (by omega), gm_fv_sfa (by omega), gm_fv_sfa (show x + 6 ≠ x + 4 by omega)]
    by_cases hi : i < (gs_hs s).length
    · rw [List.getElem?_append_left hi] at hw
      obtain ⟨q1, q2⟩ := q.2.2.2.2.2.1 i w hw
      rw [gm_fv_sfj (by omega), gm_fv_sfj (by omega), gm_fv_sfj (by omega)]
      exact ⟨q1, q2.tr g⟩
    · have hi2 : i = (gs_hs s).length := by
        have := (List.getElem?_eq_some_iff.mp hw).1
        simp at this
        omega
      subst hi2
      simp at hw
      subst hw
      rw [gm_fv_sf (by omega), gm_fv_sf (by rw [gm_ln_sf]; omega)]
      exact ⟨rfl, rfl⟩
  · have hw : (gs_hs s ++ [(v, [])])[i]? = some w := hw
    show w.2.length ≤ (gs_hs s ++ [(v, [])]).countP gs_isd
    rw [List.countP_append]
    by_cases hi : i < (gs_hs s).length
    · rw [List.getElem?_append_left hi] at hw
      have := q.2.2.2.2.2.2.2 i w hw
      unfold gs_dn at this
      omega
    · have hi2 : i = (gs_hs s).length := by
        have := (List.getElem?_eq_some_iff.mp hw).1
        simp at this
        omega
      subst hi2
      simp at hw
      subst hw
      exact Nat.zero_le _
/-- an entry's object -/
theorem gx_R.setE (q : gx_R E h x ca K F s) (hn : e < (gs_hs s).length) : gx_R E (gm_sf h (x + 5) e (.int v)) x ca K F (s.1, s.2.1, (gs_hs s).modify e (fun q => (v, q.2)), gs_f1 s) := by
  have A := q.1
  obtain ⟨-, -, -, -, -, -, -, -, -, -, -, -, -, -, -, A5, -, A6, -⟩ := A
  obtain ⟨z1, z2, z3, z4, z5, z6, z7, z8, z9⟩ := q.2.2.2.1
  have g : gx_ag h (gm_sf h (x + 5) e (.int v)) x F := gx_ag.sf (gx_ok.no (by omega))
  refine q.hnd g (by simp only [gm_sf_1]) (fun a => by simp only [gm_kd_sf]) (fun a => by simp only [gm_ln_sf]) (fun a j h5 h6 h4 => gm_fv_sfa h5) ?_ rfl (fun i w hw => ?_) (fun i w hw => ?_)
  · refine ⟨?_, z2, ?_, z4, ?_, ?_, ?_, ?_, ?_⟩
    · rw [gm_fv_sfa (by omega)]; exact z1
    · rw [gm_fv_sfa (by omega)]; exact z3
    · rw [gm_fv_sfa (by omega)]; exact z5
    · rw [gm_fv_sfa (by omega)]; simp [gs_hs] at z6 ⊢; exact z6
    · simp [gs_hs, gs_f1] at z7 ⊢; omega
    · simp [gs_hs] at z8 ⊢; omega
    · rw [gm_fv_sfa (by omega)]; exact z9
  · have hw : ((gs_hs s).modify e (fun q => (v, q.2)))[i]? = some w := hw
    rw [gm_fv_sfa (show x + 6 ≠ x + 5 by omega)]
    rw [List.getElem?_modify] at hw
    cases hq : (gs_hs s)[i]? with
    | none => rw [hq] at hw; cases hw
    | some w0 =>
      rw [hq] at hw
      obtain ⟨q1, q2⟩ := q.2.2.2.2.2.1 i w0 hq
      by_cases hi : e = i
      · subst hi
        simp at hw
        subst hw
        rw [gm_fv_sf (by omega)]
        exact ⟨rfl, q2.tr g⟩
      · simp [hi] at hw
        subst hw
        rw [gm_fv_sfj (by omega)]
        exact ⟨q1, q2.tr g⟩
  · have hw : ((gs_hs s).modify e (fun q => (v, q.2)))[i]? = some w := hw
    have ec : gs_dn (s.1, s.2.1, (gs_hs s).modify e (fun q => (v, q.2)), gs_f1 s) = gs_dn s := (gs_cnt_mod (p := gs_isd) (f := fun q => (v, q.2)) (gs_hs s) e _ (List.getElem?_eq_getElem hn)).2 rfl
    rw [ec]
    rw [List.getElem?_modify] at hw
    cases hq : (gs_hs s)[i]? with
    | none => rw [hq] at hw; cases hw
    | some w0 =>
      rw [hq] at hw
      have := q.2.2.2.2.2.2.2 i w0 hq
      by_cases hi : e = i
      · subst hi
        simp at hw
        subst hw
        exact this
      · simp [hi] at hw
        subst hw
        exact this
/-- an entry's descriptor -/
theorem gx_R.setD {L : List gs_L} (q : gx_R E h x ca K F s) (hn : e < (gs_hs s).length) (hL : gx_ds h x ca K F L (.ref a)) (he : (gs_hs s)[e].2 = []) (hLn : L.length ≤ gs_dn s + 1) : gx_R E (gm_sf h (x + 6) e (.ref a)) x ca K F (s.1, s.2.1, (gs_hs s).modify e (fun q => (q.1, L)), gs_f1 s) := by
  have A := q.1
  obtain ⟨-, -, -, -, -, -, -, -, -, -, -, -, -, -, -, A5, -, A6, -⟩ := A
  obtain ⟨z1, z2, z3, z4, z5, z6, z7, z8, z9⟩ := q.2.2.2.1
  have g : gx_ag h (gm_sf h (x + 6) e (.ref a)) x F := gx_ag.sf (gx_ok.no (by omega))
  refine q.hnd g (by simp only [gm_sf_1]) (fun a => by simp only [gm_kd_sf]) (fun a => by simp only [gm_ln_sf]) (fun a j h5 h6 h4 => gm_fv_sfa h6) ?_ rfl (fun i w hw => ?_) (fun i w hw => ?_)
  · refine ⟨?_, z2, ?_, z4, ?_, ?_, ?_, ?_, ?_⟩
    · rw [gm_fv_sfa (by omega)]; exact z1
    · rw [gm_fv_sfa (by omega)]; exact z3
    · rw [gm_fv_sfa (by omega)]; exact z5
    · rw [gm_fv_sfa (by omega)]; simp [gs_hs] at z6 ⊢; exact z6
    · simp [gs_hs, gs_f1] at z7 ⊢; omega
    · simp [gs_hs] at z8 ⊢; omega
    · rw [gm_fv_sfa (by omega)]; exact z9
  · have hw : ((gs_hs s).modify e (fun q => (q.1, L)))[i]? = some w := hw
    rw [gm_fv_sfa (show x + 5 ≠ x + 6 by omega)]
    rw [List.getElem?_modify] at hw
    cases hq : (gs_hs s)[i]? with
    | none => rw [hq] at hw; cases hw
    | some w0 =>
      rw [hq] at hw
      obtain ⟨q1, q2⟩ := q.2.2.2.2.2.1 i w0 hq
      by_cases hi : e = i
      · subst hi
        simp at hw
        subst hw
        rw [gm_fv_sf (by omega)]
        exact ⟨q1, hL.tr g⟩
      · simp [hi] at hw
        subst hw
        rw [gm_fv_sfj (by omega)]
        exact ⟨q1, q2.tr g⟩
  · have hw : ((gs_hs s).modify e (fun q => (q.1, L)))[i]? = some w := hw
    have hne : L ≠ [] := fun z => by subst z; cases hL
    have ec : gs_dn (s.1, s.2.1, (gs_hs s).modify e (fun q => (q.1, L)), gs_f1 s) = gs_dn s + 1 := (gs_cnt_mod (p := gs_isd) (f := fun q => (q.1, L)) (gs_hs s) e _ (List.getElem?_eq_getElem hn)).1 (by unfold gs_isd; rw [he]; rfl) (by cases L with
      | nil => exact absurd rfl hne
      | cons _ _ => rfl)
    rw [ec]
    rw [List.getElem?_modify] at hw
    cases hq : (gs_hs s)[i]? with
    | none => rw [hq] at hw; cases hw
    | some w0 =>
      rw [hq] at hw
      have := q.2.2.2.2.2.2.2 i w0 hq
      by_cases hi : e = i
      · subst hi
        simp at hw
        subst hw
        exact hLn
      · simp [hi] at hw
        subst hw
        omega
/-- other handles that count: first and end anew, within what is there -/
theorem gx_R.rew {m : Nat} (q : gx_R E h x ca K F s) (hm : m = (gs_hs s).length) : gx_R E (gm_sf (gm_sf h (x + 4) 2 (.int (nI m))) (x + 4) 3 (.int (nI m))) x ca K F (s.1, s.2.1, gs_hs s, m) := by
  obtain ⟨z1, z2, z3, z4, z5, z6, z7, z8, z9⟩ := q.2.2.2.1
  have g : gx_ag h (gm_sf (gm_sf h (x + 4) 2 (.int (nI m))) (x + 4) 3 (.int (nI m))) x F := (gx_ag.sf (gx_ok.no (by omega))).trans (gx_ag.sf (gx_ok.no (by omega)))
  have l4 : gm_ln h (x + 4) = 4 := q.len.2
  refine q.hnd g (by simp only [gm_sf_1]) (fun a => by simp only [gm_kd_sf]) (fun a => by simp only [gm_ln_sf]) (fun a j h5 h6 h4 => ?_) ?_ rfl (fun i w hw => ?_) (fun i w hw => q.2.2.2.2.2.2.2 i w hw)
  · rcases h4 with z | z
    · rw [gm_fv_sfa z, gm_fv_sfa z]
    · rw [gm_fv_sfj (by omega), gm_fv_sfj (by omega)]
  · refine ⟨?_, z2, ?_, z4, ?_, ?_, ?_, z8, ?_⟩
    · rw [gm_fv_sfa (by omega), gm_fv_sfa (by omega)]; exact z1
    · rw [gm_fv_sfa (by omega), gm_fv_sfa (by omega)]; exact z3
    · rw [gm_fv_sfj (by decide), gm_fv_sf (by omega)]; rfl
    · rw [gm_fv_sf (by rw [gm_ln_sf]; omega), hm]; rfl
    · show m ≤ (gs_hs s).length; omega
    · rw [gm_fv_sfa (by omega), gm_fv_sfa (by omega)]; exact z9
  · have hw : (gs_hs s)[i]? = some w := hw
    rw [gm_fv_sfa (by omega), gm_fv_sfa (by omega), gm_fv_sfa (by omega), gm_fv_sfa (by omega)]
    exact ⟨(q.2.2.2.2.2.1 i w hw).1, (q.2.2.2.2.2.1 i w hw).2.tr g⟩
/-- an object more: made at t, behind all others -/
theorem gx_R.addT {o : gs_O} (q : gx_R E h x ca K F s) (how : ∀ c, o.2.1 = some c → (gs_cls K c).isSome = true) (hn : (gs_hp s).length < 234) (ho : gx_th h ca o t) (ht : gx_ok h x F t ∧ gx_ok h x F (t + 1)) (hb : ∀ i u, i < (gs_hp s).length → gm_fv h (x + 3) i = .ref u → u + 1 < t) :
    gx_R E (gm_sf (gm_sf h (x + 3) (gs_hp s).length (.ref t)) x 9 (.int (nI ((gs_hp s).length + 1)))) x ca K F (s.1, gs_hp s ++ [o], s.2.2) := by
  have l0 : gm_ln h x = 13 := q.len.1
  obtain ⟨q1, q2, q3, q4, ⟨ta, q5⟩, q6, q7⟩ := q
  have A := q1
  obtain ⟨-, -, -, -, -, -, -, -, -, -, A3, -, -, -, -, -, -, -, -⟩ := A
  obtain ⟨z1, z2, z3, z4, z5, z6, z7, z8, z9⟩ := q4
  have g : gx_ag h (gm_sf (gm_sf h (x + 3) (gs_hp s).length (.ref t)) x 9 (.int (nI ((gs_hp s).length + 1)))) x F := (gx_ag.sf (gx_ok.no (by omega))).trans (gx_ag.sf (gx_ok.no (by omega)))
  have hf : ∀ a j, a ≠ x + 3 → (a ≠ x ∨ j ≠ 9) → gm_fv (gm_sf (gm_sf h (x + 3) (gs_hp s).length (.ref t)) x 9 (.int (nI ((gs_hp s).length + 1)))) a j = gm_fv h a j := fun a j h3 h0 => by
    rcases h0 with z | z
    · rw [gm_fv_sfa z, gm_fv_sfa h3]
    · rw [gm_fv_sfj z, gm_fv_sfa h3]
  refine ⟨?_, ?_, q3.tr g (fun c _ => hf _ _ (by omega) (by omega)), ⟨?_, z2, ?_, ?_, ?_, ?_, z7, z8, ?_⟩, ⟨fun i => if i < (gs_hp s).length then ta i else t, fun i j hij hj => ?_, fun i w hw => ?_⟩, fun i w hw => ?_, fun i w c hw hc => ?_, q7.2⟩
  · unfold gx_A at q1 ⊢
    simp only [gm_kd_sf, gm_ln_sf, gm_sf_1, hf x 4 (by omega) (Or.inr (by decide)), hf x 5 (by omega) (Or.inr (by decide)), hf x 8 (by omega) (Or.inr (by decide)), hf x 10 (by omega) (Or.inr (by decide)), hf (x + 4) _ (by omega) (Or.inl (by omega))]
    exact q1
  · unfold gx_B at q2 ⊢
    simp only [hf x 0 (by omega) (Or.inr (by decide)), hf x 1 (by omega) (Or.inr (by decide)), hf x 2 (by omega) (Or.inr (by decide)), hf x 3 (by omega) (Or.inr (by decide)), hf x 6 (by omega) (Or.inr (by decide)), hf (x + 2) _ (by omega) (Or.inl (by omega))]
    exact q2
  · rw [hf _ _ (by omega) (Or.inr (by decide))]; exact z1
  · rw [gm_fv_sf (by rw [gm_ln_sf]; omega)]; simp [gs_hp]
  · simp [gs_hp] at hn ⊢; omega
  · rw [hf _ _ (by omega) (Or.inl (by omega))]; exact z5
  · rw [hf _ _ (by omega) (Or.inl (by omega))]; exact z6
  · rw [hf _ _ (by omega) (Or.inr (by decide))]; exact z9
  · have hj : j < (gs_hp s ++ [o]).length := hj
    simp at hj
    have hi : i < (gs_hp s).length := by omega
    simp only [hi, if_true]
    by_cases hj2 : j < (gs_hp s).length
    · simp only [hj2, if_true]; exact q5.1 i j hij hj2
    · simp only [hj2, if_false]
      exact hb i _ hi (q5.2 i _ (List.getElem?_eq_getElem hi)).1
  · have hw : (gs_hp s ++ [o])[i]? = some w := hw
    by_cases hi : i < (gs_hp s).length
    · rw [List.getElem?_append_left hi] at hw
      obtain ⟨b1, b2, b3⟩ := q5.2 i w hw
      simp only [hi, if_true]
      refine ⟨?_, ⟨b2.1.tr g.1, b2.2.tr g.1⟩, b3.tr (g.2 _ b2.1) (g.2 _ b2.2)⟩
      rw [gm_fv_sfa (by omega), gm_fv_sfj (by omega)]; exact b1
    · have hi2 : i = (gs_hp s).length := by
        have := (List.getElem?_eq_some_iff.mp hw).1
        simp at this
        omega
      subst hi2
      simp at hw
      subst hw
      simp only [Nat.lt_irrefl, if_false]
      refine ⟨?_, ⟨ht.1.tr g.1, ht.2.tr g.1⟩, ho.tr (g.2 _ ht.1) (g.2 _ ht.2)⟩
      rw [gm_fv_sfa (by omega), gm_fv_sf (by omega)]
  · rw [hf _ _ (by omega) (Or.inl (by omega)), hf _ _ (by omega) (Or.inl (by omega))]
    exact ⟨(q6 i w hw).1, (q6 i w hw).2.tr g⟩
  · have hw : (gs_hp s ++ [o])[i]? = some w := hw
    by_cases hi : i < (gs_hp s).length
    · rw [List.getElem?_append_left hi] at hw
      exact q7.1 i w c hw hc
    · have hi2 : i = (gs_hp s).length := by
        have := (List.getElem?_eq_some_iff.mp hw).1
        simp at this
        omega
      subst hi2
      simp at hw
      subst hw
      exact how c hc
/-- objects are of other kinds than descriptors and classes -/
theorem gx_ds.md (hg : h'.1 = h.1 ∧ ∀ a, a ≠ t → a ≠ t + 1 → gm_rd h' a = gm_rd h a) (k1 : gm_kd h t = 4) (k2 : gm_kd h (t + 1) = 101) : ∀ {L : List gs_L} {v : Value}, gx_ds h x ca K F L v → gx_ds h' x ca K F L v
  | [], _, q => q
  | l :: L, v, q => by
    obtain ⟨a, u, w, rfl, o1, o2, o3, q1, q2, q3, q4, q5, q6, q7, q8, q9, q10, q11, q12, q13, q14, q15, q16, q17, q18, q19⟩ := q
    have ne : ∀ {b c : Nat}, gm_kd h b = c → c ≠ 4 → c ≠ 101 → gm_rd h' b = gm_rd h b := fun {b c} e n1 n2 => hg.2 b (fun z => by subst z; omega) (fun z => by subst z; omega)
    have ea := ne q1 (by decide) (by decide)
    have eu := ne q11 (by decide) (by decide)
    have ew := ne q13 (by decide) (by decide)
    refine ⟨a, u, w, rfl, o1.tr (by omega), o2.tr (by omega), o3.tr (by omega), ?_⟩
    simp only [gv_kd ea, gv_kd eu, gv_kd ew, gv_ln eu, gv_ln ew, gv_fv ea, gv_fv eu, gv_fv ew]
    exact ⟨q1, q2, q3, q4, q5, q6, q7, q8, q9, q10, q11, q12, q13, q14, q15, q16, q17, q18, gx_ds.md hg k1 k2 q19⟩
theorem gx_ds.mdG {G : Nat → Prop} (hg : gx_ag h h' x (fun b => b = t ∨ b = t + 1)) (k1 : gm_kd h t = 4) (k2 : gm_kd h (t + 1) = 101) : ∀ {L : List gs_L} {v : Value}, gx_ds h x ca K F L v → gx_ds h' x ca K F L v
  | [], _, q => q
  | l :: L, v, q => by
    obtain ⟨a, u, w, rfl, o1, o2, o3, q1, q2, q3, q4, q5, q6, q7, q8, q9, q10, q11, q12, q13, q14, q15, q16, q17, q18, q19⟩ := q
    have ne : ∀ {b c : Nat}, gx_ok h x F b → gm_kd h b = c → c ≠ 4 → c ≠ 101 → gm_rd h' b = gm_rd h b := fun {b c} o e n1 n2 => hg.2 b ⟨o.1, o.2.1, fun z => by rcases z with rfl | rfl <;> omega⟩
    have ea := ne o1 q1 (by decide) (by decide)
    have eu := ne o2 q11 (by decide) (by decide)
    have ew := ne o3 q13 (by decide) (by decide)
    have hle := hg.1
    refine ⟨a, u, w, rfl, o1.tr hle, o2.tr hle, o3.tr hle, ?_⟩
    simp only [gv_kd ea, gv_kd eu, gv_kd ew, gv_ln eu, gv_ln ew, gv_fv ea, gv_fv eu, gv_fv ew]
    exact ⟨q1, q2, q3, q4, q5, q6, q7, q8, q9, q10, q11, q12, q13, q14, q15, q16, q17, q18, gx_ds.mdG (G := G) hg k1 k2 q19⟩
theorem gx_G.md (hg : h'.1 = h.1 ∧ ∀ a, a ≠ t → a ≠ t + 1 → gm_rd h' a = gm_rd h a) (k1 : gm_kd h t = 4) (k2 : gm_kd h (t + 1) = 101) (q : gx_G E h x F) : gx_G E h' x F := by
  have ne : ∀ {b c : Nat}, gm_kd h b = c → c ≠ 4 → c ≠ 101 → gm_rd h' b = gm_rd h b := fun {b c} e n1 n2 => hg.2 b (fun z => by subst z; omega) (fun z => by subst z; omega)
  obtain ⟨⟨z, e0, o, j1, j2, j3⟩, e5, q⟩ := q
  refine ⟨⟨z, e0, o.tr (by omega), ?_⟩, e5, fun i hi => ?_⟩
  · have ea := ne j1 (by decide) (by decide)
    simp only [gv_kd ea, gv_ln ea, gv_fv ea]
    exact ⟨j1, j2, j3⟩
  · obtain ⟨a, v, e, o1, o2, i1, i2, i3, i4, i5, i6⟩ := q i hi
    have ea := ne i1 (by decide) (by decide)
    have ev := ne i5 (by decide) (by decide)
    refine ⟨a, v, e, o1.tr (by omega), o2.tr (by omega), ?_⟩
    simp only [gv_kd ea, gv_ln ea, gv_fv ea, gv_kd ev, gv_ln ev, gv_fv ev]
    exact ⟨i1, i2, i3, i4, i5, i6⟩
theorem gx_C.md (hg : h'.1 = h.1 ∧ ∀ a, a ≠ t → a ≠ t + 1 → gm_rd h' a = gm_rd h a) (k1 : gm_kd h t = 4) (k2 : gm_kd h (t + 1) = 101) (q : gx_C E h x ca K F) (e : ∀ c, c < 6 → gm_fv h' (x + 1) c = gm_fv h (x + 1) c) : gx_C E h' x ca K F := by
  refine ⟨⟨gx_G.md hg k1 k2 q.1.1, q.1.2⟩, fun c hc => ⟨fun z => ?_, fun C z => ?_⟩⟩
  · rw [e c hc]; exact (q.2 c hc).1 z
  · obtain ⟨a1, ⟨⟨o1, o2, o3⟩, p1, p2, p3, p4, p5, p6, p7, p8, p9, p10, p11, p12, p13, p14, p15, p16⟩, a3⟩ := (q.2 c hc).2 C z
    have ne : ∀ {b c : Nat}, gm_kd h b = c → c ≠ 4 → c ≠ 101 → gm_rd h' b = gm_rd h b := fun {b c} e n1 n2 => hg.2 b (fun z => by subst z; omega) (fun z => by subst z; omega)
    have ea := ne p1 (by decide) (by decide)
    have eu := ne p12 (by decide) (by decide)
    have ew := ne p14 (by decide) (by decide)
    refine ⟨by rw [e c hc]; exact a1, ⟨⟨o1.tr (by omega), o2.tr (by omega), o3.tr (by omega)⟩, ?_⟩, a3⟩
    simp only [gv_kd ea, gv_kd eu, gv_kd ew, gv_ln eu, gv_ln ew, gv_fv ea, gv_fv eu, gv_fv ew]
    exact ⟨p1, p2, p3, p4, p5, p6, p7, p8, p9, p10, p11, p12, p13, p14, p15, p16⟩
/-- an object changed in place: h' differs at t and t + 1 alone -/
theorem gx_R.modT {f : gs_O → gs_O} {i0 : Nat} {o0 : gs_O} (q : gx_R E h x ca K F s) (ht : gm_fv h (x + 3) i0 = .ref t) (hi : (gs_hp s)[i0]? = some o0) (hg : h'.1 = h.1 ∧ ∀ a, a ≠ t → a ≠ t + 1 → gm_rd h' a = gm_rd h a) (ho : gx_th h ca o0 t → gx_th h' ca (f o0) t) (hfo : (f o0).2.1 = o0.2.1) :
    gx_R E h' x ca K F (s.1, (gs_hp s).modify i0 f, s.2.2) := by
  obtain ⟨q1, q2, q3, q4, ⟨ta, q5⟩, q6, q7⟩ := q
  obtain ⟨b1, b2, b3⟩ := q5.2 i0 o0 hi
  rw [ht] at b1
  have et : t = ta i0 := by injection b1
  subst et
  have hx := b2.1.1
  have hx2 := b2.2.1
  have hr : ∀ i, i ≤ 6 → gm_rd h' (x + i) = gm_rd h (x + i) := fun i hi => hg.2 _ (by omega) (by omega)
  have hr0 := hr 0 (by decide)
  rw [Nat.add_zero] at hr0
  refine ⟨?_, ?_, gx_C.md hg b3.1 b3.2.2.2.2.2.2.1 q3 (fun c _ => gv_fv (hr 1 (by decide))), ?_, ⟨ta, fun i j hij hj => q5.1 i j hij (by simpa [gs_hp] using hj), fun i w hw => ?_⟩, fun i w hw => ?_, fun i w c hw hc => ?_, q7.2⟩
  · unfold gx_A at q1 ⊢
    simp only [hg.1, gv_kd hr0, gv_fv hr0, gv_kd (hr 1 (by decide)), gv_ln (hr 1 (by decide)), gv_kd (hr 2 (by decide)), gv_ln (hr 2 (by decide)), gv_kd (hr 3 (by decide)), gv_ln (hr 3 (by decide)), gv_kd (hr 4 (by decide)), gv_fv (hr 4 (by decide)), gv_kd (hr 5 (by decide)), gv_ln (hr 5 (by decide)), gv_kd (hr 6 (by decide)), gv_ln (hr 6 (by decide))]
    exact q1
  · unfold gx_B at q2 ⊢
    simp only [gv_fv hr0, gv_fv (hr 2 (by decide))]
    exact q2
  · unfold gx_M at q4 ⊢
    simp only [gv_fv hr0, gv_fv (hr 4 (by decide))]
    simpa [gs_hp, gs_pl, gs_hs, gs_f1] using q4
  · have hw : ((gs_hp s).modify i0 f)[i]? = some w := hw
    rw [List.getElem?_modify] at hw
    cases hq : (gs_hp s)[i]? with
    | none => rw [hq] at hw; cases hw
    | some w0 =>
      rw [hq] at hw
      obtain ⟨c1, c2, c3⟩ := q5.2 i w0 hq
      have ok : ∀ {a}, gx_ok h x F a → gx_ok h' x F a := fun o => o.tr (by rw [hg.1]; exact Nat.le_refl _)
      by_cases hii : i0 = i
      · subst hii
        rw [hi] at hq
        cases hq
        simp at hw
        subst hw
        exact ⟨by rw [gv_fv (hr 3 (by decide))]; exact c1, ⟨ok c2.1, ok c2.2⟩, ho c3⟩
      · simp [hii] at hw
        subst hw
        have l1 := (List.getElem?_eq_some_iff.mp hq).1
        have l2 := (List.getElem?_eq_some_iff.mp hi).1
        have nn : ta i ≠ ta i0 ∧ ta i ≠ ta i0 + 1 ∧ ta i + 1 ≠ ta i0 ∧ ta i + 1 ≠ ta i0 + 1 := by
          rcases Nat.lt_or_ge i i0 with z | z
          · have := q5.1 i i0 z l2; omega
          · have := q5.1 i0 i (by omega) l1; omega
        exact ⟨by rw [gv_fv (hr 3 (by decide))]; exact c1, ⟨ok c2.1, ok c2.2⟩, c3.tr (hg.2 _ nn.1 nn.2.1) (hg.2 _ nn.2.2.1 nn.2.2.2)⟩
  · rw [gv_fv (hr 5 (by decide)), gv_fv (hr 6 (by decide))]
    exact ⟨(q6 i w hw).1, gx_ds.md hg b3.1 b3.2.2.2.2.2.2.1 (q6 i w hw).2⟩
  · have hw : ((gs_hp s).modify i0 f)[i]? = some w := hw
    rw [List.getElem?_modify] at hw
    cases hq : (gs_hp s)[i]? with
    | none => rw [hq] at hw; cases hw
    | some w0 =>
      rw [hq] at hw
      by_cases hii : i0 = i
      · subst hii
        rw [hi] at hq
        cases hq
        simp at hw
        subst hw
        exact q7.1 _ _ c hi (by rw [← hfo]; exact hc)
      · simp [hii] at hw
        subst hw
        exact q7.1 _ _ c hq hc
end REP3
/-! WHAT A METHOD OF A READ LEAVES BEHIND. G: addresses that it may change beside its own cells. -/
def gx_le (s s' : gs_S) : Prop := (gs_hp s).length ≤ (gs_hp s').length ∧ (gs_hs s).length ≤ (gs_hs s').length
/-- nothing that stood before has changed -/
def gx_mv (h h' : gm_H) (x : Nat) (G : Nat → Prop) (s : gs_S) : Prop := gx_ag h h' x G ∧ (∀ c, gm_fv h' (x + 1) c = gm_fv h (x + 1) c) ∧ gm_fv h' x 11 = gm_fv h x 11 ∧ (∀ i, i < (gs_hp s).length → gm_fv h' (x + 3) i = gm_fv h (x + 3) i) ∧ ∀ i, i < (gs_hs s).length → gm_fv h' (x + 5) i = gm_fv h (x + 5) i ∧ gm_fv h' (x + 6) i = gm_fv h (x + 6) i
/-- after a fault -/
def gx_E (h : gm_H) (x : Nat) (K : gs_K) (f : Int32) : Prop := gx_A h x ∧ gx_B h x K ∧ gm_fv h x 12 = .int f
/-- what was made is paid by bytes that were passed -/
def gx_co (h h' : gm_H) (s s' : gs_S) : Prop := h'.1 + gs_pl s ≤ h.1 + gs_pl s' ∧ h'.2.1 + 8 * gs_pl s ≤ h.2.1 + 8 * gs_pl s'
def gx_cx (h h' : gm_H) (K : gs_K) (s : gs_S) : Prop := h'.1 + gs_pl s ≤ h.1 + gs_n K + 3 ∧ h'.2.1 + 8 * gs_pl s ≤ h.2.1 + 8 * gs_n K + 60
def gx_P {α : Type} (E : Nat → Value) (h : gm_H) (x : Nat) (ca : Nat → Nat) (K : gs_K) (F G : Nat → Prop) (s : gs_S) (val : α → gm_H → Option Value → Prop) (res : Except Int32 (α × gs_S)) : gm_R → gm_H → Prop
  | .inl v, h' => ∃ (a : α) (s' : gs_S), res = .ok (a, s') ∧ val a h' v ∧ gx_R E h' x ca K F s' ∧ gx_mv h h' x G s ∧ gx_le s s' ∧ gx_co h h' s s'
  | .inr _, h' => ∃ f : Int32, res = .error f ∧ gx_E h' x K f ∧ gx_mv h h' x G s ∧ gx_cx h h' K s
theorem i32_10 : ((1 : Int32) = 0) = False := eq_false (by decide)
theorem gm_cmp1 : gm_cmp 1 = 12 := rfl
theorem gm_cmp3 : gm_cmp 3 = 10 := rfl
theorem gm_cmp4 : gm_cmp 4 = 11 := rfl
/-- nothing made -/
def gx_nal (h h' : gm_H) : Prop := h'.1 = h.1 ∧ h'.2.1 = h.2.1
theorem gx_nal.refl {h : gm_H} : gx_nal h h := ⟨rfl, rfl⟩
theorem gx_nal.trans {h h1 h' : gm_H} (p : gx_nal h h1) (q : gx_nal h1 h') : gx_nal h h' := ⟨q.1.trans p.1, q.2.trans p.2⟩
theorem gx_nal.sf {h h1 : gm_H} {a k : Nat} {v : Value} (p : gx_nal h h1) : gx_nal h (gm_sf h1 a k v) := ⟨gm_sf_1.trans p.1, gm_sf_2.trans p.2⟩
section POST
variable {E : Nat → Value} {h h' h1 : gm_H} {x a b j k n : Nat} {ca : Nat → Nat} {K : gs_K} {F G G1 : Nat → Prop} {s s' s1 : gs_S} {v : Value} {α β : Type} {val : β → gm_H → Option Value → Prop} {va1 : α → gm_H → Option Value → Prop}
theorem gs_b_ok {m : gs_M α} {f : α → gs_M β} {a : α} (e : m s = .ok (a, s1)) : gs_b m f s = f a s1 := by unfold gs_b; rw [e]
theorem gs_b_er {m : gs_M α} {f : α → gs_M β} {c : Int32} (e : m s = .error c) : gs_b m f s = .error c := by unfold gs_b; rw [e]
theorem gs_b_cg {m m' : gs_M α} {f : α → gs_M β} (e : m s = m' s1) : gs_b m f s = gs_b m' f s1 := by unfold gs_b; rw [e]
theorem gx_le.refl : gx_le s s := ⟨Nat.le_refl _, Nat.le_refl _⟩
theorem gx_le.trans (p : gx_le s s1) (q : gx_le s1 s') : gx_le s s' := ⟨Nat.le_trans p.1 q.1, Nat.le_trans p.2 q.2⟩
theorem gx_ag.refl : gx_ag h h x G := ⟨Nat.le_refl _, fun _ _ => rfl⟩
theorem gx_ag.wk (p : gx_ag h h' x G) (hg : ∀ a, G a → h.1 ≤ a ∨ G1 a) : gx_ag h h' x G1 := ⟨p.1, fun a o => p.2 a ⟨o.1, o.2.1, fun z => by
  rcases hg a z with q | q
  · have := o.2.1; omega
  · exact o.2.2 q⟩⟩
theorem gx_mv.refl : gx_mv h h x G s := ⟨gx_ag.refl, fun _ => rfl, rfl, fun _ _ => rfl, fun _ _ => ⟨rfl, rfl⟩⟩
theorem gx_mv.wk (p : gx_mv h h' x G s) (hg : ∀ a, G a → h.1 ≤ a ∨ G1 a) : gx_mv h h' x G1 s := ⟨p.1.wk hg, p.2⟩
theorem gx_mv.trans (p : gx_mv h h1 x G s) (q : gx_mv h1 h' x G1 s1) (le : gx_le s s1) (hg : ∀ a, G1 a → h.1 ≤ a ∨ G a) : gx_mv h h' x G s := by
  refine ⟨⟨Nat.le_trans p.1.1 q.1.1, fun a o => ?_⟩, fun c => (q.2.1 c).trans (p.2.1 c), q.2.2.1.trans p.2.2.1, fun i hi => (q.2.2.2.1 i (Nat.lt_of_lt_of_le hi le.1)).trans (p.2.2.2.1 i hi), fun i hi => ?_⟩
  · refine (q.1.2 a ⟨o.1, Nat.lt_of_lt_of_le o.2.1 p.1.1, fun z => ?_⟩).trans (p.1.2 a o)
    rcases hg a z with w | w
    · have := o.2.1; omega
    · exact o.2.2 w
  · have q5 := q.2.2.2.2 i (Nat.lt_of_lt_of_le hi le.2)
    have p5 := p.2.2.2.2 i hi
    exact ⟨q5.1.trans p5.1, q5.2.trans p5.2⟩
theorem gx_co.refl : gx_co h h s s := ⟨Nat.le_refl _, Nat.le_refl _⟩
theorem gx_co.trans (p : gx_co h h1 s s1) (q : gx_co h1 h' s1 s') : gx_co h h' s s' := ⟨by have := p.1; have := q.1; omega, by have := p.2; have := q.2; omega⟩
theorem gx_co.tx (p : gx_co h h1 s s1) (q : gx_cx h1 h' K s1) : gx_cx h h' K s := ⟨by have := p.1; have := q.1; omega, by have := p.2; have := q.2; omega⟩
/-- the rest of the way, told from further on -/
theorem gx_P.reb {res : Except Int32 (β × gs_S)} {r : gm_R} (w : gx_P E h1 x ca K F G1 s1 val res r h') (mv : gx_mv h h1 x G s) (le : gx_le s s1) (co : gx_co h h1 s s1) (hg : ∀ a, G1 a → h.1 ≤ a ∨ G a) : gx_P E h x ca K F G s val res r h' := by
  cases r with
  | inl v =>
    obtain ⟨a, s', e, p1, p2, p3, p4, p5⟩ := w
    exact ⟨a, s', e, p1, p2, mv.trans p3 le hg, le.trans p4, co.trans p5⟩
  | inr v =>
    obtain ⟨f, e, p1, p2, p3⟩ := w
    exact ⟨f, e, p1, mv.trans p2 le hg, co.tx p3⟩
theorem gx_P.bnd {m : gs_M α} {f : α → gs_M β} {a : α} {r : gm_R} (w : gx_P E h1 x ca K F G s1 val (f a s1) r h') (e : m s = .ok (a, s1)) (mv : gx_mv h h1 x G s) (le : gx_le s s1) (co : gx_co h h1 s s1) : gx_P E h x ca K F G s val (gs_b m f s) r h' := by
  rw [gs_b_ok e]
  exact w.reb mv le co (fun _ z => Or.inr z)
theorem gx_P.ber {m : gs_M α} {f : α → gs_M β} {a : Nat} (w : gx_P E h x ca K F G s va1 (m s) (.inr a) h') : gx_P E h x ca K F G s val (gs_b m f s) (.inr a) h' := by
  obtain ⟨c, e, p1, p2, p3⟩ := w
  exact ⟨c, gs_b_er e, p1, p2, p3⟩
theorem gx_P.wk {res : Except Int32 (β × gs_S)} {r : gm_R} (w : gx_P E h x ca K F G s val res r h') (hg : ∀ a, G a → h.1 ≤ a ∨ G1 a) : gx_P E h x ca K F G1 s val res r h' := by
  cases r with
  | inl v =>
    obtain ⟨a, s', e, p1, p2, p3, p4, p5⟩ := w
    exact ⟨a, s', e, p1, p2, p3.wk hg, p4, p5⟩
  | inr v =>
    obtain ⟨f, e, p1, p2, p3⟩ := w
    exact ⟨f, e, p1, p2.wk hg, p3⟩
/-- so far -/
def gx_st (h : gm_H) (s : gs_S) (x : Nat) (G : Nat → Prop) (h1 : gm_H) (s1 : gs_S) : Prop := gx_mv h h1 x G s ∧ gx_le s s1 ∧ gx_co h h1 s s1
theorem gx_st.trans {h2 : gm_H} {s2 : gs_S} (p : gx_st h s x G h1 s1) (mv : gx_mv h1 h2 x G1 s1) (le : gx_le s1 s2) (co : gx_co h1 h2 s1 s2) (hg : ∀ a, G1 a → h.1 ≤ a ∨ G a) : gx_st h s x G h2 s2 := ⟨p.1.trans mv p.2.1 hg, p.2.1.trans le, p.2.2.trans co⟩
theorem gx_P.frm {res : Except Int32 (β × gs_S)} {r : gm_R} (w : gx_P E h1 x ca K F G s1 val res r h') (p : gx_st h s x G h1 s1) : gx_P E h x ca K F G s val res r h' := w.reb p.1 p.2.1 p.2.2 (fun _ z => Or.inr z)
/-- a field of its own -/
theorem gx_mv.fld (hk : k ≠ 11) : gx_mv h (gm_sf h x k v) x G s := ⟨gx_ag.sf (gx_ok.no (by omega)), fun c => gm_fv_sfa (by omega), gm_fv_sfj (Ne.symm hk), fun i _ => gm_fv_sfa (by omega), fun i _ => ⟨gm_fv_sfa (by omega), gm_fv_sfa (by omega)⟩⟩
/-- the handles' own two counters -/
theorem gx_mv.cnt : gx_mv h (gm_sf h (x + 4) k v) x G s := ⟨gx_ag.sf (gx_ok.no (by omega)), fun c => gm_fv_sfa (by omega), gm_fv_sfa (by omega), fun i _ => gm_fv_sfa (by omega), fun i _ => ⟨gm_fv_sfa (by omega), gm_fv_sfa (by omega)⟩⟩
theorem gx_mv.obj (hk : (gs_hs s).length ≤ k) : gx_mv h (gm_sf h (x + 5) k v) x G s := ⟨gx_ag.sf (gx_ok.no (by omega)), fun c => gm_fv_sfa (by omega), gm_fv_sfa (by omega), fun i _ => gm_fv_sfa (by omega), fun i hi => ⟨gm_fv_sfj (by omega), gm_fv_sfa (by omega)⟩⟩
theorem gx_mv.dsc (hk : (gs_hs s).length ≤ k) : gx_mv h (gm_sf h (x + 6) k v) x G s := ⟨gx_ag.sf (gx_ok.no (by omega)), fun c => gm_fv_sfa (by omega), gm_fv_sfa (by omega), fun i _ => gm_fv_sfa (by omega), fun i hi => ⟨gm_fv_sfa (by omega), gm_fv_sfj (by omega)⟩⟩
theorem gx_mv.thg (hk : (gs_hp s).length ≤ k) : gx_mv h (gm_sf h (x + 3) k v) x G s := ⟨gx_ag.sf (gx_ok.no (by omega)), fun c => gm_fv_sfa (by omega), gm_fv_sfa (by omega), fun i _ => gm_fv_sfj (by omega), fun i hi => ⟨gm_fv_sfa (by omega), gm_fv_sfa (by omega)⟩⟩
theorem gx_mv.new {c : gm_C} (hx : x + 6 < h.1) : gx_mv h (gm_nw h c n) x G s := ⟨gx_ag.nw, fun c => gm_fv_nw (by omega), gm_fv_nw (by omega), fun i _ => gm_fv_nw (by omega), fun i hi => ⟨gm_fv_nw (by omega), gm_fv_nw (by omega)⟩⟩
/-- a cell that may change -/
theorem gx_mv.oth (ha : a < x ∨ x + 6 < a) (hG : h.1 ≤ a ∨ G a) : gx_mv h (gm_sf h a k v) x G s := ⟨gx_ag.sf (fun o => by
  rcases hG with z | z
  · have := o.2.1; omega
  · exact o.2.2 z), fun c => gm_fv_sfa (by omega), gm_fv_sfa (by omega), fun i _ => gm_fv_sfa (by omega), fun i _ => ⟨gm_fv_sfa (by omega), gm_fv_sfa (by omega)⟩⟩
/-- one step, then others, over the same first state -/
theorem gx_mv.tr (p : gx_mv h h1 x G s) (q : gx_mv h1 h' x G s) : gx_mv h h' x G s := p.trans q gx_le.refl (fun _ z => Or.inr z)
theorem gx_st.sf (p : gx_st h s x G h1 s1) (hb : h.1 ≤ b ∨ G b) (hx : b < x ∨ x + 6 < b) : gx_st h s x G (gm_sf h1 b k v) s1 := by
  refine p.trans (G1 := fun c => c = b) (gx_mv.oth hx (Or.inr rfl)) gx_le.refl ⟨by simp only [gm_sf_1]; exact Nat.le_refl _, by simp only [gm_sf_2]; exact Nat.le_refl _⟩ (fun c z => ?_)
  subst z
  exact hb
/-- a fault goes on -/
theorem gx_P.er {F1 : Nat → Prop} {a : Nat} {res : Except Int32 (α × gs_S)} {res' : Except Int32 (β × gs_S)} (w : gx_P E h1 x ca K F1 G1 s1 va1 res (.inr a) h') (hr : ∀ f, res = .error f → res' = .error f) (p : gx_st h s x G h1 s1) (hg : ∀ a, G1 a → h.1 ≤ a ∨ G a) : gx_P E h x ca K F G s val res' (.inr a) h' := by
  obtain ⟨f, e, p1, p2, p3⟩ := w
  exact ⟨f, hr f e, p1, p.1.trans p2 p.2.1 hg, p.2.2.tx p3⟩
theorem gx_R.top (q : gx_R E h x ca K F s) : x + 6 < h.1 := q.1.2.2.2.2.2.2.2.2.2.2.2.2.2.2.2.2.2.2
theorem gx_R.err {f : Int32} {c : gm_C} (q : gx_R E h x ca K F s) : gx_E (gm_nw (gm_sf h x 12 (.int f)) c n) x K f := by
  have r := (q.raise (f := f)).new (c := c) (n := n)
  refine ⟨r.1, r.2.1, ?_⟩
  have := q.top
  rw [gm_fv_nw (by rw [gm_sf_1]; omega)]
  exact gm_fv_sf (by rw [q.len.1]; decide)
end POST
/-! NUMBERS OUT OF BYTES. -/
def gs_ubn (K : gs_K) (i : Nat) : Nat := (gs_by K i).toNat
def gs_nat (K : gs_K) (a : Nat) : Nat → Nat
  | 0 => 0
  | k + 1 => gs_nat K a k * 256 + gs_ubn K (a + k)
theorem gs_ubn_lt {K : gs_K} {i : Nat} : gs_ubn K i < 256 := (gs_by K i).toNat_lt
theorem gs_nat_lt {K : gs_K} {a : Nat} : ∀ k, gs_nat K a k < 256 ^ k
  | 0 => by show (0 : Nat) < 1; decide
  | k + 1 => by
    have h1 := gs_nat_lt (K := K) (a := a) k
    have h2 := gs_ubn_lt (K := K) (i := a + k)
    show gs_nat K a k * 256 + gs_ubn K (a + k) < 256 ^ (k + 1)
    rw [Nat.pow_succ]
    omega
set_option maxRecDepth 100000 in
theorem gs_ub8 : ∀ b : Fin 256, ((UInt8.ofNat b.val).toInt8.toInt32 &&& 255).toInt64 = Int64.ofNat b.val := by decide +kernel
theorem gs_ub_nat {K : gs_K} {i : Nat} : gs_ub K i = Int64.ofNat (gs_ubn K i) := by
  have h := gs_ub8 ⟨gs_ubn K i, gs_ubn_lt⟩
  have e : UInt8.ofNat (gs_ubn K i) = gs_by K i := UInt8.ofNat_toNat
  unfold gs_ub gs_sb
  rw [← e]
  exact h
theorem gs_or8 {m b : Nat} (hm : m < 2 ^ 56) (hb : b < 256) : Int64.ofNat m <<< 8 ||| Int64.ofNat b = Int64.ofNat (m * 256 + b) := by
  apply Int64.toBitVec_inj.mp
  apply BitVec.eq_of_toNat_eq
  rw [Int64.toBitVec_or, BitVec.toNat_or]
  have e1 : (Int64.ofNat m <<< 8).toBitVec.toNat = m <<< 8 := by
    have : (Int64.ofNat m <<< 8).toBitVec = (Int64.ofNat m).toBitVec <<< 8 := rfl
    rw [this, BitVec.toNat_shiftLeft]
    show ((BitVec.ofNat 64 m).toNat <<< 8) % 2 ^ 64 = m <<< 8
    rw [BitVec.toNat_ofNat, Nat.mod_eq_of_lt (by omega), Nat.shiftLeft_eq, Nat.mod_eq_of_lt (by omega)]
    exact (Nat.shiftLeft_eq m 8).symm
  have e2 : (Int64.ofNat b).toBitVec.toNat = b := by
    show (BitVec.ofNat 64 b).toNat = b
    rw [BitVec.toNat_ofNat, Nat.mod_eq_of_lt (by omega)]
  have e3 : (Int64.ofNat (m * 256 + b)).toBitVec.toNat = m * 256 + b := by
    show (BitVec.ofNat 64 (m * 256 + b)).toNat = m * 256 + b
    rw [BitVec.toNat_ofNat, Nat.mod_eq_of_lt (by omega)]
  rw [e1, e2, e3, ← Nat.shiftLeft_add_eq_or_of_lt (show b < 2 ^ 8 by omega), Nat.shiftLeft_eq]
theorem gs_num_nat {K : gs_K} {a : Nat} : ∀ k, k ≤ 8 → gs_num K a k = Int64.ofNat (gs_nat K a k)
  | 0, _ => rfl
  | k + 1, hk => by
    have h1 := gs_nat_lt (K := K) (a := a) k
    have h2 : (256 : Nat) ^ k ≤ 256 ^ 7 := Nat.pow_le_pow_right (by decide) (by omega)
    show gs_num K a k <<< 8 ||| gs_ub K (a + k) = _
    rw [gs_num_nat k (by omega), gs_ub_nat, gs_or8 (by omega) gs_ubn_lt]
    rfl
theorem gs_num_i {K : gs_K} {a k : Nat} (hk : k ≤ 8) : (gs_num K a k).toInt32 = nI (gs_nat K a k) := by
  rw [gs_num_nat k hk]
  first | exact Int64.toInt32_ofNat' | exact Int64.toInt32_ofNat _ | simp [nI]
theorem gs_num2 {K : gs_K} {a : Nat} : ∃ m : Nat, m < 65536 ∧ (gs_num K a 2).toInt32 = nI m := ⟨gs_nat K a 2, gs_nat_lt 2, gs_num_i (by decide)⟩
theorem gs_num1 {K : gs_K} {a : Nat} : (gs_num K a 1).toInt32 = nI (gs_ubn K a) := by
  rw [gs_num_i (by decide)]
  show nI (0 * 256 + gs_ubn K (a + 0)) = _
  simp
/-! NEW CELLS ALONE; a new object. -/
section FAR
variable {E : Nat → Value} {h h' : gm_H} {x t n : Nat} {ca : Nat → Nat} {K : gs_K} {F G : Nat → Prop} {s : gs_S}
theorem gx_R.far (q : gx_R E h x ca K F s) (hle : h.1 ≤ h'.1) (hr : ∀ a, a < h.1 → gm_rd h' a = gm_rd h a) : gx_R E h' x ca K F s := by
  have hx := q.1.2.2.2.2.2.2.2.2.2.2.2.2.2.2.2.2.2.2
  have r0 := hr x (by omega)
  have r1 := hr (x + 1) (by omega)
  have r2 := hr (x + 2) (by omega)
  have r3 := hr (x + 3) (by omega)
  have r4 := hr (x + 4) (by omega)
  have r5 := hr (x + 5) (by omega)
  have r6 := hr (x + 6) (by omega)
  refine q.own ⟨hle, fun a o => hr a o.2.1⟩ ?_ ?_ (fun c _ => gv_fv r1) ?_ (fun i _ => gv_fv r3) (fun i _ => ⟨gv_fv r5, gv_fv r6⟩) rfl rfl
  · have z := q.1
    unfold gx_A at z ⊢
    simp only [gv_kd r0, gv_fv r0, gv_kd r1, gv_ln r1, gv_kd r2, gv_ln r2, gv_kd r3, gv_ln r3, gv_kd r4, gv_fv r4, gv_kd r5, gv_ln r5, gv_kd r6, gv_ln r6]
    obtain ⟨z1, z2, z3, z4, z5, z6, z7, z8, z9, z10, z11, z12, z13, z14, z15, z16, z17, z18, z19⟩ := z
    exact ⟨z1, z2, z3, z4, z5, z6, z7, z8, z9, z10, z11, z12, z13, z14, z15, z16, z17, z18, by omega⟩
  · have z := q.2.1
    unfold gx_B at z ⊢
    simp only [gv_fv r0, gv_fv r2]
    exact z
  · have z := q.2.2.2.1
    unfold gx_M at z ⊢
    simp only [gv_fv r0, gv_fv r4]
    exact z
theorem gx_mv.far (hx : x + 6 < h.1) (hle : h.1 ≤ h'.1) (hr : ∀ a, a < h.1 → gm_rd h' a = gm_rd h a) : gx_mv h h' x G s :=
  ⟨⟨hle, fun a o => hr a o.2.1⟩, fun c => gv_fv (hr _ (by omega)), gv_fv (hr _ (by omega)), fun i _ => gv_fv (hr _ (by omega)), fun i _ => ⟨gv_fv (hr _ (by omega)), gv_fv (hr _ (by omega))⟩⟩
/-- an object made at t: sort, class, a row of so many values -/
def gx_mk (h : gm_H) (t : Nat) (so : Int32) (ow : Value) (n : Nat) : gm_H := gm_sf (gm_nw (gm_sf (gm_sf h t 0 (.int so)) t 1 ow) (101, List.replicate n (.long 0)) n) t 2 (.ref h.1)
def gx_n1 (h : gm_H) : gm_H := gm_nw h (4, [.int 0, .null, .null, .int 0, .int 0]) 5
theorem gx_n1_1 : (gx_n1 h).1 = h.1 + 1 := rfl
theorem gx_mk_1 {so : Int32} {ow : Value} : (gx_mk h t so ow n).1 = h.1 + 1 ∧ (gx_mk h t so ow n).2.1 = h.2.1 + n := by
  unfold gx_mk
  simp only [gm_sf_1, gm_sf_2, gm_nw_1, gm_nw_2, and_self]
theorem gx_mk_rd {so : Int32} {ow : Value} : ∀ a, a < h.1 → gm_rd (gx_mk (gx_n1 h) h.1 so ow n) a = gm_rd h a := by
  intro a ha
  unfold gx_mk gx_n1
  rw [gm_rd_sfn (by omega), gm_rd_nwn (by simp only [gm_sf_1, gm_nw_1]; omega), gm_rd_sfn (by omega), gm_rd_sfn (by omega), gm_rd_nwn (by omega)]
theorem gx_mk_th {so : Int32} {o : Option Nat} (hn : n < 1000) : gx_th (gx_mk (gx_n1 h) h.1 so (gx_ow ca o) n) ca (so, o, List.replicate n 0, 0, 0) h.1 := by
  have k0 : gm_kd (gx_n1 h) h.1 = 4 := by unfold gx_n1; rw [gm_kd_nw1]; rfl
  have l0 : gm_ln (gx_n1 h) h.1 = 5 := gm_ln_nw1
  have f3 : ∀ j, gm_fv (gx_n1 h) h.1 j = ([.int 0, .null, .null, .int 0, .int 0] : List Value).getD j gm_u := fun j => gm_fv_nw1
  have n1 : h.1 ≠ h.1 + 1 := by omega
  have n2 : h.1 + 1 ≠ h.1 := by omega
  have e1 : (gm_sf (gm_sf (gx_n1 h) h.1 0 (.int so)) h.1 1 (gx_ow ca o)).1 = h.1 + 1 := by simp only [gm_sf_1]; rfl
  have e1' : h.1 ≠ (gm_sf (gm_sf (gx_n1 h) h.1 0 (.int so)) h.1 1 (gx_ow ca o)).1 := by rw [e1]; omega
  refine ⟨?_, ?_, ?_, ?_, ?_, ?_, ?_, ?_, ?_, ?_⟩
  · unfold gx_mk; rw [gm_kd_sf, gm_kd_nw e1', gm_kd_sf, gm_kd_sf, k0]
  · unfold gx_mk; rw [gm_fv_sfj (by decide), gm_fv_nw e1', gm_fv_sfj (by decide), gm_fv_sf (by rw [l0]; decide)]
  · unfold gx_mk; rw [gm_fv_sfj (by decide), gm_fv_nw e1', gm_fv_sf (by rw [gm_ln_sf, l0]; decide)]
  · unfold gx_mk; rw [gm_fv_sf (by rw [gm_ln_nw e1', gm_ln_sf, gm_ln_sf, l0]; decide)]; rfl
  · unfold gx_mk; rw [gm_fv_sfj (by decide), gm_fv_nw e1', gm_fv_sfj (by decide), gm_fv_sfj (by decide), f3]; rfl
  · unfold gx_mk; rw [gm_fv_sfj (by decide), gm_fv_nw e1', gm_fv_sfj (by decide), gm_fv_sfj (by decide), f3]; rfl
  · unfold gx_mk; rw [gm_kd_sf, ← e1, gm_kd_nw1]; rfl
  · unfold gx_mk; rw [gm_ln_sf, ← e1, gm_ln_nw1]; simp
  · simpa using hn
  · intro j v hj
    unfold gx_mk
    rw [gm_fv_sfa n2, ← e1, gm_fv_nw1]
    simp only [List.getElem?_replicate] at hj
    split at hj
    · rename_i hl
      cases hj
      simp [List.getD, hl]
    · cases hj
end FAR
section INTS
theorem i32_as {a b c : Int32} : a + b - c = a + (b - c) := by rw [Int32.sub_eq_add_neg, Int32.sub_eq_add_neg, Int32.add_assoc]
theorem nI_addn {f : Nat} {j : Int32} (hf : f < 1000) (hj : j < 0) : nI f + j < nI f := by
  rw [Int32.lt_iff_toInt_lt, Int32.toInt_add, nI_toInt (by omega)]
  rw [Int32.lt_iff_toInt_lt, Int32.toInt_zero] at hj
  have := Int32.le_toInt j
  have : ((f : Int) + j.toInt).bmod (2 ^ 32) = f + j.toInt := Int.bmod_eq_of_le (by omega) (by omega)
  omega
theorem nI_addw {f m : Nat} (hf : f < 1000) (hm : m < 2 ^ 31) (h : 2 ^ 31 ≤ f + m) : nI f + nI m < nI f := by
  rw [Int32.lt_iff_toInt_lt, Int32.toInt_add, nI_toInt (show f < 2 ^ 31 by omega), nI_toInt hm]
  have : ((f : Int) + m).bmod (2 ^ 32) = (f : Int) + m - 2 ^ 32 := by
    have e : ((f : Int) + m) % ((2 ^ 32 : Nat) : Int) = (f : Int) + m := Int.emod_eq_of_lt (by omega) (by omega)
    simp only [Int.bmod, e]
    rw [if_neg (by omega)]
    omega
  omega
end INTS
/-! CHAINS OF CLASSES. -/
def gs_wf (K : gs_K) : Prop := ∀ (c : Nat) (C : gs_C), gs_cls K c = some C → c < 6 ∧ ∀ s, gs_sup C = some s → s < c ∧ (gs_cls K s).isSome = true
theorem gx_C.wf {E : Nat → Value} {h : gm_H} {x : Nat} {ca : Nat → Nat} {K : gs_K} {F : Nat → Prop} (q : gx_C E h x ca K F) : gs_wf K := by
  intro c C hC
  have hc : c < 6 := by
    rcases Nat.lt_or_ge c 6 with z | z
    · exact z
    · rw [q.1.2 c z] at hC; cases hC
  exact ⟨hc, ((q.2 c hc).2 C hC).2.2⟩
theorem gs_up_fuel {K : gs_K} (hw : gs_wf K) : ∀ (k : Nat) (o : Option Nat), (∀ c, o = some c → c < k) → gs_up K (k + 1) o = gs_up K k o
  | 0, none, _ => rfl
  | 0, some c, h => absurd (h c rfl) (by omega)
  | k + 1, none, _ => rfl
  | k + 1, some c, h => by
    show gs_up K (k + 1 + 1) (some c) = gs_up K (k + 1) (some c)
    cases hC : gs_cls K c with
    | none => unfold gs_up; rw [hC]
    | some C =>
      have e : ∀ j, gs_up K (j + 1) (some c) = (c, C) :: gs_up K j (gs_sup C) := fun j => by
        show (match gs_cls K c with
          | none => []
          | some C => (c, C) :: gs_up K j (gs_sup C)) = _
        rw [hC]
      rw [e, e, gs_up_fuel hw k (gs_sup C) (fun s hs => by have := ((hw c C hC).2 s hs).1; have := h c rfl; omega)]
theorem gs_up_more {K : gs_K} (hw : gs_wf K) (o : Option Nat) : ∀ (j k : Nat), (∀ c, o = some c → c < k) → gs_up K (k + j) o = gs_up K k o
  | 0, _, _ => rfl
  | j + 1, k, h => by
    rw [← Nat.add_assoc, gs_up_fuel hw (k + j) o (fun c hc => by have := h c hc; omega), gs_up_more hw o j k h]
theorem gs_chain_cons {K : gs_K} (hw : gs_wf K) {c : Nat} {C : gs_C} (hC : gs_cls K c = some C) : gs_chain K (some c) = (c, C) :: gs_chain K (gs_sup C) := by
  have e : gs_up K (5 + 1) (some c) = (c, C) :: gs_up K 5 (gs_sup C) := by
    show (match gs_cls K c with
      | none => []
      | some C => (c, C) :: gs_up K 5 (gs_sup C)) = _
    rw [hC]
  unfold gs_chain
  rw [show (6 : Nat) = 5 + 1 from rfl, e, gs_up_fuel hw 5 (gs_sup C) (fun s hs => by have := ((hw c C hC).2 s hs).1; have := (hw c C hC).1; omega)]
theorem gs_chain_none {K : gs_K} : gs_chain K none = [] := rfl
theorem gs_slots_cons {K : gs_K} (hw : gs_wf K) {c : Nat} {C : gs_C} (hC : gs_cls K c = some C) : gs_slots K (some c) = (gs_fs C).length + gs_first K C := by
  unfold gs_slots gs_first gs_slots
  rw [gs_chain_cons hw hC]
  simp
theorem gs_slot0_cons {K : gs_K} (hw : gs_wf K) {c : Nat} {C : gs_C} (hC : gs_cls K c = some C) : gs_slot0 K (some c) = gs_slot0 K (gs_sup C) ++ (gs_fs C).map (fun f => gs_v0 C f.2) := by
  unfold gs_slot0
  rw [gs_chain_cons hw hC]
  simp
theorem gs_slot0_len {K : gs_K} {o : Option Nat} : (gs_slot0 K o).length = gs_slots K o := by
  unfold gs_slot0 gs_slots
  simp only [List.length_flatten, List.map_map, List.map_reverse, List.sum_reverse]
  congr 1
  apply List.map_congr_left
  intro q _
  simp
theorem gs_inch_cons {K : gs_K} (hw : gs_wf K) {c : Nat} {C : gs_C} {o : Option Nat} (hC : gs_cls K c = some C) : gs_inch K o (some c) = ((some c == o) || gs_inch K o (gs_sup C)) := by
  unfold gs_inch
  rw [gs_chain_cons hw hC]
  rfl
/-- chains are short -/
theorem gs_slots_le {K : gs_K} (hw : gs_wf K) (h4 : ∀ c C, gs_cls K c = some C → (gs_fs C).length ≤ 4) : ∀ (k : Nat) (o : Option Nat), (∀ c, o = some c → c < k) → gs_slots K o ≤ 4 * k
  | k, none, _ => by show 0 ≤ 4 * k; omega
  | 0, some c, h => absurd (h c rfl) (by omega)
  | k + 1, some c, h => by
    cases hC : gs_cls K c with
    | none =>
      have : gs_slots K (some c) = 0 := by
        unfold gs_slots gs_chain
        rw [show (6 : Nat) = 5 + 1 from rfl]
        unfold gs_up
        rw [hC]
        rfl
      omega
    | some C =>
      have e1 := h4 c C hC
      have e2 := gs_slots_le hw h4 k (gs_sup C) (fun s hs => by have := ((hw c C hC).2 s hs).1; have := h c rfl; omega)
      rw [gs_slots_cons hw hC]
      unfold gs_first
      omega
theorem gs_cn_def {K : gs_K} {a n : Nat} : gs_find K a n = (if gs_let K a n 65 6 < 0 then none else if (gs_cls K (gs_let K a n 65 6).toNatClampNeg).isSome = true then some (gs_let K a n 65 6).toNatClampNeg else none) := rfl
/-! THE CLASS, 1: small methods. -/
/-- a call that comes back with v and leaves the heap h0 -/
def gx_v (v : Option Value) (h0 : gm_H) : gm_R → gm_H → Prop := fun r h' => r = .inl v ∧ h' = h0
theorem gx_kn {v : Option Value} {h0 : gm_H} {P : Option Value → gm_H → Prop} (k : P v h0) : ∀ (v9 : Option Value) (h9 : gm_H), gx_v v h0 (.inl v9) h9 → P v9 h9 := by
  rintro v9 h9 ⟨e, rfl⟩
  cases e
  exact k
theorem gx_kx {v : Option Value} {h0 : gm_H} {P : Nat → gm_H → Prop} : ∀ (x9 : Nat) (h9 : gm_H), gx_v v h0 (.inr x9) h9 → P x9 h9 := by
  rintro v9 h9 ⟨e, -⟩
  cases e
/-- a call that only fails -/
theorem gx_fn {α : Type} {E : Nat → Value} {h : gm_H} {x : Nat} {ca : Nat → Nat} {K : gs_K} {F G : Nat → Prop} {s : gs_S} {val : α → gm_H → Option Value → Prop} {f : Int32} {P : Option Value → gm_H → Prop} : ∀ (v9 : Option Value) (h9 : gm_H), gx_P E h x ca K F G s val (.error f) (.inl v9) h9 → P v9 h9 := by
  rintro v9 h9 ⟨_, _, e, -⟩
  cases e
theorem nI_leT {a b : Nat} (h : a ≤ b) (hb : b < 2 ^ 31) : (nI a ≤ nI b) = True := eq_true (nI_le h hb)
theorem nI_leF {a b : Nat} (h : b < a) (ha : a < 2 ^ 31) : (nI a ≤ nI b) = False := eq_false (nI_ge h ha)
theorem nI_ltT {a b : Nat} (h : a < b) (hb : b < 2 ^ 31) : (nI a < nI b) = True := eq_true (nI_lt h hb)
theorem nI_ltF {a b : Nat} (h : b ≤ a) (ha : a < 2 ^ 31) : (nI a < nI b) = False := eq_false (nI_nlt h ha)
theorem nI_sub {a b : Nat} (h : b ≤ a) : nI a - nI b = nI (a - b) := by
  have : nI a = nI (a - b) + nI b := by rw [nI_add]; congr 1; omega
  rw [this, Int32.add_sub_cancel]
section X1
variable {E : Nat → Value} {d x : Nat} {h : gm_H} {ca : Nat → Nat} {K : gs_K} {F G : Nat → Prop} {s : gs_S}
theorem x_isName (v : Int32) : gm_Ca E d 62 [.int v] h (gx_v (some (.int (if v < 0 then 0 else if 26 ≤ v then 0 else 1))) h) := by
  show gm_W E d 62 0 [.int v] [] h _
  simp only [r62_0, r62_1, r62_4, r62_5, r62_7, r62_10, r62_11, r62_14, r62_15, i32_10, reduceIte, gm_cmp1, gm_cmp3, gm_cmp4, gm_kd_sf, gm_ln_sf, gm_sf_1, gm_sf_2, gm_nw_1, gm_nw_2, gm_k_int, gm_k_ref, gm_k_null, gm_k_u, gm_k_long, and_true, true_and, true_or, or_true, or_false, false_or, and_self, or_self, if_true, if_false, List.map_nil, List.map_cons, List.sum_nil, List.sum_cons, Nat.zero_le, Option.toList_some, Option.toList_none, List.cons_append, List.nil_append, ne_eq, not_false_eq_true, not_true_eq_false, nI_1, nI_add, Value.category, Nat.reduceAdd, Nat.reduceMod, Nat.reduceLeDiff, Nat.reduceLT, Nat.reduceEqDiff, Nat.reducePow, Nat.le_refl, Nat.add_left_cancel_iff, Nat.add_eq_left, Nat.left_eq_add, Nat.add_zero]
  by_cases h1 : v < 0
  · simp [h1, gx_v]
  · by_cases h2 : 26 ≤ v <;> simp [h1, h2, gx_v]
theorem x_mayExtend (k a : Int32) : gm_Ca E d 63 [.int k, .int a] h (gx_v (some (.int (if 2 < a then 0 else if k ≤ 2 then (if k = 0 then (if a = 0 then 1 else 0) else 1) else 0))) h) := by
  show gm_W E d 63 0 [.int k, .int a] [] h _
  simp only [r63_0, r63_1, r63_2, r63_5, r63_6, r63_7, r63_10, r63_11, r63_12, r63_13, r63_16, r63_17, r63_20, r63_21, r63_24, r63_25, i32_10, reduceIte, gm_cmp1, gm_cmp3, gm_cmp4, gm_kd_sf, gm_ln_sf, gm_sf_1, gm_sf_2, gm_nw_1, gm_nw_2, gm_k_int, gm_k_ref, gm_k_null, gm_k_u, gm_k_long, and_true, true_and, true_or, or_true, or_false, false_or, and_self, or_self, if_true, if_false, List.map_nil, List.map_cons, List.sum_nil, List.sum_cons, Nat.zero_le, Option.toList_some, Option.toList_none, List.cons_append, List.nil_append, ne_eq, not_false_eq_true, not_true_eq_false, nI_1, nI_add, Value.category, Nat.reduceAdd, Nat.reduceMod, Nat.reduceLeDiff, Nat.reduceLT, Nat.reduceEqDiff, Nat.reducePow, Nat.le_refl, Nat.add_left_cancel_iff, Nat.add_eq_left, Nat.left_eq_add, Nat.add_zero]
  by_cases h1 : 2 < a
  · simp [h1, gx_v]
  · by_cases h2 : k ≤ 2
    · by_cases h3 : k = 0
      · subst h3
        by_cases h4 : a = 0 <;> simp [h1, h4, gx_v]
      · simp [h1, h2, h3, gx_v]
    · simp [h1, h2, gx_v]
theorem x_isBlock (v : Int32) : gm_Ca E d 74 [.int v] h (gx_v (some (.int (if gs_isB v = true then 1 else 0))) h) := by
  show gm_W E d 74 0 [.int v] [] h _
  simp only [r74_0, r74_1, r74_3, r74_6, r74_7, r74_9, r74_12, r74_13, r74_16, r74_17, i32_10, reduceIte, gm_cmp1, gm_cmp3, gm_cmp4, gm_kd_sf, gm_ln_sf, gm_sf_1, gm_sf_2, gm_nw_1, gm_nw_2, gm_k_int, gm_k_ref, gm_k_null, gm_k_u, gm_k_long, and_true, true_and, true_or, or_true, or_false, false_or, and_self, or_self, if_true, if_false, List.map_nil, List.map_cons, List.sum_nil, List.sum_cons, Nat.zero_le, Option.toList_some, Option.toList_none, List.cons_append, List.nil_append, ne_eq, not_false_eq_true, not_true_eq_false, nI_1, nI_add, Value.category, Nat.reduceAdd, Nat.reduceMod, Nat.reduceLeDiff, Nat.reduceLT, Nat.reduceEqDiff, Nat.reducePow, Nat.le_refl, Nat.add_left_cancel_iff, Nat.add_eq_left, Nat.left_eq_add, Nat.add_zero]
  by_cases h1 : v = 119
  · simp [h1, gx_v, gs_isB]
  · by_cases h2 : v = 122
    · subst h2; simp [gx_v, gs_isB]
    · simp [h1, h2, gx_v, gs_isB]
theorem x_size (R : gx_R E h x ca K F s) : gm_Ca E d 111 [.ref (x + 4)] h (gx_v (some (.int (nI (gs_size s)))) h) := by
  show gm_W E d 111 0 [.ref (x + 4)] [] h _
  obtain ⟨-, -, -, -, -, -, -, -, -, -, -, A4, -⟩ := R.1
  obtain ⟨-, -, -, -, z5, z6, z7, -⟩ := R.2.2.2.1
  simp only [r111_0, r111_0n, r111_1, r111_4, r111_4n, r111_5, r111_8, r111_9, i32_10, reduceIte, gm_cmp1, gm_cmp3, gm_cmp4, gm_kd_sf, gm_ln_sf, gm_sf_1, gm_sf_2, gm_nw_1, gm_nw_2, gm_k_int, gm_k_ref, gm_k_null, gm_k_u, gm_k_long, and_true, true_and, true_or, or_true, or_false, false_or, and_self, or_self, if_true, if_false, List.map_nil, List.map_cons, List.sum_nil, List.sum_cons, Nat.zero_le, Option.toList_some, Option.toList_none, List.cons_append, List.nil_append, ne_eq, not_false_eq_true, not_true_eq_false, nI_1, nI_add, Value.category, Nat.reduceAdd, Nat.reduceMod, Nat.reduceLeDiff, Nat.reduceLT, Nat.reduceEqDiff, Nat.reducePow, Nat.le_refl, Nat.add_left_cancel_iff, Nat.add_eq_left, Nat.left_eq_add, Nat.add_zero, A4, z5, z6, nI_sub z7]
  exact ⟨rfl, rfl⟩
theorem x_rewind {f m : Nat} {hk : gm_kd h x = 2} (u v : Int32) : gm_Ca E d 112 [.ref x, .int u, .int v] h (gx_v none (gm_sf (gm_sf h x 2 (.int u)) x 3 (.int v))) := by
  show gm_W E d 112 0 [.ref x, .int u, .int v] [] h _
  simp only [r112_0, r112_0n, r112_1, r112_2, r112_5, r112_5n, r112_6, r112_7, r112_10, i32_10, reduceIte, gm_cmp1, gm_cmp3, gm_cmp4, gm_kd_sf, gm_ln_sf, gm_sf_1, gm_sf_2, gm_nw_1, gm_nw_2, gm_k_int, gm_k_ref, gm_k_null, gm_k_u, gm_k_long, and_true, true_and, true_or, or_true, or_false, false_or, and_self, or_self, if_true, if_false, List.map_nil, List.map_cons, List.sum_nil, List.sum_cons, Nat.zero_le, Option.toList_some, Option.toList_none, List.cons_append, List.nil_append, ne_eq, not_false_eq_true, not_true_eq_false, nI_1, nI_add, Value.category, Nat.reduceAdd, Nat.reduceMod, Nat.reduceLeDiff, Nat.reduceLT, Nat.reduceEqDiff, Nat.reducePow, Nat.le_refl, Nat.add_left_cancel_iff, Nat.add_eq_left, Nat.left_eq_add, Nat.add_zero, hk]
  exact ⟨rfl, rfl⟩
theorem x_fail {α : Type} {val : α → gm_H → Option Value → Prop} {f : Int32} (R : gx_R E h x ca K F s) : gm_Ca E d 66 [.ref x, .int f] h (gx_P E h x ca K F G s val (.error f)) := by
  show gm_W E d 66 0 [.ref x, .int f] [] h _
  simp only [r66_0, r66_0n, r66_1, r66_2, r66_5, r66_8, r66_8i, i32_10, reduceIte, gm_cmp1, gm_cmp3, gm_cmp4, gm_kd_sf, gm_ln_sf, gm_sf_1, gm_sf_2, gm_nw_1, gm_nw_2, gm_k_int, gm_k_ref, gm_k_null, gm_k_u, gm_k_long, and_true, true_and, true_or, or_true, or_false, false_or, and_self, or_self, if_true, if_false, List.map_nil, List.map_cons, List.sum_nil, List.sum_cons, Nat.zero_le, Option.toList_some, Option.toList_none, List.cons_append, List.nil_append, ne_eq, not_false_eq_true, not_true_eq_false, nI_1, nI_add, Value.category, Nat.reduceAdd, Nat.reduceMod, Nat.reduceLeDiff, Nat.reduceLT, Nat.reduceEqDiff, Nat.reducePow, Nat.le_refl, Nat.add_left_cancel_iff, Nat.add_eq_left, Nat.left_eq_add, Nat.add_zero, R.1.1]
  refine ⟨f, rfl, R.err, (gx_mv.fld (by decide)).trans (gx_mv.new (by rw [gm_sf_1]; exact R.top)) gx_le.refl (fun _ z => Or.inr z), ?_⟩
  have := R.2.2.2.1.2.1
  constructor
  · simp only [gm_nw_1, gm_sf_1]; omega
  · simp only [gm_nw_2, gm_sf_2]; omega
theorem x_isInHeap {v : Int32} (R : gx_R E h x ca K F s) : gm_Ca E d 65 [.ref x, .int v] h (gx_v (some (.int (if v < 0 then 0 else if nI (gs_hp s).length ≤ v then 0 else 1))) h) := by
  show gm_W E d 65 0 [.ref x, .int v] [] h _
  obtain ⟨z1, z2, z3, z4, z5, z6, z7, z8, z9⟩ := R.2.2.2.1
  simp only [r65_0, r65_1, r65_4, r65_5, r65_5n, r65_6, r65_9, r65_12, r65_13, r65_16, r65_17, i32_10, reduceIte, gm_cmp1, gm_cmp3, gm_cmp4, gm_kd_sf, gm_ln_sf, gm_sf_1, gm_sf_2, gm_nw_1, gm_nw_2, gm_k_int, gm_k_ref, gm_k_null, gm_k_u, gm_k_long, and_true, true_and, true_or, or_true, or_false, false_or, and_self, or_self, if_true, if_false, List.map_nil, List.map_cons, List.sum_nil, List.sum_cons, Nat.zero_le, Option.toList_some, Option.toList_none, List.cons_append, List.nil_append, ne_eq, not_false_eq_true, not_true_eq_false, nI_1, nI_add, Value.category, Nat.reduceAdd, Nat.reduceMod, Nat.reduceLeDiff, Nat.reduceLT, Nat.reduceEqDiff, Nat.reducePow, Nat.le_refl, Nat.add_left_cancel_iff, Nat.add_eq_left, Nat.left_eq_add, Nat.add_zero, R.1.1, z3]
  by_cases h1 : v < 0
  · simp [h1, gx_v]
  · by_cases h2 : nI (gs_hp s).length ≤ v <;> simp [h1, h2, gx_v]
/-- bytes as a number -/
theorem x_numberAt {a z : Nat} (R : gx_R E h x ca K F s) (hz : a + z ≤ gs_n K) : gm_Ca E d 67 [.ref x, .int (nI a), .int (nI z)] h (gx_v (some (.long (gs_num K a z))) h) := by
  obtain ⟨A0, -, A5, -, -, -, -, A2, A3, -⟩ := R.1
  obtain ⟨-, -, -, -, B6, B7, B8⟩ := R.2.1
  have loop : ∀ (m i : Nat), i + m = z → gm_W E d 67 5 [.ref x, .int (nI a), .int (nI z), .long (gs_num K a i), gm_u, .int (nI (a + i))] [] h (gx_v (some (.long (gs_num K a z))) h) := by
    intro m
    induction m with
    | zero =>
      intro i hi
      have hi : i = z := by omega
      subst hi
      simp only [r67_0, r67_1, r67_2, r67_3, r67_5, r67_7, r67_8, r67_9, r67_10, r67_13, r67_15, r67_15n, r67_16, r67_19, r67_22, r67_23, r67_25, r67_26, r67_26n, r67_27, r67_30, r67_32, r67_33, r67_36, r67_37, r67_38, r67_39, r67_40, r67_43, r67_46, r67_47, i32_10, reduceIte, gm_cmp1, gm_cmp3, gm_cmp4, gm_kd_sf, gm_ln_sf, gm_sf_1, gm_sf_2, gm_nw_1, gm_nw_2, gm_k_int, gm_k_ref, gm_k_null, gm_k_u, gm_k_long, and_true, true_and, true_or, or_true, or_false, false_or, and_self, or_self, if_true, if_false, List.map_nil, List.map_cons, List.sum_nil, List.sum_cons, Nat.zero_le, Option.toList_some, Option.toList_none, List.cons_append, List.nil_append, ne_eq, not_false_eq_true, not_true_eq_false, nI_1, nI_add, Value.category, Nat.reduceAdd, Nat.reduceMod, Nat.reduceLeDiff, Nat.reduceLT, Nat.reduceEqDiff, Nat.reducePow, Nat.le_refl, Nat.add_left_cancel_iff, Nat.add_eq_left, Nat.left_eq_add, Nat.add_zero, nI_leT (Nat.le_refl (a + i)) (show a + i < 2 ^ 31 by omega)]
      exact ⟨rfl, rfl⟩
    | succ m ih =>
      intro i hi
      have e : a + i < 700 := by omega
      have e2 : a + i < gs_n K := by omega
      rw [r67_5]
      simp only [r67_0, r67_1, r67_2, r67_3, r67_7, r67_8, r67_9, r67_10, r67_13, r67_15, r67_15n, r67_16, r67_19, r67_22, r67_23, r67_25, r67_26, r67_26n, r67_27, r67_30, r67_32, r67_33, r67_36, r67_37, r67_38, r67_39, r67_40, r67_43, r67_46, r67_47, i32_10, reduceIte, gm_cmp1, gm_cmp3, gm_cmp4, gm_kd_sf, gm_ln_sf, gm_sf_1, gm_sf_2, gm_nw_1, gm_nw_2, gm_k_int, gm_k_ref, gm_k_null, gm_k_u, gm_k_long, and_true, true_and, true_or, or_true, or_false, false_or, and_self, or_self, if_true, if_false, List.map_nil, List.map_cons, List.sum_nil, List.sum_cons, Nat.zero_le, Option.toList_some, Option.toList_none, List.cons_append, List.nil_append, ne_eq, not_false_eq_true, not_true_eq_false, nI_1, nI_add, Value.category, Nat.reduceAdd, Nat.reduceMod, Nat.reduceLeDiff, Nat.reduceLT, Nat.reduceEqDiff, Nat.reducePow, Nat.le_refl, Nat.add_left_cancel_iff, Nat.add_eq_left, Nat.left_eq_add, Nat.add_zero, nI_leF (show a + i < a + z by omega) (show a + z < 2 ^ 31 by omega), nI_leF (show a + i < gs_n K by omega) (show gs_n K < 2 ^ 31 by omega), A0, A5, B6, A2, A3, e, B8 _ e2]
      exact ih (i + 1) (by omega)
  show gm_W E d 67 0 [.ref x, .int (nI a), .int (nI z), gm_u, gm_u, gm_u] [] h _
  have l0 := loop z 0 (by omega)
  simp only [r67_0, r67_1, r67_2, r67_3, r67_7, r67_8, r67_9, r67_10, r67_13, r67_15, r67_15n, r67_16, r67_19, r67_22, r67_23, r67_25, r67_26, r67_26n, r67_27, r67_30, r67_32, r67_33, r67_36, r67_37, r67_38, r67_39, r67_40, r67_43, r67_46, r67_47, i32_10, reduceIte, gm_cmp1, gm_cmp3, gm_cmp4, gm_kd_sf, gm_ln_sf, gm_sf_1, gm_sf_2, gm_nw_1, gm_nw_2, gm_k_int, gm_k_ref, gm_k_null, gm_k_u, gm_k_long, and_true, true_and, true_or, or_true, or_false, false_or, and_self, or_self, if_true, if_false, List.map_nil, List.map_cons, List.sum_nil, List.sum_cons, Nat.zero_le, Option.toList_some, Option.toList_none, List.cons_append, List.nil_append, ne_eq, not_false_eq_true, not_true_eq_false, nI_1, nI_add, Value.category, Nat.reduceAdd, Nat.reduceMod, Nat.reduceLeDiff, Nat.reduceLT, Nat.reduceEqDiff, Nat.reducePow, Nat.le_refl, Nat.add_left_cancel_iff, Nat.add_eq_left, Nat.left_eq_add, Nat.add_zero]
  exact l0
theorem x_nextNumber {z : Nat} (hd : 1 ≤ d) (R : gx_R E h x ca K F s) (hz : z ≤ 8) : gm_Ca E d 68 [.ref x, .int (nI z)] h (gx_P E h x ca K F G s (fun a h' v => v = some (.long a) ∧ gx_nal h h') (gs_nxt K z s)) := by
  show gm_W E d 68 0 [.ref x, .int (nI z), gm_u, gm_u] [] h _
  obtain ⟨A0, -, A5, -, -, -, -, A2, A3, -⟩ := R.1
  obtain ⟨-, -, -, -, B6, B7, B8⟩ := R.2.1
  obtain ⟨z1, z2, z3, z4, z5, z6, z7, z8, z9⟩ := R.2.2.2.1
  by_cases hc : gs_n K - gs_pl s < z
  · simp only [r68_0, r68_0n, r68_1, r68_4, r68_4n, r68_5, r68_8, r68_9, r68_10, r68_13, r68_13n, r68_14, r68_19, r68_20, r68_21, r68_21n, r68_22, r68_22n, r68_23, r68_26, r68_30, r68_31, r68_31n, r68_32, r68_32i, r68_33, r68_36, r68_37, r68_38, r68_41, r68_42, i32_10, reduceIte, gm_cmp1, gm_cmp3, gm_cmp4, gm_kd_sf, gm_ln_sf, gm_sf_1, gm_sf_2, gm_nw_1, gm_nw_2, gm_k_int, gm_k_ref, gm_k_null, gm_k_u, gm_k_long, and_true, true_and, true_or, or_true, or_false, false_or, and_self, or_self, if_true, if_false, List.map_nil, List.map_cons, List.sum_nil, List.sum_cons, Nat.zero_le, Option.toList_some, Option.toList_none, List.cons_append, List.nil_append, ne_eq, not_false_eq_true, not_true_eq_false, nI_1, nI_add, Value.category, Nat.reduceAdd, Nat.reduceMod, Nat.reduceLeDiff, Nat.reduceLT, Nat.reduceEqDiff, Nat.reducePow, Nat.le_refl, Nat.add_left_cancel_iff, Nat.add_eq_left, Nat.left_eq_add, Nat.add_zero, A0, B6, z1, nI_sub z2, nI_leF hc (show z < 2 ^ 31 by omega)]
    have e : gs_nxt K z s = .error (-3) := by unfold gs_nxt; rw [if_pos hc]
    rw [e]
    exact c68_16 (by simp) A0 hd (x_fail R) gx_fn (fun _ _ q => q)
  · simp only [r68_0, r68_0n, r68_1, r68_4, r68_4n, r68_5, r68_8, r68_9, r68_10, r68_13, r68_13n, r68_14, r68_19, r68_20, r68_21, r68_21n, r68_22, r68_22n, r68_23, r68_26, r68_30, r68_31, r68_31n, r68_32, r68_32i, r68_33, r68_36, r68_37, r68_38, r68_41, r68_42, i32_10, reduceIte, gm_cmp1, gm_cmp3, gm_cmp4, gm_kd_sf, gm_ln_sf, gm_sf_1, gm_sf_2, gm_nw_1, gm_nw_2, gm_k_int, gm_k_ref, gm_k_null, gm_k_u, gm_k_long, and_true, true_and, true_or, or_true, or_false, false_or, and_self, or_self, if_true, if_false, List.map_nil, List.map_cons, List.sum_nil, List.sum_cons, Nat.zero_le, Option.toList_some, Option.toList_none, List.cons_append, List.nil_append, ne_eq, not_false_eq_true, not_true_eq_false, nI_1, nI_add, Value.category, Nat.reduceAdd, Nat.reduceMod, Nat.reduceLeDiff, Nat.reduceLT, Nat.reduceEqDiff, Nat.reducePow, Nat.le_refl, Nat.add_left_cancel_iff, Nat.add_eq_left, Nat.left_eq_add, Nat.add_zero, A0, B6, z1, nI_sub z2, nI_leT (show z ≤ gs_n K - gs_pl s by omega) (show gs_n K - gs_pl s < 2 ^ 31 by omega)]
    refine c68_27 (by simp [Value.category]) A0 hd (x_numberAt R (by omega)) (gx_kn ?_) gx_kx
    simp only [r68_0, r68_0n, r68_1, r68_4, r68_4n, r68_5, r68_8, r68_9, r68_10, r68_13, r68_13n, r68_14, r68_19, r68_20, r68_21, r68_21n, r68_22, r68_22n, r68_23, r68_26, r68_30, r68_31, r68_31n, r68_32, r68_32i, r68_33, r68_36, r68_37, r68_38, r68_41, r68_42, i32_10, reduceIte, gm_cmp1, gm_cmp3, gm_cmp4, gm_kd_sf, gm_ln_sf, gm_sf_1, gm_sf_2, gm_nw_1, gm_nw_2, gm_k_int, gm_k_ref, gm_k_null, gm_k_u, gm_k_long, and_true, true_and, true_or, or_true, or_false, false_or, and_self, or_self, if_true, if_false, List.map_nil, List.map_cons, List.sum_nil, List.sum_cons, Nat.zero_le, Option.toList_some, Option.toList_none, List.cons_append, List.nil_append, ne_eq, not_false_eq_true, not_true_eq_false, nI_1, nI_add, Value.category, Nat.reduceAdd, Nat.reduceMod, Nat.reduceLeDiff, Nat.reduceLT, Nat.reduceEqDiff, Nat.reducePow, Nat.le_refl, Nat.add_left_cancel_iff, Nat.add_eq_left, Nat.left_eq_add, Nat.add_zero, A0, z1]
    refine ⟨_, gs_p (gs_pl s + z) s, by unfold gs_nxt; rw [if_neg hc], ⟨rfl, gx_nal.refl.sf⟩, R.place (by omega), gx_mv.fld (by decide), gx_le.refl, ?_⟩
    constructor
    · simp only [gm_sf_1]; show _ + gs_pl s ≤ _ + (gs_pl s + z); omega
    · simp only [gm_sf_2]; show _ + 8 * gs_pl s ≤ _ + 8 * (gs_pl s + z); omega
theorem x_nextByte (hd : 2 ≤ d) (R : gx_R E h x ca K F s) : gm_Ca E d 69 [.ref x] h (gx_P E h x ca K F G s (fun a h' v => v = some (.int a) ∧ gx_nal h h') (gs_u1 K s)) := by
  show gm_W E d 69 0 [.ref x] [] h _
  simp only [r69_0, r69_0n, r69_1, r69_5, r69_6, i32_10, reduceIte, gm_cmp1, gm_cmp3, gm_cmp4, gm_kd_sf, gm_ln_sf, gm_sf_1, gm_sf_2, gm_nw_1, gm_nw_2, gm_k_int, gm_k_ref, gm_k_null, gm_k_u, gm_k_long, and_true, true_and, true_or, or_true, or_false, false_or, and_self, or_self, if_true, if_false, List.map_nil, List.map_cons, List.sum_nil, List.sum_cons, Nat.zero_le, Option.toList_some, Option.toList_none, List.cons_append, List.nil_append, ne_eq, not_false_eq_true, not_true_eq_false, nI_1, nI_add, Value.category, Nat.reduceAdd, Nat.reduceMod, Nat.reduceLeDiff, Nat.reduceLT, Nat.reduceEqDiff, Nat.reducePow, Nat.le_refl, Nat.add_left_cancel_iff, Nat.add_eq_left, Nat.left_eq_add, Nat.add_zero]
  refine c69_2 (by simp) R.1.1 (by omega) (x_nextNumber (z := 1) (by omega) R (by decide)) (fun v h1 q => ?_) (fun _ _ q => q.ber)
  obtain ⟨a, s1, e, ⟨rfl, na⟩, q⟩ := q
  simp only [r69_0, r69_0n, r69_1, r69_5, r69_6, i32_10, reduceIte, gm_cmp1, gm_cmp3, gm_cmp4, gm_kd_sf, gm_ln_sf, gm_sf_1, gm_sf_2, gm_nw_1, gm_nw_2, gm_k_int, gm_k_ref, gm_k_null, gm_k_u, gm_k_long, and_true, true_and, true_or, or_true, or_false, false_or, and_self, or_self, if_true, if_false, List.map_nil, List.map_cons, List.sum_nil, List.sum_cons, Nat.zero_le, Option.toList_some, Option.toList_none, List.cons_append, List.nil_append, ne_eq, not_false_eq_true, not_true_eq_false, nI_1, nI_add, Value.category, Nat.reduceAdd, Nat.reduceMod, Nat.reduceLeDiff, Nat.reduceLT, Nat.reduceEqDiff, Nat.reducePow, Nat.le_refl, Nat.add_left_cancel_iff, Nat.add_eq_left, Nat.left_eq_add, Nat.add_zero]
  exact ⟨a.toInt32, s1, by unfold gs_u1; rw [gs_b_ok e]; rfl, ⟨rfl, na⟩, q⟩
theorem x_nextInt (hd : 2 ≤ d) (R : gx_R E h x ca K F s) : gm_Ca E d 70 [.ref x] h (gx_P E h x ca K F G s (fun a h' v => v = some (.int a) ∧ gx_nal h h') (gs_u4 K s)) := by
  show gm_W E d 70 0 [.ref x] [] h _
  simp only [r70_0, r70_0n, r70_1, r70_5, r70_6, i32_10, reduceIte, gm_cmp1, gm_cmp3, gm_cmp4, gm_kd_sf, gm_ln_sf, gm_sf_1, gm_sf_2, gm_nw_1, gm_nw_2, gm_k_int, gm_k_ref, gm_k_null, gm_k_u, gm_k_long, and_true, true_and, true_or, or_true, or_false, false_or, and_self, or_self, if_true, if_false, List.map_nil, List.map_cons, List.sum_nil, List.sum_cons, Nat.zero_le, Option.toList_some, Option.toList_none, List.cons_append, List.nil_append, ne_eq, not_false_eq_true, not_true_eq_false, nI_1, nI_add, Value.category, Nat.reduceAdd, Nat.reduceMod, Nat.reduceLeDiff, Nat.reduceLT, Nat.reduceEqDiff, Nat.reducePow, Nat.le_refl, Nat.add_left_cancel_iff, Nat.add_eq_left, Nat.left_eq_add, Nat.add_zero]
  refine c70_2 (by simp) R.1.1 (by omega) (x_nextNumber (z := 4) (by omega) R (by decide)) (fun v h1 q => ?_) (fun _ _ q => q.ber)
  obtain ⟨a, s1, e, ⟨rfl, na⟩, q⟩ := q
  simp only [r70_0, r70_0n, r70_1, r70_5, r70_6, i32_10, reduceIte, gm_cmp1, gm_cmp3, gm_cmp4, gm_kd_sf, gm_ln_sf, gm_sf_1, gm_sf_2, gm_nw_1, gm_nw_2, gm_k_int, gm_k_ref, gm_k_null, gm_k_u, gm_k_long, and_true, true_and, true_or, or_true, or_false, false_or, and_self, or_self, if_true, if_false, List.map_nil, List.map_cons, List.sum_nil, List.sum_cons, Nat.zero_le, Option.toList_some, Option.toList_none, List.cons_append, List.nil_append, ne_eq, not_false_eq_true, not_true_eq_false, nI_1, nI_add, Value.category, Nat.reduceAdd, Nat.reduceMod, Nat.reduceLeDiff, Nat.reduceLT, Nat.reduceEqDiff, Nat.reducePow, Nat.le_refl, Nat.add_left_cancel_iff, Nat.add_eq_left, Nat.left_eq_add, Nat.add_zero]
  exact ⟨a.toInt32, s1, by unfold gs_u4; rw [gs_b_ok e]; rfl, ⟨rfl, na⟩, q⟩
end X1
/-! THE CLASS, 2: UTF, letters, blocks, entries, limits. -/
section X2
variable {E : Nat → Value} {d x : Nat} {h : gm_H} {ca : Nat → Nat} {K : gs_K} {F G : Nat → Prop} {s : gs_S}
theorem x_passUtf (hd : 2 ≤ d) (R : gx_R E h x ca K F s) : gm_Ca E d 71 [.ref x] h (gx_P E h x ca K F G s (fun a h' v => v = some (.int (nI a)) ∧ gx_nal h h') (gs_utf K s)) := by
  have loop : ∀ (j k m a : Nat) (s : gs_S) (h0 h : gm_H), m < 65536 → k + j = m → gx_nal h0 h → gx_R E h x ca K F s → gm_W E d 71 14 [.ref x, .int (nI m), .int (nI a), .int (nI k)] [] h (gx_P E h x ca K F G s (fun a h' v => v = some (.int (nI a)) ∧ gx_nal h0 h') (gs_b (gs_sgn K j) (fun _ => gs_r a) s)) := by
    intro j
    induction j with
    | zero =>
      intro k m a s h0 h hm hk na R
      have hk : k = m := by omega
      subst hk
      simp only [r71_0, r71_0n, r71_1, r71_5, r71_6, r71_7, r71_7n, r71_8, r71_11, r71_12, r71_13, r71_14, r71_15, r71_16, r71_19, r71_19n, r71_20, r71_23, r71_23n, r71_24, r71_27, r71_30, r71_30n, r71_31, r71_36, r71_37, r71_37n, r71_38, r71_41, r71_41n, r71_42, r71_45, r71_46, r71_49, r71_49n, r71_50, r71_55, r71_56, r71_56n, r71_57, r71_57i, r71_58, r71_61, r71_62, r71_63, r71_66, r71_69, r71_72, r71_73, i32_10, reduceIte, gm_cmp1, gm_cmp3, gm_cmp4, gm_kd_sf, gm_ln_sf, gm_sf_1, gm_sf_2, gm_nw_1, gm_nw_2, gm_k_int, gm_k_ref, gm_k_null, gm_k_u, gm_k_long, and_true, true_and, true_or, or_true, or_false, false_or, and_self, or_self, if_true, if_false, List.map_nil, List.map_cons, List.sum_nil, List.sum_cons, Nat.zero_le, Option.toList_some, Option.toList_none, List.cons_append, List.nil_append, ne_eq, not_false_eq_true, not_true_eq_false, nI_1, nI_add, Value.category, Nat.reduceAdd, Nat.reduceMod, Nat.reduceLeDiff, Nat.reduceLT, Nat.reduceEqDiff, Nat.reducePow, Nat.le_refl, Nat.add_left_cancel_iff, Nat.add_eq_left, Nat.left_eq_add, Nat.add_zero, nI_leT (Nat.le_refl k) (show k < 2 ^ 31 by omega)]
      exact ⟨a, s, rfl, ⟨rfl, na⟩, R, gx_mv.refl, gx_le.refl, gx_co.refl⟩
    | succ j ih =>
      intro k m a s h0 h hm hk na R
      obtain ⟨A0, -, A5, -, -, -, -, A2, A3, -⟩ := R.1
      obtain ⟨-, -, -, -, B6, B7, B8⟩ := R.2.1
      obtain ⟨z1, z2, z3, z4, z5, z6, z7, z8, z9⟩ := R.2.2.2.1
      rw [r71_14]
      by_cases hc : gs_n K ≤ gs_pl s
      · simp only [r71_0, r71_0n, r71_1, r71_5, r71_6, r71_7, r71_7n, r71_8, r71_11, r71_12, r71_13, r71_15, r71_16, r71_19, r71_19n, r71_20, r71_23, r71_23n, r71_24, r71_27, r71_30, r71_30n, r71_31, r71_36, r71_37, r71_37n, r71_38, r71_41, r71_41n, r71_42, r71_45, r71_46, r71_49, r71_49n, r71_50, r71_55, r71_56, r71_56n, r71_57, r71_57i, r71_58, r71_61, r71_62, r71_63, r71_66, r71_69, r71_72, r71_73, i32_10, reduceIte, gm_cmp1, gm_cmp3, gm_cmp4, gm_kd_sf, gm_ln_sf, gm_sf_1, gm_sf_2, gm_nw_1, gm_nw_2, gm_k_int, gm_k_ref, gm_k_null, gm_k_u, gm_k_long, and_true, true_and, true_or, or_true, or_false, false_or, and_self, or_self, if_true, if_false, List.map_nil, List.map_cons, List.sum_nil, List.sum_cons, Nat.zero_le, Option.toList_some, Option.toList_none, List.cons_append, List.nil_append, ne_eq, not_false_eq_true, not_true_eq_false, nI_1, nI_add, Value.category, Nat.reduceAdd, Nat.reduceMod, Nat.reduceLeDiff, Nat.reduceLT, Nat.reduceEqDiff, Nat.reducePow, Nat.le_refl, Nat.add_left_cancel_iff, Nat.add_eq_left, Nat.left_eq_add, Nat.add_zero, nI_leF (show k < m by omega) (show m < 2 ^ 31 by omega), A0, z1, B6, nI_ltF hc (show gs_pl s < 2 ^ 31 by omega)]
        have e : gs_b (gs_sgn K (j + 1)) (fun _ => gs_r a) s = .error (-3) := by simp only [gs_b, gs_sgn]; rw [if_pos hc]
        rw [e]
        exact c71_33 (by simp) A0 (by omega) (x_fail R) gx_fn (fun _ _ q => q)
      · have hp : gs_pl s < gs_n K := by omega
        have hp7 : gs_pl s < 700 := by omega
        by_cases hb : gs_sb K (gs_pl s) ≤ 0
        · have hb2 : ¬ 0 < gs_sb K (gs_pl s) := Int32.not_lt.mpr hb
          simp only [r71_0, r71_0n, r71_1, r71_5, r71_6, r71_7, r71_7n, r71_8, r71_11, r71_12, r71_13, r71_15, r71_16, r71_19, r71_19n, r71_20, r71_23, r71_23n, r71_24, r71_27, r71_30, r71_30n, r71_31, r71_36, r71_37, r71_37n, r71_38, r71_41, r71_41n, r71_42, r71_45, r71_46, r71_49, r71_49n, r71_50, r71_55, r71_56, r71_56n, r71_57, r71_57i, r71_58, r71_61, r71_62, r71_63, r71_66, r71_69, r71_72, r71_73, i32_10, reduceIte, gm_cmp1, gm_cmp3, gm_cmp4, gm_kd_sf, gm_ln_sf, gm_sf_1, gm_sf_2, gm_nw_1, gm_nw_2, gm_k_int, gm_k_ref, gm_k_null, gm_k_u, gm_k_long, and_true, true_and, true_or, or_true, or_false, false_or, and_self, or_self, if_true, if_false, List.map_nil, List.map_cons, List.sum_nil, List.sum_cons, Nat.zero_le, Option.toList_some, Option.toList_none, List.cons_append, List.nil_append, ne_eq, not_false_eq_true, not_true_eq_false, nI_1, nI_add, Value.category, Nat.reduceAdd, Nat.reduceMod, Nat.reduceLeDiff, Nat.reduceLT, Nat.reduceEqDiff, Nat.reducePow, Nat.le_refl, Nat.add_left_cancel_iff, Nat.add_eq_left, Nat.left_eq_add, Nat.add_zero, nI_leF (show k < m by omega) (show m < 2 ^ 31 by omega), A0, z1, B6, nI_ltT hp (show gs_n K < 2 ^ 31 by omega), A5, A2, A3, hp7, B8 _ hp, hb2]
          have e : gs_b (gs_sgn K (j + 1)) (fun _ => gs_r a) s = .error (-4) := by simp only [gs_b, gs_sgn]; rw [if_neg hc, if_pos hb]
          rw [e]
          exact c71_52 (by simp) A0 (by omega) (x_fail R) gx_fn (fun _ _ q => q)
        · have hb2 : 0 < gs_sb K (gs_pl s) := Int32.not_le.mp hb
          simp only [r71_0, r71_0n, r71_1, r71_5, r71_6, r71_7, r71_7n, r71_8, r71_11, r71_12, r71_13, r71_15, r71_16, r71_19, r71_19n, r71_20, r71_23, r71_23n, r71_24, r71_27, r71_30, r71_30n, r71_31, r71_36, r71_37, r71_37n, r71_38, r71_41, r71_41n, r71_42, r71_45, r71_46, r71_49, r71_49n, r71_50, r71_55, r71_56, r71_56n, r71_57, r71_57i, r71_58, r71_61, r71_62, r71_63, r71_66, r71_69, r71_72, r71_73, i32_10, reduceIte, gm_cmp1, gm_cmp3, gm_cmp4, gm_kd_sf, gm_ln_sf, gm_sf_1, gm_sf_2, gm_nw_1, gm_nw_2, gm_k_int, gm_k_ref, gm_k_null, gm_k_u, gm_k_long, and_true, true_and, true_or, or_true, or_false, false_or, and_self, or_self, if_true, if_false, List.map_nil, List.map_cons, List.sum_nil, List.sum_cons, Nat.zero_le, Option.toList_some, Option.toList_none, List.cons_append, List.nil_append, ne_eq, not_false_eq_true, not_true_eq_false, nI_1, nI_add, Value.category, Nat.reduceAdd, Nat.reduceMod, Nat.reduceLeDiff, Nat.reduceLT, Nat.reduceEqDiff, Nat.reducePow, Nat.le_refl, Nat.add_left_cancel_iff, Nat.add_eq_left, Nat.left_eq_add, Nat.add_zero, nI_leF (show k < m by omega) (show m < 2 ^ 31 by omega), A0, z1, B6, nI_ltT hp (show gs_n K < 2 ^ 31 by omega), A5, A2, A3, hp7, B8 _ hp, hb2]
          have e : gs_b (gs_sgn K (j + 1)) (fun _ => gs_r a) s = gs_b (gs_sgn K j) (fun _ => gs_r a) (gs_p (gs_pl s + 1) s) := by simp only [gs_b, gs_sgn]; rw [if_neg hc, if_neg hb]
          rw [e]
          refine gm_W.mono (ih (k + 1) m a _ h0 _ hm (by omega) na.sf (R.place (p := gs_pl s + 1) (by omega))) (fun r h' w => w.reb (gx_mv.fld (by decide)) gx_le.refl ?_ (fun _ z => Or.inr z))
          constructor
          · simp only [gm_sf_1]; show _ + gs_pl s ≤ _ + (gs_pl s + 1); omega
          · simp only [gm_sf_2]; show _ + 8 * gs_pl s ≤ _ + 8 * (gs_pl s + 1); omega
  show gm_W E d 71 0 [.ref x, gm_u, gm_u, gm_u] [] h _
  simp only [r71_0, r71_0n, r71_1, r71_5, r71_6, r71_7, r71_7n, r71_8, r71_11, r71_12, r71_13, r71_14, r71_15, r71_16, r71_19, r71_19n, r71_20, r71_23, r71_23n, r71_24, r71_27, r71_30, r71_30n, r71_31, r71_36, r71_37, r71_37n, r71_38, r71_41, r71_41n, r71_42, r71_45, r71_46, r71_49, r71_49n, r71_50, r71_55, r71_56, r71_56n, r71_57, r71_57i, r71_58, r71_61, r71_62, r71_63, r71_66, r71_69, r71_72, r71_73, i32_10, reduceIte, gm_cmp1, gm_cmp3, gm_cmp4, gm_kd_sf, gm_ln_sf, gm_sf_1, gm_sf_2, gm_nw_1, gm_nw_2, gm_k_int, gm_k_ref, gm_k_null, gm_k_u, gm_k_long, and_true, true_and, true_or, or_true, or_false, false_or, and_self, or_self, if_true, if_false, List.map_nil, List.map_cons, List.sum_nil, List.sum_cons, Nat.zero_le, Option.toList_some, Option.toList_none, List.cons_append, List.nil_append, ne_eq, not_false_eq_true, not_true_eq_false, nI_1, nI_add, Value.category, Nat.reduceAdd, Nat.reduceMod, Nat.reduceLeDiff, Nat.reduceLT, Nat.reduceEqDiff, Nat.reducePow, Nat.le_refl, Nat.add_left_cancel_iff, Nat.add_eq_left, Nat.left_eq_add, Nat.add_zero]
  refine c71_2 (by simp) R.1.1 (by omega) (x_nextNumber (z := 2) (by omega) R (by decide)) (fun v h1 q => ?_) (fun _ _ q => q.ber)
  obtain ⟨v, s1, e, ⟨rfl, na⟩, R1, mv, le, co⟩ := q
  have ev : v = gs_num K (gs_pl s) 2 := by
    unfold gs_nxt at e
    split at e
    · cases e
    · cases e; rfl
  obtain ⟨m, hm, em⟩ := gs_num2 (K := K) (a := gs_pl s)
  rw [← ev] at em
  refine gm_W.mono ?_ (fun r h' w => gx_P.bnd w e mv le co)
  have z1 := R1.2.2.2.1.1
  simp only [r71_0, r71_0n, r71_1, r71_5, r71_6, r71_7, r71_7n, r71_8, r71_11, r71_12, r71_13, r71_15, r71_16, r71_19, r71_19n, r71_20, r71_23, r71_23n, r71_24, r71_27, r71_30, r71_30n, r71_31, r71_36, r71_37, r71_37n, r71_38, r71_41, r71_41n, r71_42, r71_45, r71_46, r71_49, r71_49n, r71_50, r71_55, r71_56, r71_56n, r71_57, r71_57i, r71_58, r71_61, r71_62, r71_63, r71_66, r71_69, r71_72, r71_73, i32_10, reduceIte, gm_cmp1, gm_cmp3, gm_cmp4, gm_kd_sf, gm_ln_sf, gm_sf_1, gm_sf_2, gm_nw_1, gm_nw_2, gm_k_int, gm_k_ref, gm_k_null, gm_k_u, gm_k_long, and_true, true_and, true_or, or_true, or_false, false_or, and_self, or_self, if_true, if_false, List.map_nil, List.map_cons, List.sum_nil, List.sum_cons, Nat.zero_le, Option.toList_some, Option.toList_none, List.cons_append, List.nil_append, ne_eq, not_false_eq_true, not_true_eq_false, nI_1, nI_add, Value.category, Nat.reduceAdd, Nat.reduceMod, Nat.reduceLeDiff, Nat.reduceLT, Nat.reduceEqDiff, Nat.reducePow, Nat.le_refl, Nat.add_left_cancel_iff, Nat.add_eq_left, Nat.left_eq_add, Nat.add_zero, R1.1.1, z1, em]
  have hcl : (nI m).toNatClampNeg = m := nI_clamp (by omega)
  rw [hcl]
  exact loop m 0 m _ s1 h h1 hm (by omega) na R1
theorem x_letterFrom {a n : Nat} {f m : Int32} (R : gx_R E h x ca K F s) (hn : a + n ≤ gs_n K) : gm_Ca E d 73 [.ref x, .int (nI a), .int (nI n), .int f, .int m] h (gx_v (some (.int (gs_let K a n f m))) h) := by
  show gm_W E d 73 0 [.ref x, .int (nI a), .int (nI n), .int f, .int m, gm_u] [] h _
  obtain ⟨A0, -, A5, -, -, -, -, A2, A3, -⟩ := R.1
  obtain ⟨-, -, -, -, B6, B7, B8⟩ := R.2.1
  have e1 : (nI n = 1) = (n = 1) := propext (nI_eq (b := 1) (by omega) (by decide))
  unfold gs_let
  by_cases h1 : n = 1
  · subst h1
    have ha : a < 700 := by omega
    simp only [r73_0, r73_1, r73_2, r73_5, r73_6, r73_7, r73_7n, r73_8, r73_11, r73_12, r73_13, r73_14, r73_15, r73_17, r73_19, r73_21, r73_24, r73_26, r73_29, r73_30, i32_10, reduceIte, gm_cmp1, gm_cmp3, gm_cmp4, gm_kd_sf, gm_ln_sf, gm_sf_1, gm_sf_2, gm_nw_1, gm_nw_2, gm_k_int, gm_k_ref, gm_k_null, gm_k_u, gm_k_long, and_true, true_and, true_or, or_true, or_false, false_or, and_self, or_self, if_true, if_false, List.map_nil, List.map_cons, List.sum_nil, List.sum_cons, Nat.zero_le, Option.toList_some, Option.toList_none, List.cons_append, List.nil_append, ne_eq, not_false_eq_true, not_true_eq_false, nI_1, nI_add, Value.category, Nat.reduceAdd, Nat.reduceMod, Nat.reduceLeDiff, Nat.reduceLT, Nat.reduceEqDiff, Nat.reducePow, Nat.le_refl, Nat.add_left_cancel_iff, Nat.add_eq_left, Nat.left_eq_add, Nat.add_zero, e1, A0, A5, A2, A3, ha, B8 a (by omega)]
    by_cases h2 : gs_sb K a - f < m
    · have h3 : ¬ m ≤ gs_sb K a - f := Int32.not_le.mpr h2
      simp [h2, h3, gx_v]
    · have h3 : m ≤ gs_sb K a - f := Int32.not_lt.mp h2
      simp [h2, h3, gx_v]
  · simp only [r73_0, r73_1, r73_2, r73_5, r73_6, r73_7, r73_7n, r73_8, r73_11, r73_12, r73_13, r73_14, r73_15, r73_17, r73_19, r73_21, r73_24, r73_26, r73_29, r73_30, i32_10, reduceIte, gm_cmp1, gm_cmp3, gm_cmp4, gm_kd_sf, gm_ln_sf, gm_sf_1, gm_sf_2, gm_nw_1, gm_nw_2, gm_k_int, gm_k_ref, gm_k_null, gm_k_u, gm_k_long, and_true, true_and, true_or, or_true, or_false, false_or, and_self, or_self, if_true, if_false, List.map_nil, List.map_cons, List.sum_nil, List.sum_cons, Nat.zero_le, Option.toList_some, Option.toList_none, List.cons_append, List.nil_append, ne_eq, not_false_eq_true, not_true_eq_false, nI_1, nI_add, Value.category, Nat.reduceAdd, Nat.reduceMod, Nat.reduceLeDiff, Nat.reduceLT, Nat.reduceEqDiff, Nat.reducePow, Nat.le_refl, Nat.add_left_cancel_iff, Nat.add_eq_left, Nat.left_eq_add, Nat.add_zero, e1, h1]
    exact ⟨rfl, rfl⟩
theorem x_skipBlock (hd : 3 ≤ d) (R : gx_R E h x ca K F s) : gm_Ca E d 75 [.ref x] h (gx_P E h x ca K F G s (fun a h' v => v = some (.int a) ∧ gx_nal h h') (gs_blk K s)) := by
  have tail : ∀ (n : Int32) (s : gs_S) (h0 h : gm_H), gx_nal h0 h → gx_R E h x ca K F s → gm_W E d 75 20 [.ref x, gm_u] [.int n] h (gx_P E h x ca K F G s (fun a h' v => v = some (.int a) ∧ gx_nal h0 h') (if n < 0 then .error (-4) else if gs_n K - gs_pl s < n.toNatClampNeg then .error (-3) else .ok (n, gs_p (gs_pl s + n.toNatClampNeg) s))) := by
    intro n s h0 h na R
    obtain ⟨A0, -, A5, -, -, -, -, A2, A3, -⟩ := R.1
    obtain ⟨-, -, -, -, B6, B7, B8⟩ := R.2.1
    obtain ⟨z1, z2, z3, z4, z5, z6, z7, z8, z9⟩ := R.2.2.2.1
    by_cases h1 : n < 0
    · have h2 : ¬ 0 ≤ n := Int32.not_le.mpr h1
      simp only [r75_0, r75_0n, r75_4, r75_6, r75_9, r75_9n, r75_13, r75_16, r75_16n, r75_20, r75_21, r75_22, r75_25, r75_25n, r75_26, r75_31, r75_32, r75_33, r75_33n, r75_34, r75_37, r75_37n, r75_38, r75_41, r75_42, r75_45, r75_45n, r75_46, r75_51, r75_52, r75_52n, r75_53, r75_53i, r75_54, r75_57, r75_58, r75_59, r75_62, r75_63, i32_10, reduceIte, gm_cmp1, gm_cmp3, gm_cmp4, gm_kd_sf, gm_ln_sf, gm_sf_1, gm_sf_2, gm_nw_1, gm_nw_2, gm_k_int, gm_k_ref, gm_k_null, gm_k_u, gm_k_long, and_true, true_and, true_or, or_true, or_false, false_or, and_self, or_self, if_true, if_false, List.map_nil, List.map_cons, List.sum_nil, List.sum_cons, Nat.zero_le, Option.toList_some, Option.toList_none, List.cons_append, List.nil_append, ne_eq, not_false_eq_true, not_true_eq_false, nI_1, nI_add, Value.category, Nat.reduceAdd, Nat.reduceMod, Nat.reduceLeDiff, Nat.reduceLT, Nat.reduceEqDiff, Nat.reducePow, Nat.le_refl, Nat.add_left_cancel_iff, Nat.add_eq_left, Nat.left_eq_add, Nat.add_zero, h1, h2]
      exact c75_28 (by simp) A0 (by omega) (x_fail R) gx_fn (fun _ _ q => q)
    · obtain ⟨m, hm, rfl⟩ := nI_of h1
      have h2 : 0 ≤ nI m := nI_pos' hm
      rw [nI_clamp hm]
      by_cases h3 : gs_n K - gs_pl s < m
      · simp only [r75_0, r75_0n, r75_4, r75_6, r75_9, r75_9n, r75_13, r75_16, r75_16n, r75_20, r75_21, r75_22, r75_25, r75_25n, r75_26, r75_31, r75_32, r75_33, r75_33n, r75_34, r75_37, r75_37n, r75_38, r75_41, r75_42, r75_45, r75_45n, r75_46, r75_51, r75_52, r75_52n, r75_53, r75_53i, r75_54, r75_57, r75_58, r75_59, r75_62, r75_63, i32_10, reduceIte, gm_cmp1, gm_cmp3, gm_cmp4, gm_kd_sf, gm_ln_sf, gm_sf_1, gm_sf_2, gm_nw_1, gm_nw_2, gm_k_int, gm_k_ref, gm_k_null, gm_k_u, gm_k_long, and_true, true_and, true_or, or_true, or_false, false_or, and_self, or_self, if_true, if_false, List.map_nil, List.map_cons, List.sum_nil, List.sum_cons, Nat.zero_le, Option.toList_some, Option.toList_none, List.cons_append, List.nil_append, ne_eq, not_false_eq_true, not_true_eq_false, nI_1, nI_add, Value.category, Nat.reduceAdd, Nat.reduceMod, Nat.reduceLeDiff, Nat.reduceLT, Nat.reduceEqDiff, Nat.reducePow, Nat.le_refl, Nat.add_left_cancel_iff, Nat.add_eq_left, Nat.left_eq_add, Nat.add_zero, h1, h2, A0, B6, z1, nI_sub z2, nI_leF h3 hm, h3]
        exact c75_48 (by simp) A0 (by omega) (x_fail R) gx_fn (fun _ _ q => q)
      · simp only [r75_0, r75_0n, r75_4, r75_6, r75_9, r75_9n, r75_13, r75_16, r75_16n, r75_20, r75_21, r75_22, r75_25, r75_25n, r75_26, r75_31, r75_32, r75_33, r75_33n, r75_34, r75_37, r75_37n, r75_38, r75_41, r75_42, r75_45, r75_45n, r75_46, r75_51, r75_52, r75_52n, r75_53, r75_53i, r75_54, r75_57, r75_58, r75_59, r75_62, r75_63, i32_10, reduceIte, gm_cmp1, gm_cmp3, gm_cmp4, gm_kd_sf, gm_ln_sf, gm_sf_1, gm_sf_2, gm_nw_1, gm_nw_2, gm_k_int, gm_k_ref, gm_k_null, gm_k_u, gm_k_long, and_true, true_and, true_or, or_true, or_false, false_or, and_self, or_self, if_true, if_false, List.map_nil, List.map_cons, List.sum_nil, List.sum_cons, Nat.zero_le, Option.toList_some, Option.toList_none, List.cons_append, List.nil_append, ne_eq, not_false_eq_true, not_true_eq_false, nI_1, nI_add, Value.category, Nat.reduceAdd, Nat.reduceMod, Nat.reduceLeDiff, Nat.reduceLT, Nat.reduceEqDiff, Nat.reducePow, Nat.le_refl, Nat.add_left_cancel_iff, Nat.add_eq_left, Nat.left_eq_add, Nat.add_zero, h1, h2, A0, B6, z1, nI_sub z2, nI_leT (show m ≤ gs_n K - gs_pl s by omega) (show gs_n K - gs_pl s < 2 ^ 31 by omega), h3]
        refine ⟨nI m, _, rfl, ⟨rfl, na.sf⟩, R.place (by omega), gx_mv.fld (by decide), gx_le.refl, ?_⟩
        constructor
        · simp only [gm_sf_1]; show _ + gs_pl s ≤ _ + (gs_pl s + m); omega
        · simp only [gm_sf_2]; show _ + 8 * gs_pl s ≤ _ + 8 * (gs_pl s + m); omega
  show gm_W E d 75 0 [.ref x, gm_u] [] h _
  simp only [r75_0, r75_0n, r75_4, r75_6, r75_9, r75_9n, r75_13, r75_16, r75_16n, r75_20, r75_21, r75_22, r75_25, r75_25n, r75_26, r75_31, r75_32, r75_33, r75_33n, r75_34, r75_37, r75_37n, r75_38, r75_41, r75_42, r75_45, r75_45n, r75_46, r75_51, r75_52, r75_52n, r75_53, r75_53i, r75_54, r75_57, r75_58, r75_59, r75_62, r75_63, i32_10, reduceIte, gm_cmp1, gm_cmp3, gm_cmp4, gm_kd_sf, gm_ln_sf, gm_sf_1, gm_sf_2, gm_nw_1, gm_nw_2, gm_k_int, gm_k_ref, gm_k_null, gm_k_u, gm_k_long, and_true, true_and, true_or, or_true, or_false, false_or, and_self, or_self, if_true, if_false, List.map_nil, List.map_cons, List.sum_nil, List.sum_cons, Nat.zero_le, Option.toList_some, Option.toList_none, List.cons_append, List.nil_append, ne_eq, not_false_eq_true, not_true_eq_false, nI_1, nI_add, Value.category, Nat.reduceAdd, Nat.reduceMod, Nat.reduceLeDiff, Nat.reduceLT, Nat.reduceEqDiff, Nat.reducePow, Nat.le_refl, Nat.add_left_cancel_iff, Nat.add_eq_left, Nat.left_eq_add, Nat.add_zero]
  refine c75_1 (by simp) R.1.1 (by omega) (x_nextByte (by omega) R) (fun v h1 q => ?_) (fun _ _ q => q.ber)
  obtain ⟨t, s1, e, ⟨rfl, na⟩, R1, mv, le, co⟩ := q
  refine gm_W.mono ?_ (fun r h' w => gx_P.bnd w e mv le co)
  by_cases ht : t = 119
  · simp only [r75_0, r75_0n, r75_4, r75_6, r75_9, r75_9n, r75_13, r75_16, r75_16n, r75_20, r75_21, r75_22, r75_25, r75_25n, r75_26, r75_31, r75_32, r75_33, r75_33n, r75_34, r75_37, r75_37n, r75_38, r75_41, r75_42, r75_45, r75_45n, r75_46, r75_51, r75_52, r75_52n, r75_53, r75_53i, r75_54, r75_57, r75_58, r75_59, r75_62, r75_63, i32_10, reduceIte, gm_cmp1, gm_cmp3, gm_cmp4, gm_kd_sf, gm_ln_sf, gm_sf_1, gm_sf_2, gm_nw_1, gm_nw_2, gm_k_int, gm_k_ref, gm_k_null, gm_k_u, gm_k_long, and_true, true_and, true_or, or_true, or_false, false_or, and_self, or_self, if_true, if_false, List.map_nil, List.map_cons, List.sum_nil, List.sum_cons, Nat.zero_le, Option.toList_some, Option.toList_none, List.cons_append, List.nil_append, ne_eq, not_false_eq_true, not_true_eq_false, nI_1, nI_add, Value.category, Nat.reduceAdd, Nat.reduceMod, Nat.reduceLeDiff, Nat.reduceLT, Nat.reduceEqDiff, Nat.reducePow, Nat.le_refl, Nat.add_left_cancel_iff, Nat.add_eq_left, Nat.left_eq_add, Nat.add_zero, ht]
    refine c75_10 (by simp) R1.1.1 (by omega) (x_nextByte (by omega) R1) (fun v h1 q => ?_) (fun _ _ q => q.ber)
    obtain ⟨n, s2, e, ⟨rfl, na2⟩, R2, mv, le, co⟩ := q
    refine gm_W.mono ?_ (fun r h' w => gx_P.bnd w e mv le co)
    simp only [r75_13, i32_10, reduceIte, gm_cmp1, gm_cmp3, gm_cmp4, gm_kd_sf, gm_ln_sf, gm_sf_1, gm_sf_2, gm_nw_1, gm_nw_2, gm_k_int, gm_k_ref, gm_k_null, gm_k_u, gm_k_long, and_true, true_and, true_or, or_true, or_false, false_or, and_self, or_self, if_true, if_false, List.map_nil, List.map_cons, List.sum_nil, List.sum_cons, Nat.zero_le, Option.toList_some, Option.toList_none, List.cons_append, List.nil_append, ne_eq, not_false_eq_true, not_true_eq_false, nI_1, nI_add, Value.category, Nat.reduceAdd, Nat.reduceMod, Nat.reduceLeDiff, Nat.reduceLT, Nat.reduceEqDiff, Nat.reducePow, Nat.le_refl, Nat.add_left_cancel_iff, Nat.add_eq_left, Nat.left_eq_add, Nat.add_zero]
    exact tail n s2 h _ (na.trans na2) R2
  · simp only [r75_0, r75_0n, r75_4, r75_6, r75_9, r75_9n, r75_13, r75_16, r75_16n, r75_20, r75_21, r75_22, r75_25, r75_25n, r75_26, r75_31, r75_32, r75_33, r75_33n, r75_34, r75_37, r75_37n, r75_38, r75_41, r75_42, r75_45, r75_45n, r75_46, r75_51, r75_52, r75_52n, r75_53, r75_53i, r75_54, r75_57, r75_58, r75_59, r75_62, r75_63, i32_10, reduceIte, gm_cmp1, gm_cmp3, gm_cmp4, gm_kd_sf, gm_ln_sf, gm_sf_1, gm_sf_2, gm_nw_1, gm_nw_2, gm_k_int, gm_k_ref, gm_k_null, gm_k_u, gm_k_long, and_true, true_and, true_or, or_true, or_false, false_or, and_self, or_self, if_true, if_false, List.map_nil, List.map_cons, List.sum_nil, List.sum_cons, Nat.zero_le, Option.toList_some, Option.toList_none, List.cons_append, List.nil_append, ne_eq, not_false_eq_true, not_true_eq_false, nI_1, nI_add, Value.category, Nat.reduceAdd, Nat.reduceMod, Nat.reduceLeDiff, Nat.reduceLT, Nat.reduceEqDiff, Nat.reducePow, Nat.le_refl, Nat.add_left_cancel_iff, Nat.add_eq_left, Nat.left_eq_add, Nat.add_zero, ht]
    refine c75_17 (by simp) R1.1.1 (by omega) (x_nextInt (by omega) R1) (fun v h1 q => ?_) (fun _ _ q => q.ber)
    obtain ⟨n, s2, e, ⟨rfl, na2⟩, R2, mv, le, co⟩ := q
    refine gm_W.mono ?_ (fun r h' w => gx_P.bnd w e mv le co)
    simp only [i32_10, reduceIte, gm_cmp1, gm_cmp3, gm_cmp4, gm_kd_sf, gm_ln_sf, gm_sf_1, gm_sf_2, gm_nw_1, gm_nw_2, gm_k_int, gm_k_ref, gm_k_null, gm_k_u, gm_k_long, and_true, true_and, true_or, or_true, or_false, false_or, and_self, or_self, if_true, if_false, List.map_nil, List.map_cons, List.sum_nil, List.sum_cons, Nat.zero_le, Option.toList_some, Option.toList_none, List.cons_append, List.nil_append, ne_eq, not_false_eq_true, not_true_eq_false, nI_1, nI_add, Value.category, Nat.reduceAdd, Nat.reduceMod, Nat.reduceLeDiff, Nat.reduceLT, Nat.reduceEqDiff, Nat.reducePow, Nat.le_refl, Nat.add_left_cancel_iff, Nat.add_eq_left, Nat.left_eq_add, Nat.add_zero]
    exact tail n s2 h _ (na.trans na2) R2
theorem x_askRoom {dp : Nat} (hd : 1 ≤ d) (hp : dp < 1000) (R : gx_R E h x ca K F s) : gm_Ca E d 79 [.ref x, .int (nI dp)] h (gx_P E h x ca K F G s (fun _ h' v => v = none ∧ gx_nal h h') (gs_room dp s)) := by
  show gm_W E d 79 0 [.ref x, .int (nI dp)] [] h _
  obtain ⟨A0, -, -, -, A10, -, -, -, -, -, -, A4, -⟩ := R.1
  obtain ⟨z1, z2, z3, z4, z5, z6, z7, z8, z9⟩ := R.2.2.2.1
  have hz : gs_size s ≤ 234 := by unfold gs_size; omega
  unfold gs_room
  by_cases h1 : 8 < dp
  · have e1 : (8 : Int32) < nI dp := nI_lt (a := 8) h1 (by omega)
    simp only [r79_0, r79_1, r79_3, r79_6, r79_6n, r79_7, r79_13, r79_15, r79_18, r79_18n, r79_19, r79_24, r79_24a, r79_24n, r79_25, i32_10, reduceIte, gm_cmp1, gm_cmp3, gm_cmp4, gm_kd_sf, gm_ln_sf, gm_sf_1, gm_sf_2, gm_nw_1, gm_nw_2, gm_k_int, gm_k_ref, gm_k_null, gm_k_u, gm_k_long, and_true, true_and, true_or, or_true, or_false, false_or, and_self, or_self, if_true, if_false, List.map_nil, List.map_cons, List.sum_nil, List.sum_cons, Nat.zero_le, Option.toList_some, Option.toList_none, List.cons_append, List.nil_append, ne_eq, not_false_eq_true, not_true_eq_false, nI_1, nI_add, Value.category, Nat.reduceAdd, Nat.reduceMod, Nat.reduceLeDiff, Nat.reduceLT, Nat.reduceEqDiff, Nat.reducePow, Nat.le_refl, Nat.add_left_cancel_iff, Nat.add_eq_left, Nat.left_eq_add, Nat.add_zero, e1, h1]
    exact c79_21 (by simp) A0 hd (x_fail R) gx_fn (fun _ _ q => q)
  · have e1 : ¬ (8 : Int32) < nI dp := nI_nlt (b := dp) (a := 8) (by omega) (by decide)
    simp only [r79_0, r79_1, r79_3, r79_6, r79_6n, r79_7, r79_13, r79_15, r79_18, r79_18n, r79_19, r79_24, r79_24a, r79_24n, r79_25, i32_10, reduceIte, gm_cmp1, gm_cmp3, gm_cmp4, gm_kd_sf, gm_ln_sf, gm_sf_1, gm_sf_2, gm_nw_1, gm_nw_2, gm_k_int, gm_k_ref, gm_k_null, gm_k_u, gm_k_long, and_true, true_and, true_or, or_true, or_false, false_or, and_self, or_self, if_true, if_false, List.map_nil, List.map_cons, List.sum_nil, List.sum_cons, Nat.zero_le, Option.toList_some, Option.toList_none, List.cons_append, List.nil_append, ne_eq, not_false_eq_true, not_true_eq_false, nI_1, nI_add, Value.category, Nat.reduceAdd, Nat.reduceMod, Nat.reduceLeDiff, Nat.reduceLT, Nat.reduceEqDiff, Nat.reducePow, Nat.le_refl, Nat.add_left_cancel_iff, Nat.add_eq_left, Nat.left_eq_add, Nat.add_zero, e1, h1, A0, A10]
    refine c79_10 (by simp) A4 hd (x_size R) (gx_kn ?_) gx_kx
    by_cases h2 : 60 < gs_size s
    · have e2 : ¬ nI (gs_size s) ≤ 60 := nI_ge (a := 60) h2 (by omega)
      simp only [r79_0, r79_1, r79_3, r79_6, r79_6n, r79_7, r79_13, r79_15, r79_18, r79_18n, r79_19, r79_24, r79_24a, r79_24n, r79_25, i32_10, reduceIte, gm_cmp1, gm_cmp3, gm_cmp4, gm_kd_sf, gm_ln_sf, gm_sf_1, gm_sf_2, gm_nw_1, gm_nw_2, gm_k_int, gm_k_ref, gm_k_null, gm_k_u, gm_k_long, and_true, true_and, true_or, or_true, or_false, false_or, and_self, or_self, if_true, if_false, List.map_nil, List.map_cons, List.sum_nil, List.sum_cons, Nat.zero_le, Option.toList_some, Option.toList_none, List.cons_append, List.nil_append, ne_eq, not_false_eq_true, not_true_eq_false, nI_1, nI_add, Value.category, Nat.reduceAdd, Nat.reduceMod, Nat.reduceLeDiff, Nat.reduceLT, Nat.reduceEqDiff, Nat.reducePow, Nat.le_refl, Nat.add_left_cancel_iff, Nat.add_eq_left, Nat.left_eq_add, Nat.add_zero, e2, h2]
      exact c79_21 (by simp) A0 hd (x_fail R) gx_fn (fun _ _ q => q)
    · have e2 : nI (gs_size s) ≤ 60 := nI_le (b := 60) (by omega) (by decide)
      simp only [r79_0, r79_1, r79_3, r79_6, r79_6n, r79_7, r79_13, r79_15, r79_18, r79_18n, r79_19, r79_24, r79_24a, r79_24n, r79_25, i32_10, reduceIte, gm_cmp1, gm_cmp3, gm_cmp4, gm_kd_sf, gm_ln_sf, gm_sf_1, gm_sf_2, gm_nw_1, gm_nw_2, gm_k_int, gm_k_ref, gm_k_null, gm_k_u, gm_k_long, and_true, true_and, true_or, or_true, or_false, false_or, and_self, or_self, if_true, if_false, List.map_nil, List.map_cons, List.sum_nil, List.sum_cons, Nat.zero_le, Option.toList_some, Option.toList_none, List.cons_append, List.nil_append, ne_eq, not_false_eq_true, not_true_eq_false, nI_1, nI_add, Value.category, Nat.reduceAdd, Nat.reduceMod, Nat.reduceLeDiff, Nat.reduceLT, Nat.reduceEqDiff, Nat.reducePow, Nat.le_refl, Nat.add_left_cancel_iff, Nat.add_eq_left, Nat.left_eq_add, Nat.add_zero, e2, h2]
      exact ⟨(), s, rfl, ⟨rfl, gx_nal.refl⟩, R, gx_mv.refl, gx_le.refl, gx_co.refl⟩
theorem x_add {v : Int32} (R : gx_R E h x ca K F s) (hn : (gs_hs s).length < 234) : gm_Ca E d 113 [.ref (x + 4), .int v] h (gx_v (some (.int (nI (gs_hs s).length))) (gm_sf (gm_sf (gm_sf h (x + 5) (gs_hs s).length (.int v)) (x + 6) (gs_hs s).length .null) (x + 4) 3 (.int (nI ((gs_hs s).length + 1))))) := by
  show gm_W E d 113 0 [.ref (x + 4), .int v] [] h _
  have l4 := R.len.2
  obtain ⟨-, -, -, -, -, -, -, -, -, -, -, A4, A40, A41, A5, A5l, A6, A6l, -⟩ := R.1
  obtain ⟨z1, z2, z3, z4, z5, z6, z7, z8, z9⟩ := R.2.2.2.1
  have n45 : x + 4 ≠ x + 5 := by omega
  have n46 : x + 4 ≠ x + 6 := by omega
  have n65 : x + 6 ≠ x + 5 := by omega
  have e3 : gm_fv (gm_sf (gm_sf (gm_sf h (x + 5) (gs_hs s).length (.int v)) (x + 6) (gs_hs s).length .null) (x + 4) 3 (.int (nI ((gs_hs s).length + 1)))) (x + 4) 3 = .int (nI ((gs_hs s).length + 1)) := gm_fv_sf (by simp only [gm_ln_sf]; omega)
  have hs1 : nI ((gs_hs s).length + 1) - 1 = nI (gs_hs s).length := nI_sub (b := 1) (by omega)
  simp only [r113_0, r113_0n, r113_1, r113_4, r113_4n, r113_5, r113_8, r113_9, r113_10, r113_10n, r113_11, r113_14, r113_14n, r113_15, r113_18, r113_19, r113_19n, r113_20, r113_20n, r113_21, r113_21i, r113_22, r113_25, r113_26, r113_27, r113_30, r113_30n, r113_31, r113_34, r113_35, r113_36, i32_10, reduceIte, gm_cmp1, gm_cmp3, gm_cmp4, gm_kd_sf, gm_ln_sf, gm_sf_1, gm_sf_2, gm_nw_1, gm_nw_2, gm_k_int, gm_k_ref, gm_k_null, gm_k_u, gm_k_long, and_true, true_and, true_or, or_true, or_false, false_or, and_self, or_self, if_true, if_false, List.map_nil, List.map_cons, List.sum_nil, List.sum_cons, Nat.zero_le, Option.toList_some, Option.toList_none, List.cons_append, List.nil_append, ne_eq, not_false_eq_true, not_true_eq_false, nI_1, nI_add, Value.category, Nat.reduceAdd, Nat.reduceMod, Nat.reduceLeDiff, Nat.reduceLT, Nat.reduceEqDiff, Nat.reducePow, Nat.le_refl, Nat.add_left_cancel_iff, Nat.add_eq_left, Nat.left_eq_add, Nat.add_zero, A4, A40, A41, A5, A5l, A6, A6l, z6, hn, gm_fv_sfa n45, gm_fv_sfa n46, gm_fv_sfa n65, e3, hs1]
  exact ⟨rfl, rfl⟩
theorem x_addEntry {v : Int32} (hd : 1 ≤ d) (R : gx_R E h x ca K F s) : gm_Ca E d 78 [.ref x, .int v] h (gx_P E h x ca K F G s (fun a h' v => v = some (.int (nI a)) ∧ gx_nal h h') (gs_addE v s)) := by
  show gm_W E d 78 0 [.ref x, .int v] [] h _
  obtain ⟨A0, -, -, -, A10, -, -, -, -, -, -, A4, -⟩ := R.1
  obtain ⟨z1, z2, z3, z4, z5, z6, z7, z8, z9⟩ := R.2.2.2.1
  unfold gs_addE
  by_cases h1 : 234 ≤ (gs_hs s).length
  · have e1 : ¬ nI (gs_hs s).length < 234 := nI_nlt (b := 234) h1 (by omega)
    simp only [r78_0, r78_0n, r78_1, r78_4, r78_7, r78_10, r78_13, r78_13n, r78_14, r78_19, r78_20, r78_20n, r78_21, r78_24, r78_28, i32_10, reduceIte, gm_cmp1, gm_cmp3, gm_cmp4, gm_kd_sf, gm_ln_sf, gm_sf_1, gm_sf_2, gm_nw_1, gm_nw_2, gm_k_int, gm_k_ref, gm_k_null, gm_k_u, gm_k_long, and_true, true_and, true_or, or_true, or_false, false_or, and_self, or_self, if_true, if_false, List.map_nil, List.map_cons, List.sum_nil, List.sum_cons, Nat.zero_le, Option.toList_some, Option.toList_none, List.cons_append, List.nil_append, ne_eq, not_false_eq_true, not_true_eq_false, nI_1, nI_add, Value.category, Nat.reduceAdd, Nat.reduceMod, Nat.reduceLeDiff, Nat.reduceLT, Nat.reduceEqDiff, Nat.reducePow, Nat.le_refl, Nat.add_left_cancel_iff, Nat.add_eq_left, Nat.left_eq_add, Nat.add_zero, A0, A10, A4, z6, e1, h1]
    exact c78_16 (by simp) A0 hd (x_fail R) gx_fn (fun _ _ q => q)
  · have e1 : nI (gs_hs s).length < 234 := nI_lt (b := 234) (by omega) (by decide)
    simp only [r78_0, r78_0n, r78_1, r78_4, r78_7, r78_10, r78_13, r78_13n, r78_14, r78_19, r78_20, r78_20n, r78_21, r78_24, r78_28, i32_10, reduceIte, gm_cmp1, gm_cmp3, gm_cmp4, gm_kd_sf, gm_ln_sf, gm_sf_1, gm_sf_2, gm_nw_1, gm_nw_2, gm_k_int, gm_k_ref, gm_k_null, gm_k_u, gm_k_long, and_true, true_and, true_or, or_true, or_false, false_or, and_self, or_self, if_true, if_false, List.map_nil, List.map_cons, List.sum_nil, List.sum_cons, Nat.zero_le, Option.toList_some, Option.toList_none, List.cons_append, List.nil_append, ne_eq, not_false_eq_true, not_true_eq_false, nI_1, nI_add, Value.category, Nat.reduceAdd, Nat.reduceMod, Nat.reduceLeDiff, Nat.reduceLT, Nat.reduceEqDiff, Nat.reducePow, Nat.le_refl, Nat.add_left_cancel_iff, Nat.add_eq_left, Nat.left_eq_add, Nat.add_zero, A0, A10, A4, z6, e1, h1]
    refine c78_25 (by simp) A4 hd (x_add R (by omega)) (gx_kn ?_) gx_kx
    simp only [r78_0, r78_0n, r78_1, r78_4, r78_7, r78_10, r78_13, r78_13n, r78_14, r78_19, r78_20, r78_20n, r78_21, r78_24, r78_28, i32_10, reduceIte, gm_cmp1, gm_cmp3, gm_cmp4, gm_kd_sf, gm_ln_sf, gm_sf_1, gm_sf_2, gm_nw_1, gm_nw_2, gm_k_int, gm_k_ref, gm_k_null, gm_k_u, gm_k_long, and_true, true_and, true_or, or_true, or_false, false_or, and_self, or_self, if_true, if_false, List.map_nil, List.map_cons, List.sum_nil, List.sum_cons, Nat.zero_le, Option.toList_some, Option.toList_none, List.cons_append, List.nil_append, ne_eq, not_false_eq_true, not_true_eq_false, nI_1, nI_add, Value.category, Nat.reduceAdd, Nat.reduceMod, Nat.reduceLeDiff, Nat.reduceLT, Nat.reduceEqDiff, Nat.reducePow, Nat.le_refl, Nat.add_left_cancel_iff, Nat.add_eq_left, Nat.left_eq_add, Nat.add_zero]
    refine ⟨_, _, rfl, ⟨rfl, gx_nal.refl.sf.sf.sf⟩, R.addE (by omega), ((gx_mv.obj (Nat.le_refl _)).tr (gx_mv.dsc (Nat.le_refl _))).tr gx_mv.cnt, ⟨Nat.le_refl _, by simp [gs_hs]⟩, ?_⟩
    constructor
    · simp only [gm_sf_1]; exact Nat.le_refl _
    · simp only [gm_sf_2]; exact Nat.le_refl _
theorem x_askLimits {l : gs_L} {L : List gs_L} {a dp : Nat} {n : Int32} (hd : 1 ≤ d) (hp : dp < 1000) (R : gx_R E h x ca K F s) (hD : gx_ds h x ca K F (l :: L) (.ref a)) : gm_Ca E d 80 [.ref x, .ref a, .int (nI dp), .int n] h (gx_P E h x ca K F G s (fun _ h' v => v = none ∧ gx_nal h h') (gs_lim K l dp n s)) := by
  show gm_W E d 80 0 [.ref x, .ref a, .int (nI dp), .int n, gm_u] [] h _
  obtain ⟨A0, -, -, -, A10, -, -, -, -, -, -, A4, -⟩ := R.1
  obtain ⟨B0, B1, B2, B3, B6, B7, B8⟩ := R.2.1
  obtain ⟨z1, z2, z3, z4, z5, z6, z7, z8, z9⟩ := R.2.2.2.1
  obtain ⟨a', u, w, e, o1, o2, o3, d1, -, -, -, -, -, -, -, -, d9, -, -, -, -, -, -, dow, -⟩ := hD
  have e : a = a' := by injection e
  subst e
  have rest : ∀ b : Bool, gm_W E d 80 22 [.ref x, .ref a, .int (nI dp), .int n, gm_u] [.int (if b = true then 1 else 0)] h (gx_P E h x ca K F G s (fun _ h' v => v = none ∧ gx_nal h h') (if b = true ∨ K.1.1 < nI dp ∨ K.1.2.1 < nI (gs_size s) ∨ K.1.2.2.1 < n ∨ K.1.2.2.2 < nI (gs_pl s) then .error (-8) else .ok ((), s))) := by
    intro b
    have fl : gm_W E d 80 70 [.ref x, .ref a, .int (nI dp), .int n, .int (if b = true then 1 else 0)] [] h (gx_P E h x ca K F G s (fun _ h' v => v = none ∧ gx_nal h h') (.error (-8) : Except Int32 (Unit × gs_S))) := by
      simp only [r80_0, r80_0n, r80_1, r80_4n, r80_4, r80_7, r80_7n, r80_8, r80_11, r80_14, r80_17, r80_18, r80_21, r80_22, r80_24, r80_26, r80_29, r80_30, r80_30n, r80_31, r80_34, r80_37, r80_37n, r80_38, r80_44, r80_44n, r80_45, r80_48, r80_51, r80_52, r80_52n, r80_53, r80_56, r80_59, r80_59n, r80_60, r80_63, r80_63n, r80_64, r80_67, r80_70, r80_70n, r80_71, r80_76, r80_76a, r80_76n, r80_77, i32_10, reduceIte, gm_cmp1, gm_cmp3, gm_cmp4, gm_kd_sf, gm_ln_sf, gm_sf_1, gm_sf_2, gm_nw_1, gm_nw_2, gm_k_int, gm_k_ref, gm_k_null, gm_k_u, gm_k_long, and_true, true_and, true_or, or_true, or_false, false_or, and_self, or_self, if_true, if_false, List.map_nil, List.map_cons, List.sum_nil, List.sum_cons, Nat.zero_le, Option.toList_some, Option.toList_none, List.cons_append, List.nil_append, ne_eq, not_false_eq_true, not_true_eq_false, nI_1, nI_add, Value.category, Nat.reduceAdd, Nat.reduceMod, Nat.reduceLeDiff, Nat.reduceLT, Nat.reduceEqDiff, Nat.reducePow, Nat.le_refl, Nat.add_left_cancel_iff, Nat.add_eq_left, Nat.left_eq_add, Nat.add_zero]
      exact c80_73 (by simp) A0 hd (x_fail R) gx_fn (fun _ _ q => q)
    cases b with
    | true =>
      simp only [r80_0, r80_0n, r80_1, r80_4n, r80_4, r80_7, r80_7n, r80_8, r80_11, r80_14, r80_17, r80_18, r80_21, r80_22, r80_24, r80_26, r80_29, r80_30, r80_30n, r80_31, r80_34, r80_37, r80_37n, r80_38, r80_44, r80_44n, r80_45, r80_48, r80_51, r80_52, r80_52n, r80_53, r80_56, r80_59, r80_59n, r80_60, r80_63, r80_63n, r80_64, r80_67, r80_71, r80_76, r80_76a, r80_76n, r80_77, i32_10, reduceIte, gm_cmp1, gm_cmp3, gm_cmp4, gm_kd_sf, gm_ln_sf, gm_sf_1, gm_sf_2, gm_nw_1, gm_nw_2, gm_k_int, gm_k_ref, gm_k_null, gm_k_u, gm_k_long, and_true, true_and, true_or, or_true, or_false, false_or, and_self, or_self, if_true, if_false, List.map_nil, List.map_cons, List.sum_nil, List.sum_cons, Nat.zero_le, Option.toList_some, Option.toList_none, List.cons_append, List.nil_append, ne_eq, not_false_eq_true, not_true_eq_false, nI_1, nI_add, Value.category, Nat.reduceAdd, Nat.reduceMod, Nat.reduceLeDiff, Nat.reduceLT, Nat.reduceEqDiff, Nat.reducePow, Nat.le_refl, Nat.add_left_cancel_iff, Nat.add_eq_left, Nat.left_eq_add, Nat.add_zero, if_true] at fl ⊢
      simpa using fl
    | false =>
      simp only [Bool.false_eq_true, if_false, false_or] at fl ⊢
      by_cases h1 : K.1.1 < nI dp
      · simp only [r80_0, r80_0n, r80_1, r80_4n, r80_4, r80_7, r80_7n, r80_8, r80_11, r80_14, r80_17, r80_18, r80_21, r80_22, r80_24, r80_26, r80_29, r80_30, r80_30n, r80_31, r80_34, r80_37, r80_37n, r80_38, r80_44, r80_44n, r80_45, r80_48, r80_51, r80_52, r80_52n, r80_53, r80_56, r80_59, r80_59n, r80_60, r80_63, r80_63n, r80_64, r80_67, r80_71, r80_76, r80_76a, r80_76n, r80_77, i32_10, reduceIte, gm_cmp1, gm_cmp3, gm_cmp4, gm_kd_sf, gm_ln_sf, gm_sf_1, gm_sf_2, gm_nw_1, gm_nw_2, gm_k_int, gm_k_ref, gm_k_null, gm_k_u, gm_k_long, and_true, true_and, true_or, or_true, or_false, false_or, and_self, or_self, if_true, if_false, List.map_nil, List.map_cons, List.sum_nil, List.sum_cons, Nat.zero_le, Option.toList_some, Option.toList_none, List.cons_append, List.nil_append, ne_eq, not_false_eq_true, not_true_eq_false, nI_1, nI_add, Value.category, Nat.reduceAdd, Nat.reduceMod, Nat.reduceLeDiff, Nat.reduceLT, Nat.reduceEqDiff, Nat.reducePow, Nat.le_refl, Nat.add_left_cancel_iff, Nat.add_eq_left, Nat.left_eq_add, Nat.add_zero, A0, B0, h1]
        simpa using fl
      · simp only [r80_0, r80_0n, r80_1, r80_4n, r80_4, r80_7, r80_7n, r80_8, r80_11, r80_14, r80_17, r80_18, r80_21, r80_22, r80_24, r80_26, r80_29, r80_30, r80_30n, r80_31, r80_34, r80_37, r80_37n, r80_38, r80_44, r80_44n, r80_45, r80_48, r80_51, r80_52, r80_52n, r80_53, r80_56, r80_59, r80_59n, r80_60, r80_63, r80_63n, r80_64, r80_67, r80_71, r80_76, r80_76a, r80_76n, r80_77, i32_10, reduceIte, gm_cmp1, gm_cmp3, gm_cmp4, gm_kd_sf, gm_ln_sf, gm_sf_1, gm_sf_2, gm_nw_1, gm_nw_2, gm_k_int, gm_k_ref, gm_k_null, gm_k_u, gm_k_long, and_true, true_and, true_or, or_true, or_false, false_or, and_self, or_self, if_true, if_false, List.map_nil, List.map_cons, List.sum_nil, List.sum_cons, Nat.zero_le, Option.toList_some, Option.toList_none, List.cons_append, List.nil_append, ne_eq, not_false_eq_true, not_true_eq_false, nI_1, nI_add, Value.category, Nat.reduceAdd, Nat.reduceMod, Nat.reduceLeDiff, Nat.reduceLT, Nat.reduceEqDiff, Nat.reducePow, Nat.le_refl, Nat.add_left_cancel_iff, Nat.add_eq_left, Nat.left_eq_add, Nat.add_zero, A0, B0, h1, A10]
        refine c80_41 (by simp) A4 hd (x_size R) (gx_kn ?_) gx_kx
        by_cases h2 : K.1.2.1 < nI (gs_size s)
        · simp only [r80_0, r80_0n, r80_1, r80_4n, r80_4, r80_7, r80_7n, r80_8, r80_11, r80_14, r80_17, r80_18, r80_21, r80_22, r80_24, r80_26, r80_29, r80_30, r80_30n, r80_31, r80_34, r80_37, r80_37n, r80_38, r80_44, r80_44n, r80_45, r80_48, r80_51, r80_52, r80_52n, r80_53, r80_56, r80_59, r80_59n, r80_60, r80_63, r80_63n, r80_64, r80_67, r80_71, r80_76, r80_76a, r80_76n, r80_77, i32_10, reduceIte, gm_cmp1, gm_cmp3, gm_cmp4, gm_kd_sf, gm_ln_sf, gm_sf_1, gm_sf_2, gm_nw_1, gm_nw_2, gm_k_int, gm_k_ref, gm_k_null, gm_k_u, gm_k_long, and_true, true_and, true_or, or_true, or_false, false_or, and_self, or_self, if_true, if_false, List.map_nil, List.map_cons, List.sum_nil, List.sum_cons, Nat.zero_le, Option.toList_some, Option.toList_none, List.cons_append, List.nil_append, ne_eq, not_false_eq_true, not_true_eq_false, nI_1, nI_add, Value.category, Nat.reduceAdd, Nat.reduceMod, Nat.reduceLeDiff, Nat.reduceLT, Nat.reduceEqDiff, Nat.reducePow, Nat.le_refl, Nat.add_left_cancel_iff, Nat.add_eq_left, Nat.left_eq_add, Nat.add_zero, A0, B1, h2]
          simpa using fl
        · by_cases h3 : K.1.2.2.1 < n
          · simp only [r80_0, r80_0n, r80_1, r80_4n, r80_4, r80_7, r80_7n, r80_8, r80_11, r80_14, r80_17, r80_18, r80_21, r80_22, r80_24, r80_26, r80_29, r80_30, r80_30n, r80_31, r80_34, r80_37, r80_37n, r80_38, r80_44, r80_44n, r80_45, r80_48, r80_51, r80_52, r80_52n, r80_53, r80_56, r80_59, r80_59n, r80_60, r80_63, r80_63n, r80_64, r80_67, r80_71, r80_76, r80_76a, r80_76n, r80_77, i32_10, reduceIte, gm_cmp1, gm_cmp3, gm_cmp4, gm_kd_sf, gm_ln_sf, gm_sf_1, gm_sf_2, gm_nw_1, gm_nw_2, gm_k_int, gm_k_ref, gm_k_null, gm_k_u, gm_k_long, and_true, true_and, true_or, or_true, or_false, false_or, and_self, or_self, if_true, if_false, List.map_nil, List.map_cons, List.sum_nil, List.sum_cons, Nat.zero_le, Option.toList_some, Option.toList_none, List.cons_append, List.nil_append, ne_eq, not_false_eq_true, not_true_eq_false, nI_1, nI_add, Value.category, Nat.reduceAdd, Nat.reduceMod, Nat.reduceLeDiff, Nat.reduceLT, Nat.reduceEqDiff, Nat.reducePow, Nat.le_refl, Nat.add_left_cancel_iff, Nat.add_eq_left, Nat.left_eq_add, Nat.add_zero, A0, B1, h2, B2, h3]
            simpa using fl
          · by_cases h4 : K.1.2.2.2 < nI (gs_pl s)
            · have h5 : ¬ nI (gs_pl s) ≤ K.1.2.2.2 := Int32.not_le.mpr h4
              simp only [r80_0, r80_0n, r80_1, r80_4n, r80_4, r80_7, r80_7n, r80_8, r80_11, r80_14, r80_17, r80_18, r80_21, r80_22, r80_24, r80_26, r80_29, r80_30, r80_30n, r80_31, r80_34, r80_37, r80_37n, r80_38, r80_44, r80_44n, r80_45, r80_48, r80_51, r80_52, r80_52n, r80_53, r80_56, r80_59, r80_59n, r80_60, r80_63, r80_63n, r80_64, r80_67, r80_71, r80_76, r80_76a, r80_76n, r80_77, i32_10, reduceIte, gm_cmp1, gm_cmp3, gm_cmp4, gm_kd_sf, gm_ln_sf, gm_sf_1, gm_sf_2, gm_nw_1, gm_nw_2, gm_k_int, gm_k_ref, gm_k_null, gm_k_u, gm_k_long, and_true, true_and, true_or, or_true, or_false, false_or, and_self, or_self, if_true, if_false, List.map_nil, List.map_cons, List.sum_nil, List.sum_cons, Nat.zero_le, Option.toList_some, Option.toList_none, List.cons_append, List.nil_append, ne_eq, not_false_eq_true, not_true_eq_false, nI_1, nI_add, Value.category, Nat.reduceAdd, Nat.reduceMod, Nat.reduceLeDiff, Nat.reduceLT, Nat.reduceEqDiff, Nat.reducePow, Nat.le_refl, Nat.add_left_cancel_iff, Nat.add_eq_left, Nat.left_eq_add, Nat.add_zero, A0, B1, h2, B2, h3, B3, h4, z1, h5]
              simpa using fl
            · have h5 : nI (gs_pl s) ≤ K.1.2.2.2 := Int32.not_lt.mp h4
              simp only [r80_0, r80_0n, r80_1, r80_4n, r80_4, r80_7, r80_7n, r80_8, r80_11, r80_14, r80_17, r80_18, r80_21, r80_22, r80_24, r80_26, r80_29, r80_30, r80_30n, r80_31, r80_34, r80_37, r80_37n, r80_38, r80_44, r80_44n, r80_45, r80_48, r80_51, r80_52, r80_52n, r80_53, r80_56, r80_59, r80_59n, r80_60, r80_63, r80_63n, r80_64, r80_67, r80_71, r80_76, r80_76a, r80_76n, r80_77, i32_10, reduceIte, gm_cmp1, gm_cmp3, gm_cmp4, gm_kd_sf, gm_ln_sf, gm_sf_1, gm_sf_2, gm_nw_1, gm_nw_2, gm_k_int, gm_k_ref, gm_k_null, gm_k_u, gm_k_long, and_true, true_and, true_or, or_true, or_false, false_or, and_self, or_self, if_true, if_false, List.map_nil, List.map_cons, List.sum_nil, List.sum_cons, Nat.zero_le, Option.toList_some, Option.toList_none, List.cons_append, List.nil_append, ne_eq, not_false_eq_true, not_true_eq_false, nI_1, nI_add, Value.category, Nat.reduceAdd, Nat.reduceMod, Nat.reduceLeDiff, Nat.reduceLT, Nat.reduceEqDiff, Nat.reducePow, Nat.le_refl, Nat.add_left_cancel_iff, Nat.add_eq_left, Nat.left_eq_add, Nat.add_zero, A0, B1, h2, B2, h3, B3, h4, z1, h5]
              exact ⟨(), s, rfl, ⟨rfl, gx_nal.refl⟩, R, gx_mv.refl, gx_le.refl, gx_co.refl⟩
  unfold gs_lim
  cases ho : gs_own l with
  | none =>
    rw [ho] at d9
    have d9 : gm_fv h a 9 = .null := d9
    have := rest false
    simp only [r80_0, r80_0n, r80_1, r80_4n, r80_4, r80_7, r80_7n, r80_8, r80_11, r80_14, r80_17, r80_18, r80_21, r80_24, r80_26, r80_29, r80_30, r80_30n, r80_31, r80_34, r80_37, r80_37n, r80_38, r80_44, r80_44n, r80_45, r80_48, r80_51, r80_52, r80_52n, r80_53, r80_56, r80_59, r80_59n, r80_60, r80_63, r80_63n, r80_64, r80_67, r80_70, r80_70n, r80_71, r80_76, r80_76a, r80_76n, r80_77, i32_10, reduceIte, gm_cmp1, gm_cmp3, gm_cmp4, gm_kd_sf, gm_ln_sf, gm_sf_1, gm_sf_2, gm_nw_1, gm_nw_2, gm_k_int, gm_k_ref, gm_k_null, gm_k_u, gm_k_long, and_true, true_and, true_or, or_true, or_false, false_or, and_self, or_self, if_true, if_false, List.map_nil, List.map_cons, List.sum_nil, List.sum_cons, Nat.zero_le, Option.toList_some, Option.toList_none, List.cons_append, List.nil_append, ne_eq, not_false_eq_true, not_true_eq_false, nI_1, nI_add, Value.category, Nat.reduceAdd, Nat.reduceMod, Nat.reduceLeDiff, Nat.reduceLT, Nat.reduceEqDiff, Nat.reducePow, Nat.le_refl, Nat.add_left_cancel_iff, Nat.add_eq_left, Nat.left_eq_add, Nat.add_zero, d1, d9, Option.bind_none, Option.any_none, Bool.false_eq_true] at this ⊢
    exact this
  | some c =>
    rw [ho] at d9
    have d9 : gm_fv h a 9 = .ref (ca c) := d9
    obtain ⟨hc, hs⟩ := dow c ho
    obtain ⟨C, hC⟩ := Option.isSome_iff_exists.mp hs
    obtain ⟨-, ⟨-, c3, -, -, -, -, -, -, -, c7, -⟩, -⟩ := (R.2.2.1.2 c hc).2 C hC
    have := rest (gs_bar C)
    simp only [r80_0, r80_0n, r80_1, r80_4n, r80_4, r80_7, r80_7n, r80_8, r80_11, r80_14, r80_17, r80_18, r80_21, r80_24, r80_26, r80_29, r80_30, r80_30n, r80_31, r80_34, r80_37, r80_37n, r80_38, r80_44, r80_44n, r80_45, r80_48, r80_51, r80_52, r80_52n, r80_53, r80_56, r80_59, r80_59n, r80_60, r80_63, r80_63n, r80_64, r80_67, r80_70, r80_70n, r80_71, r80_76, r80_76a, r80_76n, r80_77, i32_10, reduceIte, gm_cmp1, gm_cmp3, gm_cmp4, gm_kd_sf, gm_ln_sf, gm_sf_1, gm_sf_2, gm_nw_1, gm_nw_2, gm_k_int, gm_k_ref, gm_k_null, gm_k_u, gm_k_long, and_true, true_and, true_or, or_true, or_false, false_or, and_self, or_self, if_true, if_false, List.map_nil, List.map_cons, List.sum_nil, List.sum_cons, Nat.zero_le, Option.toList_some, Option.toList_none, List.cons_append, List.nil_append, ne_eq, not_false_eq_true, not_true_eq_false, nI_1, nI_add, Value.category, Nat.reduceAdd, Nat.reduceMod, Nat.reduceLeDiff, Nat.reduceLT, Nat.reduceEqDiff, Nat.reducePow, Nat.le_refl, Nat.add_left_cancel_iff, Nat.add_eq_left, Nat.left_eq_add, Nat.add_zero, d1, d9, c3, c7, Option.bind_some, hC, Option.any_some] at this ⊢
    cases hb : gs_bar C <;> rw [hb] at this <;> simpa using this
end X2
/-! THE CLASS, 3: objects, entries. -/
section X3
variable {E : Nat → Value} {d x : Nat} {h : gm_H} {ca : Nat → Nat} {K : gs_K} {F G : Nat → Prop} {s : gs_S}
theorem x_Thing {n : Nat} {so : Int32} {o : Option Nat} (hn : n < 1000) : gm_Ca E d 123 [.ref h.1, .int so, gx_ow ca o, .int (nI n)] (gx_n1 h) (gx_v none (gx_mk (gx_n1 h) h.1 so (gx_ow ca o) n)) := by
  have hn6 : n ≤ 60000000 := by omega
  have ht : gm_kd (gx_n1 h) h.1 = 4 := by unfold gx_n1; rw [gm_kd_nw1]; rfl
  have hne : h.1 ≠ h.1 + 1 := by omega
  cases o with
  | none =>
    show gm_W E d 123 0 [.ref h.1, .int so, .null, .int (nI n)] [] (gx_n1 h) _
    simp only [r123_0, r123_0n, r123_1, r123_4, r123_4n, r123_5, r123_6, r123_9, r123_9n, r123_10, r123_10n, r123_11, r123_11n, r123_14, r123_14n, r123_15, r123_16, r123_18, r123_18n, r123_21, i32_10, reduceIte, gm_cmp1, gm_cmp3, gm_cmp4, gm_kd_sf, gm_ln_sf, gm_sf_1, gm_sf_2, gm_nw_1, gm_nw_2, gm_k_int, gm_k_ref, gm_k_null, gm_k_u, gm_k_long, and_true, true_and, true_or, or_true, or_false, false_or, and_self, or_self, if_true, if_false, List.map_nil, List.map_cons, List.sum_nil, List.sum_cons, Nat.zero_le, Option.toList_some, Option.toList_none, List.cons_append, List.nil_append, ne_eq, not_false_eq_true, not_true_eq_false, nI_1, nI_add, Value.category, Nat.reduceAdd, Nat.reduceMod, Nat.reduceLeDiff, Nat.reduceLT, Nat.reduceEqDiff, Nat.reducePow, Nat.le_refl, Nat.add_left_cancel_iff, Nat.add_eq_left, Nat.left_eq_add, Nat.add_zero, ht, hn6, gm_kd_nw, gx_n1_1, hne]
    exact ⟨rfl, by unfold gx_mk; simp only [gm_sf_1, gx_n1_1, gx_ow]⟩
  | some c =>
    show gm_W E d 123 0 [.ref h.1, .int so, .ref (ca c), .int (nI n)] [] (gx_n1 h) _
    simp only [r123_0, r123_0n, r123_1, r123_4, r123_4n, r123_5, r123_6, r123_9, r123_9n, r123_10, r123_10n, r123_11, r123_11n, r123_14, r123_14n, r123_15, r123_16, r123_18, r123_18n, r123_21, i32_10, reduceIte, gm_cmp1, gm_cmp3, gm_cmp4, gm_kd_sf, gm_ln_sf, gm_sf_1, gm_sf_2, gm_nw_1, gm_nw_2, gm_k_int, gm_k_ref, gm_k_null, gm_k_u, gm_k_long, and_true, true_and, true_or, or_true, or_false, false_or, and_self, or_self, if_true, if_false, List.map_nil, List.map_cons, List.sum_nil, List.sum_cons, Nat.zero_le, Option.toList_some, Option.toList_none, List.cons_append, List.nil_append, ne_eq, not_false_eq_true, not_true_eq_false, nI_1, nI_add, Value.category, Nat.reduceAdd, Nat.reduceMod, Nat.reduceLeDiff, Nat.reduceLT, Nat.reduceEqDiff, Nat.reducePow, Nat.le_refl, Nat.add_left_cancel_iff, Nat.add_eq_left, Nat.left_eq_add, Nat.add_zero, ht, hn6, gm_kd_nw, gx_n1_1, hne]
    exact ⟨rfl, by unfold gx_mk; simp only [gm_sf_1, gx_n1_1, gx_ow]⟩
theorem x_addThing {t : Nat} {o : gs_O} (hd : 1 ≤ d) (R : gx_R E h x ca K F s) (how : ∀ c, o.2.1 = some c → (gs_cls K c).isSome = true) (ho : gx_th h ca o t) (ht : gx_ok h x F t ∧ gx_ok h x F (t + 1)) (hb : ∀ i u, i < (gs_hp s).length → gm_fv h (x + 3) i = .ref u → u + 1 < t) :
    gm_Ca E d 77 [.ref x, .ref t] h (gx_P E h x ca K F G s (fun a h' v => (v = some (.int (nI a)) ∧ gx_nal h h') ∧ gm_fv h' (x + 3) a = .ref t) (gs_addT o s)) := by
  show gm_W E d 77 0 [.ref x, .ref t] [] h _
  have l0 := R.len.1
  obtain ⟨A0, -, -, A8, -, -, -, -, -, A3, A3l, -⟩ := R.1
  obtain ⟨z1, z2, z3, z4, z5, z6, z7, z8, z9⟩ := R.2.2.2.1
  unfold gs_addT
  by_cases h1 : 234 ≤ (gs_hp s).length
  · have e1 : ¬ nI (gs_hp s).length < 234 := nI_nlt (b := 234) h1 (by omega)
    simp only [r77_0, r77_0n, r77_1, r77_4, r77_7, r77_10, r77_10n, r77_11, r77_16, r77_17, r77_17n, r77_18, r77_21, r77_21n, r77_22, r77_25, r77_25n, r77_26, r77_26n, r77_27, r77_27n, r77_28, r77_28i, r77_29, r77_32, r77_33, r77_34, r77_37, r77_37n, r77_38, r77_41, r77_42, r77_43, i32_10, reduceIte, gm_cmp1, gm_cmp3, gm_cmp4, gm_kd_sf, gm_ln_sf, gm_sf_1, gm_sf_2, gm_nw_1, gm_nw_2, gm_k_int, gm_k_ref, gm_k_null, gm_k_u, gm_k_long, and_true, true_and, true_or, or_true, or_false, false_or, and_self, or_self, if_true, if_false, List.map_nil, List.map_cons, List.sum_nil, List.sum_cons, Nat.zero_le, Option.toList_some, Option.toList_none, List.cons_append, List.nil_append, ne_eq, not_false_eq_true, not_true_eq_false, nI_1, nI_add, Value.category, Nat.reduceAdd, Nat.reduceMod, Nat.reduceLeDiff, Nat.reduceLT, Nat.reduceEqDiff, Nat.reducePow, Nat.le_refl, Nat.add_left_cancel_iff, Nat.add_eq_left, Nat.left_eq_add, Nat.add_zero, A0, z3, e1, h1]
    exact c77_13 (by simp) A0 hd (x_fail R) gx_fn (fun _ _ q => q)
  · have e1 : nI (gs_hp s).length < 234 := nI_lt (b := 234) (by omega) (by decide)
    have hl : (gs_hp s).length < 234 := by omega
    have n03 : x ≠ x + 3 := by omega
    have e9 : gm_fv (gm_sf (gm_sf h (x + 3) (gs_hp s).length (.ref t)) x 9 (.int (nI ((gs_hp s).length + 1)))) x 9 = .int (nI ((gs_hp s).length + 1)) := gm_fv_sf (by simp only [gm_ln_sf]; omega)
    have hs1 : nI ((gs_hp s).length + 1) - 1 = nI (gs_hp s).length := nI_sub (b := 1) (by omega)
    simp only [r77_0, r77_0n, r77_1, r77_4, r77_7, r77_10, r77_10n, r77_11, r77_16, r77_17, r77_17n, r77_18, r77_21, r77_21n, r77_22, r77_25, r77_25n, r77_26, r77_26n, r77_27, r77_27n, r77_28, r77_28i, r77_29, r77_32, r77_33, r77_34, r77_37, r77_37n, r77_38, r77_41, r77_42, r77_43, i32_10, reduceIte, gm_cmp1, gm_cmp3, gm_cmp4, gm_kd_sf, gm_ln_sf, gm_sf_1, gm_sf_2, gm_nw_1, gm_nw_2, gm_k_int, gm_k_ref, gm_k_null, gm_k_u, gm_k_long, and_true, true_and, true_or, or_true, or_false, false_or, and_self, or_self, if_true, if_false, List.map_nil, List.map_cons, List.sum_nil, List.sum_cons, Nat.zero_le, Option.toList_some, Option.toList_none, List.cons_append, List.nil_append, ne_eq, not_false_eq_true, not_true_eq_false, nI_1, nI_add, Value.category, Nat.reduceAdd, Nat.reduceMod, Nat.reduceLeDiff, Nat.reduceLT, Nat.reduceEqDiff, Nat.reducePow, Nat.le_refl, Nat.add_left_cancel_iff, Nat.add_eq_left, Nat.left_eq_add, Nat.add_zero, A0, z3, e1, h1, A8, A3, A3l, hl, ho.1, gm_fv_sfa n03, e9, hs1]
    refine ⟨_, _, rfl, ⟨⟨rfl, gx_nal.refl.sf.sf⟩, by rw [gm_fv_sfa (by omega), gm_fv_sf (by omega)]⟩, R.addT how hl ho ht hb, (gx_mv.thg (Nat.le_refl _)).tr (gx_mv.fld (by decide)), ⟨by simp [gs_hp], Nat.le_refl _⟩, ?_⟩
    constructor
    · simp only [gm_sf_1]; exact Nat.le_refl _
    · simp only [gm_sf_2]; exact Nat.le_refl _
theorem x_nextEntry (hd : 3 ≤ d) (R : gx_R E h x ca K F s) : gm_Ca E d 83 [.ref x] h (gx_P E h x ca K F G s (fun a h' v => v = some (.int (nI a)) ∧ gx_nal h h') (gs_ent K s)) := by
  show gm_W E d 83 0 [.ref x, gm_u] [] h _
  obtain ⟨A0, -, -, -, A10, -, -, -, -, -, -, A4, -⟩ := R.1
  obtain ⟨-, -, -, -, z5, z6, z7, z8, -⟩ := R.2.2.2.1
  simp only [r83_0, r83_0n, r83_1, r83_4, r83_7, r83_7n, r83_11, r83_12, r83_14, r83_15, r83_16, r83_17, r83_17n, r83_18, r83_21, r83_24, r83_27, r83_28, r83_28n, r83_29, r83_32, r83_35, r83_38, r83_39, r83_42, r83_42n, r83_43, r83_48, i32_10, reduceIte, gm_cmp1, gm_cmp3, gm_cmp4, gm_kd_sf, gm_ln_sf, gm_sf_1, gm_sf_2, gm_nw_1, gm_nw_2, gm_k_int, gm_k_ref, gm_k_null, gm_k_u, gm_k_long, and_true, true_and, true_or, or_true, or_false, false_or, and_self, or_self, if_true, if_false, List.map_nil, List.map_cons, List.sum_nil, List.sum_cons, Nat.zero_le, Option.toList_some, Option.toList_none, List.cons_append, List.nil_append, ne_eq, not_false_eq_true, not_true_eq_false, nI_1, nI_add, Value.category, Nat.reduceAdd, Nat.reduceMod, Nat.reduceLeDiff, Nat.reduceLT, Nat.reduceEqDiff, Nat.reducePow, Nat.le_refl, Nat.add_left_cancel_iff, Nat.add_eq_left, Nat.left_eq_add, Nat.add_zero, A0, A10, A4, z5]
  refine c83_8 (by simp [Value.category]) A0 (by omega) (x_nextInt (by omega) R) (fun v h1 q => ?_) (fun _ _ q => q.ber)
  obtain ⟨i, s1, e, ⟨rfl, na⟩, R1, mv, le, co⟩ := q
  refine gm_W.mono ?_ (fun r h' w => gx_P.bnd w e mv le co)
  have es : gs_f1 s1 = gs_f1 s := by
    unfold gs_u4 gs_b at e
    unfold gs_nxt at e
    by_cases hc : gs_n K - gs_pl s < 4
    · rw [if_pos hc] at e; cases e
    · rw [if_neg hc] at e; cases e; rfl
  obtain ⟨A0, -, -, -, A10, -, -, -, -, -, -, A4, -⟩ := R1.1
  obtain ⟨-, -, -, -, z5, z6, z7, z8, -⟩ := R1.2.2.2.1
  rw [← es]
  have fin : ∀ v : Int32, gm_W E d 83 42 [.ref x, .int v] [] h1 (gx_P E h1 x ca K F G s1 (fun a h' v => v = some (.int (nI a)) ∧ gx_nal h h') (.error (-4) : Except Int32 (Nat × gs_S))) := by
    intro v
    simp only [r83_0, r83_0n, r83_1, r83_4, r83_7, r83_7n, r83_11, r83_12, r83_14, r83_15, r83_16, r83_17, r83_17n, r83_18, r83_21, r83_24, r83_27, r83_28, r83_28n, r83_29, r83_32, r83_35, r83_38, r83_39, r83_42, r83_42n, r83_43, r83_48, i32_10, reduceIte, gm_cmp1, gm_cmp3, gm_cmp4, gm_kd_sf, gm_ln_sf, gm_sf_1, gm_sf_2, gm_nw_1, gm_nw_2, gm_k_int, gm_k_ref, gm_k_null, gm_k_u, gm_k_long, and_true, true_and, true_or, or_true, or_false, false_or, and_self, or_self, if_true, if_false, List.map_nil, List.map_cons, List.sum_nil, List.sum_cons, Nat.zero_le, Option.toList_some, Option.toList_none, List.cons_append, List.nil_append, ne_eq, not_false_eq_true, not_true_eq_false, nI_1, nI_add, Value.category, Nat.reduceAdd, Nat.reduceMod, Nat.reduceLeDiff, Nat.reduceLT, Nat.reduceEqDiff, Nat.reducePow, Nat.le_refl, Nat.add_left_cancel_iff, Nat.add_eq_left, Nat.left_eq_add, Nat.add_zero]
    exact c83_45 (by simp) A0 (by omega) (x_fail R1) gx_fn (fun _ _ q => q)
  simp only [r83_0, r83_0n, r83_1, r83_4, r83_7, r83_7n, r83_11, r83_12, r83_14, r83_15, r83_16, r83_17, r83_17n, r83_18, r83_21, r83_24, r83_27, r83_28, r83_28n, r83_29, r83_32, r83_35, r83_38, r83_39, r83_43, r83_48, i32_10, reduceIte, gm_cmp1, gm_cmp3, gm_cmp4, gm_kd_sf, gm_ln_sf, gm_sf_1, gm_sf_2, gm_nw_1, gm_nw_2, gm_k_int, gm_k_ref, gm_k_null, gm_k_u, gm_k_long, and_true, true_and, true_or, or_true, or_false, false_or, and_self, or_self, if_true, if_false, List.map_nil, List.map_cons, List.sum_nil, List.sum_cons, Nat.zero_le, Option.toList_some, Option.toList_none, List.cons_append, List.nil_append, ne_eq, not_false_eq_true, not_true_eq_false, nI_1, nI_add, Value.category, Nat.reduceAdd, Nat.reduceMod, Nat.reduceLeDiff, Nat.reduceLT, Nat.reduceEqDiff, Nat.reducePow, Nat.le_refl, Nat.add_left_cancel_iff, Nat.add_eq_left, Nat.left_eq_add, Nat.add_zero, A0, A10, A4, z5, z6, i32_as]
  generalize i - 8257536 = j
  have fin := fin (nI (gs_f1 s1) + j)
  by_cases h1 : j < 0
  · simp only [h1, nI_addn (show gs_f1 s1 < 1000 by omega) h1, if_true]
    exact fin
  · simp only [h1, if_false]
    obtain ⟨m, hm, rfl⟩ := nI_of h1
    by_cases h2 : 2 ^ 31 ≤ gs_f1 s1 + m
    · have : nI (gs_size s1) ≤ nI m := nI_le (by unfold gs_size; omega) hm
      simp only [nI_addw (show gs_f1 s1 < 1000 by omega) hm h2, this, if_true]
      exact fin
    · have ef : ¬ nI (gs_f1 s1) + nI m < nI (gs_f1 s1) := by rw [nI_add]; exact nI_nlt (by omega) (by omega)
      by_cases h3 : gs_size s1 ≤ m
      · have g1 : nI (gs_size s1) ≤ nI m := nI_le h3 hm
        have g2 : nI (gs_hs s1).length ≤ nI (gs_f1 s1) + nI m := by rw [nI_add]; exact nI_le (by unfold gs_size at h3; omega) (by omega)
        simp only [ef, g1, g2, if_true, if_false]
        exact fin
      · have g1 : ¬ nI (gs_size s1) ≤ nI m := nI_ge (by omega) (by unfold gs_size; omega)
        have g2 : ¬ nI (gs_hs s1).length ≤ nI (gs_f1 s1) + nI m := by rw [nI_add]; exact nI_ge (by unfold gs_size at h3; omega) (by omega)
        simp only [ef, g1, g2, if_false, nI_clamp hm]
        exact ⟨_, s1, rfl, ⟨by rw [nI_add], na⟩, R1, gx_mv.refl, gx_le.refl, gx_co.refl⟩
end X3
/-! THE CLASS, 4: references, texts, questions about objects. -/
section X4
variable {E : Nat → Value} {d x : Nat} {h : gm_H} {ca : Nat → Nat} {K : gs_K} {F G : Nat → Prop} {s : gs_S}
theorem gs_ent_ok {e : Nat} {s1 : gs_S} (w : gs_ent K s = .ok (e, s1)) (hf : gs_f1 s ≤ (gs_hs s).length) (hs : (gs_hs s).length ≤ 234) : e < (gs_hs s1).length ∧ s1 = gs_p (gs_pl s + 4) s := by
  unfold gs_ent gs_u4 gs_b at w
  unfold gs_nxt at w
  by_cases hc : gs_n K - gs_pl s < 4
  · simp [hc] at w
  · simp only [hc, if_false, gs_r] at w
    split at w
    · cases w
    · rename_i h1
      split at w
      · cases w
      · rename_i h2
        cases w
        refine ⟨?_, rfl⟩
        obtain ⟨m, hm, e⟩ := nI_of h1
        rw [e] at h2 ⊢
        rw [nI_clamp hm]
        have e2 : gs_size (gs_p (gs_pl s + 4) s) = gs_size s := rfl
        have e3 : gs_hs (gs_p (gs_pl s + 4) s) = gs_hs s := rfl
        have e4 : gs_f1 (gs_p (gs_pl s + 4) s) = gs_f1 s := rfl
        rw [e2, nI_leI (by unfold gs_size; omega) hm] at h2
        rw [e3, e4]
        unfold gs_size at h2
        omega
theorem x_readReference (hd : 4 ≤ d) (R : gx_R E h x ca K F s) : gm_Ca E d 84 [.ref x] h (gx_P E h x ca K F G s (fun a h' v => v = some (.int a) ∧ gx_nal h h') (gs_ref K s)) := by
  show gm_W E d 84 0 [.ref x, gm_u] [] h _
  obtain ⟨A0, -, -, -, A10, -, -, -, -, -, -, A4, A40, -⟩ := R.1
  obtain ⟨-, -, -, -, z5, z6, z7, z8, -⟩ := R.2.2.2.1
  simp only [r84_0, r84_0n, r84_1, r84_4, r84_7, r84_7n, r84_11, r84_12, r84_13, r84_14, r84_15, r84_18, r84_18n, r84_19, r84_24, r84_27, r84_28, i32_10, reduceIte, gm_cmp1, gm_cmp3, gm_cmp4, gm_kd_sf, gm_ln_sf, gm_sf_1, gm_sf_2, gm_nw_1, gm_nw_2, gm_k_int, gm_k_ref, gm_k_null, gm_k_u, gm_k_long, and_true, true_and, true_or, or_true, or_false, false_or, and_self, or_self, if_true, if_false, List.map_nil, List.map_cons, List.sum_nil, List.sum_cons, Nat.zero_le, Option.toList_some, Option.toList_none, List.cons_append, List.nil_append, ne_eq, not_false_eq_true, not_true_eq_false, nI_1, nI_add, Value.category, Nat.reduceAdd, Nat.reduceMod, Nat.reduceLeDiff, Nat.reduceLT, Nat.reduceEqDiff, Nat.reducePow, Nat.le_refl, Nat.add_left_cancel_iff, Nat.add_eq_left, Nat.left_eq_add, Nat.add_zero, A0, A10, A4, A40]
  refine c84_8 (by simp [Value.category]) A0 (by omega) (x_nextEntry (by omega) R) (fun v h1 q => ?_) (fun _ _ q => q.ber)
  obtain ⟨e, s1, w, ⟨rfl, na⟩, R1, mv, le, co⟩ := q
  refine gm_W.mono ?_ (fun r h' q => gx_P.bnd q w mv le co)
  obtain ⟨he, -⟩ := gs_ent_ok w z7 z8
  obtain ⟨A0, -, -, -, A10, -, -, -, -, -, -, A4, A40, A41, A5, A5l, -⟩ := R1.1
  obtain ⟨-, -, -, -, z5, z6, z7, z8, -⟩ := R1.2.2.2.1
  obtain ⟨H1, H2⟩ := R1.2.2.2.2.2.1 e _ (List.getElem?_eq_getElem he)
  have he2 : e < 234 := by omega
  have eg : (gs_hs s1).getD e (-1, []) = (gs_hs s1)[e] := by simp [List.getD, he]
  simp only [r84_0, r84_0n, r84_1, r84_4, r84_7, r84_7n, r84_11, r84_12, r84_13, r84_14, r84_15, r84_18, r84_18n, r84_19, r84_24, r84_27, r84_28, i32_10, reduceIte, gm_cmp1, gm_cmp3, gm_cmp4, gm_kd_sf, gm_ln_sf, gm_sf_1, gm_sf_2, gm_nw_1, gm_nw_2, gm_k_int, gm_k_ref, gm_k_null, gm_k_u, gm_k_long, and_true, true_and, true_or, or_true, or_false, false_or, and_self, or_self, if_true, if_false, List.map_nil, List.map_cons, List.sum_nil, List.sum_cons, Nat.zero_le, Option.toList_some, Option.toList_none, List.cons_append, List.nil_append, ne_eq, not_false_eq_true, not_true_eq_false, nI_1, nI_add, Value.category, Nat.reduceAdd, Nat.reduceMod, Nat.reduceLeDiff, Nat.reduceLT, Nat.reduceEqDiff, Nat.reducePow, Nat.le_refl, Nat.add_left_cancel_iff, Nat.add_eq_left, Nat.left_eq_add, Nat.add_zero, A5, A5l, he2, H1, eg]
  by_cases hv : (gs_hs s1)[e].1 = -1
  · simp only [hv, if_true]
    exact c84_21 (by simp) A0 (by omega) (x_fail R1) gx_fn (fun _ _ q => q)
  · simp only [hv, if_false]
    exact ⟨_, s1, rfl, ⟨rfl, na⟩, R1, gx_mv.refl, gx_le.refl, gx_co.refl⟩
theorem gs_nxt_ok {k : Nat} {v : Int64} {s1 : gs_S} (w : gs_nxt K k s = .ok (v, s1)) : gs_pl s + k ≤ gs_n K ∨ gs_n K < gs_pl s ∧ k = 0 := by
  unfold gs_nxt at w
  split at w
  · cases w
  · omega
theorem gs_nxt_eq {k : Nat} {v : Int64} {s1 : gs_S} (w : gs_nxt K k s = .ok (v, s1)) : v = gs_num K (gs_pl s) k ∧ s1 = gs_p (gs_pl s + k) s := by
  unfold gs_nxt at w
  split at w
  · cases w
  · cases w; exact ⟨rfl, rfl⟩
theorem gs_sgn_ok : ∀ (k : Nat) {s s1 : gs_S} {u : Unit}, gs_sgn K k s = .ok (u, s1) → s1 = gs_p (gs_pl s + k) s ∧ (gs_pl s ≤ gs_n K → gs_pl s + k ≤ gs_n K)
  | 0, s, s1, u, w => by
    cases w
    exact ⟨rfl, fun z => z⟩
  | k + 1, s, s1, u, w => by
    unfold gs_sgn at w
    split at w
    · cases w
    · split at w
      · cases w
      · obtain ⟨e1, e2⟩ := gs_sgn_ok k w
        have e3 : gs_pl (gs_p (gs_pl s + 1) s) = gs_pl s + 1 := rfl
        rw [e3] at e1 e2
        refine ⟨?_, fun _ => by have := e2 (by omega); omega⟩
        rw [e1]
        show (_, s.2) = (_, s.2)
        rw [Nat.add_assoc, Nat.add_comm 1 k]
theorem gs_utf_ok {a : Nat} {s1 : gs_S} (w : gs_utf K s = .ok (a, s1)) (hp : gs_pl s ≤ gs_n K) : a = gs_pl s + 2 ∧ a ≤ gs_pl s1 ∧ gs_pl s1 ≤ gs_n K ∧ s1 = gs_p (gs_pl s1) s := by
  unfold gs_utf gs_b at w
  cases e : gs_nxt K 2 s with
  | error f => rw [e] at w; cases w
  | ok q =>
    obtain ⟨v, s2⟩ := q
    rw [e] at w
    obtain ⟨e1, rfl⟩ := gs_nxt_eq e
    have e0 := gs_nxt_ok e
    dsimp only [gs_g] at w
    cases e2 : gs_sgn K v.toInt32.toNatClampNeg (gs_p (gs_pl s + 2) s) with
    | error f => rw [e2] at w; cases w
    | ok q =>
      obtain ⟨u, s3⟩ := q
      rw [e2] at w
      cases w
      obtain ⟨e3, e4⟩ := gs_sgn_ok _ e2
      have e5 : gs_pl (gs_p (gs_pl s + 2) s) = gs_pl s + 2 := rfl
      rw [e5] at e3 e4
      have e6 := e4 (by omega)
      rw [e3]
      exact ⟨rfl, by show gs_pl s + 2 ≤ gs_pl s + 2 + _; omega, by show gs_pl s + 2 + _ ≤ _; omega, rfl⟩
theorem gs_addE_ok {v : Int32} {e : Nat} {s1 : gs_S} (w : gs_addE v s = .ok (e, s1)) : e = (gs_hs s).length ∧ s1 = (s.1, s.2.1, gs_hs s ++ [(v, [])], gs_f1 s) := by
  unfold gs_addE at w
  split at w
  · cases w
  · cases w; exact ⟨rfl, rfl⟩
theorem gs_addT_ok {o : gs_O} {e : Nat} {s1 : gs_S} (w : gs_addT o s = .ok (e, s1)) : e = (gs_hp s).length ∧ s1 = (s.1, gs_hp s ++ [o], s.2.2) := by
  unfold gs_addT at w
  split at w
  · cases w
  · cases w; exact ⟨rfl, rfl⟩
theorem x_readText (hd : 3 ≤ d) (R : gx_R E h x ca K F s) (hF : ∀ a, F a → a < h.1) : gm_Ca E d 85 [.ref x] h (gx_P E h x ca K F G s (fun a _ v => v = some (.int a)) (gs_text K s)) := by
  show gm_W E d 85 0 [.ref x, gm_u, gm_u, gm_u, gm_u] [] h _
  simp only [r85_0, r85_0n, r85_1, r85_5, r85_6, r85_6n, r85_10, r85_11, r85_14, r85_14i, r85_15, r85_16, r85_17, r85_17n, r85_18, r85_21, r85_22, r85_26, r85_26n, r85_27, r85_28, r85_30, r85_32, r85_32n, r85_33, r85_36, r85_37, r85_40, r85_40n, r85_41, r85_44, r85_46, r85_46n, r85_47, r85_50, r85_51, r85_53, r85_54, r85_55, r85_56, r85_57, r85_60, r85_63, r85_63n, r85_64, r85_67, r85_70, r85_71, r85_71n, r85_72, r85_72n, r85_76, r85_77, r85_77n, r85_78, r85_81, r85_84, r85_85, r85_86, i32_10, reduceIte, gm_cmp1, gm_cmp3, gm_cmp4, gm_kd_sf, gm_ln_sf, gm_sf_1, gm_sf_2, gm_nw_1, gm_nw_2, gm_k_int, gm_k_ref, gm_k_null, gm_k_u, gm_k_long, and_true, true_and, true_or, or_true, or_false, false_or, and_self, or_self, if_true, if_false, List.map_nil, List.map_cons, List.sum_nil, List.sum_cons, Nat.zero_le, Option.toList_some, Option.toList_none, List.cons_append, List.nil_append, ne_eq, not_false_eq_true, not_true_eq_false, nI_1, nI_add, Value.category, Nat.reduceAdd, Nat.reduceMod, Nat.reduceLeDiff, Nat.reduceLT, Nat.reduceEqDiff, Nat.reducePow, Nat.le_refl, Nat.add_left_cancel_iff, Nat.add_eq_left, Nat.left_eq_add, Nat.add_zero]
  refine c85_2 (by simp) R.1.1 (by omega) (x_addEntry (by omega) R) (fun v h1 q => ?_) (fun _ _ q => q.ber)
  obtain ⟨e, s1, w, ⟨rfl, na⟩, R1, mv, le, co⟩ := q
  have st1 : gx_st h s x G h1 s1 := ⟨mv, le, co⟩
  unfold gs_text
  rw [gs_b_ok w]
  obtain ⟨rfl, es1⟩ := gs_addE_ok w
  simp only [r85_0, r85_0n, r85_1, r85_5, r85_6, r85_6n, r85_10, r85_11, r85_14, r85_14i, r85_15, r85_16, r85_17, r85_17n, r85_18, r85_21, r85_22, r85_26, r85_26n, r85_27, r85_28, r85_30, r85_32, r85_32n, r85_33, r85_36, r85_37, r85_40, r85_40n, r85_41, r85_44, r85_46, r85_46n, r85_47, r85_50, r85_51, r85_53, r85_54, r85_55, r85_56, r85_57, r85_60, r85_63, r85_63n, r85_64, r85_67, r85_70, r85_71, r85_71n, r85_72, r85_72n, r85_76, r85_77, r85_77n, r85_78, r85_81, r85_84, r85_85, r85_86, i32_10, reduceIte, gm_cmp1, gm_cmp3, gm_cmp4, gm_kd_sf, gm_ln_sf, gm_sf_1, gm_sf_2, gm_nw_1, gm_nw_2, gm_k_int, gm_k_ref, gm_k_null, gm_k_u, gm_k_long, and_true, true_and, true_or, or_true, or_false, false_or, and_self, or_self, if_true, if_false, List.map_nil, List.map_cons, List.sum_nil, List.sum_cons, Nat.zero_le, Option.toList_some, Option.toList_none, List.cons_append, List.nil_append, ne_eq, not_false_eq_true, not_true_eq_false, nI_1, nI_add, Value.category, Nat.reduceAdd, Nat.reduceMod, Nat.reduceLeDiff, Nat.reduceLT, Nat.reduceEqDiff, Nat.reducePow, Nat.le_refl, Nat.add_left_cancel_iff, Nat.add_eq_left, Nat.left_eq_add, Nat.add_zero]
  refine c85_7 (by simp) R1.1.1 (by omega) (x_passUtf (by omega) R1) (fun v h2 q => ?_) (fun _ _ q => q.ber.frm st1)
  obtain ⟨a, s2, w2, ⟨rfl, na2⟩, R2, mv2, le2, co2⟩ := q
  have st2 := st1.trans mv2 le2 co2 (fun _ z => Or.inr z)
  rw [gs_b_ok w2, gs_b_ok (m := gs_g) rfl]
  obtain ⟨u1, u2, u3, u4⟩ := gs_utf_ok w2 R1.2.2.2.1.2.1
  have e2 : gs_hs s2 = gs_hs s1 := by rw [u4]; rfl
  have hl : (gs_hs s).length < (gs_hs s2).length := by rw [e2, es1]; simp [gs_hs]
  have h2F : ∀ a, F a → a < h2.1 := fun a z => Nat.lt_of_lt_of_le (hF a z) st2.1.1.1
  have hn7 := R2.2.1.2.2.2.2.2.1
  have ht2 := R2.top
  obtain ⟨n, hn⟩ : ∃ n, n = gs_pl s2 - a := ⟨_, rfl⟩
  have hn1 : n < 1000 := by omega
  rw [← hn]
  have Rn : gx_R E (gm_nw h2 (4, [.int 0, .null, .null, .int 0, .int 0]) 5) x ca K F s2 := R2.new
  simp only [r85_0, r85_0n, r85_1, r85_5, r85_6, r85_6n, r85_10, r85_11, r85_14, r85_14i, r85_15, r85_16, r85_17, r85_17n, r85_18, r85_21, r85_22, r85_26, r85_26n, r85_27, r85_28, r85_30, r85_32, r85_32n, r85_33, r85_36, r85_37, r85_40, r85_40n, r85_41, r85_44, r85_46, r85_46n, r85_47, r85_50, r85_51, r85_53, r85_54, r85_55, r85_56, r85_57, r85_60, r85_63, r85_63n, r85_64, r85_67, r85_70, r85_71, r85_71n, r85_72, r85_72n, r85_76, r85_77, r85_77n, r85_78, r85_81, r85_84, r85_85, r85_86, i32_10, reduceIte, gm_cmp1, gm_cmp3, gm_cmp4, gm_kd_sf, gm_ln_sf, gm_sf_1, gm_sf_2, gm_nw_1, gm_nw_2, gm_k_int, gm_k_ref, gm_k_null, gm_k_u, gm_k_long, and_true, true_and, true_or, or_true, or_false, false_or, and_self, or_self, if_true, if_false, List.map_nil, List.map_cons, List.sum_nil, List.sum_cons, Nat.zero_le, Option.toList_some, Option.toList_none, List.cons_append, List.nil_append, ne_eq, not_false_eq_true, not_true_eq_false, nI_1, nI_add, Value.category, Nat.reduceAdd, Nat.reduceMod, Nat.reduceLeDiff, Nat.reduceLT, Nat.reduceEqDiff, Nat.reducePow, Nat.le_refl, Nat.add_left_cancel_iff, Nat.add_eq_left, Nat.left_eq_add, Nat.add_zero, Rn.1.1, Rn.2.2.2.1.1, nI_sub u2, ← hn]
  refine c85_23 (by simp [Value.category]) (by simp [gm_en1]) (by omega) (x_Thing (h := h2) (ca := ca) (o := none) hn1) (gx_kn ?_) gx_kx
  generalize h3e : gx_mk (gx_n1 h2) h2.1 1 (gx_ow ca none) n = h3
  have r3 : ∀ b, b < h2.1 → gm_rd h3 b = gm_rd h2 b := by rw [← h3e]; exact gx_mk_rd
  have t3 : gx_th h3 ca (1, none, List.replicate n 0, 0, 0) h2.1 := by rw [← h3e]; exact gx_mk_th hn1
  have c3 : h3.1 = h2.1 + 2 ∧ h3.2.1 = h2.2.1 + 5 + n := by rw [← h3e]; exact gx_mk_1
  clear h3e
  have loop : ∀ (m k : Nat) (hk : gm_H), k + m = n → hk.1 = h3.1 ∧ hk.2.1 = h3.2.1 → (∀ b, b ≠ h2.1 + 1 → gm_rd hk b = gm_rd h3 b) → gm_kd hk (h2.1 + 1) = 101 → gm_ln hk (h2.1 + 1) = n → (∀ j, j < k → gm_fv hk (h2.1 + 1) j = .long (gs_sb K (a + j)).toInt64) →
      gm_W E d 85 30 [.ref x, .int (nI (gs_hs s).length), .int (nI a), .ref h2.1, .int (nI k)] [] hk (gx_P E h x ca K F G s (fun a _ v => v = some (.int a)) (gs_b (gs_addT (1, none, (List.range n).map (fun k => (gs_sb K (a + k)).toInt64), 0, 0)) (fun o => gs_b (gs_setE (gs_hs s).length (nI o)) fun _ => gs_r (nI o)) s2)) := by
    intro m
    induction m with
    | zero =>
      intro k hk e1 e2 e3 e4 e5 e6
      have e1 : k = n := by omega
      subst e1
      have rk : ∀ b, b < h2.1 → gm_rd hk b = gm_rd h2 b := fun b hb => (e3 b (by omega)).trans (r3 b hb)
      have Rk : gx_R E hk x ca K F s2 := R2.far (by omega) rk
      have tk : gx_th hk ca (1, none, (List.range k).map (fun k => (gs_sb K (a + k)).toInt64), 0, 0) h2.1 := by
        have et := e3 h2.1 (by omega)
        obtain ⟨q1, q2, q3, q4, q5, q6, -⟩ := t3
        refine ⟨(gv_kd et).trans q1, (gv_fv et).trans q2, (gv_fv et).trans q3, (gv_fv et).trans q4, (gv_fv et).trans q5, (gv_fv et).trans q6, e4, by simpa using e5, by simpa using hn1, fun j v hj => ?_⟩
        have hjk : j < k := by have := (List.getElem?_eq_some_iff.mp hj).1; simpa using this
        simp [List.getElem?_range hjk] at hj
        rw [e6 j hjk, hj]
      have stk : gx_mv h hk x G s := st2.1.trans (G1 := G) (gx_mv.far ht2 (by omega) rk) st2.2.1 (fun _ z => Or.inr z)
      have hok : gx_ok hk x F h2.1 ∧ gx_ok hk x F (h2.1 + 1) := ⟨⟨Or.inr ht2, by omega, fun z => by have := h2F _ z; omega⟩, ⟨Or.inr (by omega), by omega, fun z => by have := h2F _ z; omega⟩⟩
      have hbt : ∀ i u, i < (gs_hp s2).length → gm_fv hk (x + 3) i = .ref u → u + 1 < h2.1 := by
        intro i u hi hu
        obtain ⟨ta, T⟩ := R2.2.2.2.2.1
        obtain ⟨b1, b2, -⟩ := T.2 i _ (List.getElem?_eq_getElem hi)
        rw [gv_fv (rk (x + 3) (by omega)), b1] at hu
        cases hu
        exact b2.2.2.1
      obtain ⟨A0, -, -, -, A10, -, -, -, -, -, -, A4, A40, -⟩ := Rk.1
      have kt := tk.1
      have ft := tk.2.2.2.1
      simp only [r85_0, r85_0n, r85_1, r85_5, r85_6, r85_6n, r85_10, r85_11, r85_14, r85_14i, r85_15, r85_16, r85_17, r85_17n, r85_18, r85_21, r85_22, r85_26, r85_26n, r85_27, r85_28, r85_30, r85_32, r85_32n, r85_33, r85_36, r85_37, r85_40, r85_40n, r85_41, r85_44, r85_46, r85_46n, r85_47, r85_50, r85_51, r85_53, r85_54, r85_55, r85_56, r85_57, r85_60, r85_63, r85_63n, r85_64, r85_67, r85_70, r85_71, r85_71n, r85_72, r85_72n, r85_76, r85_77, r85_77n, r85_78, r85_81, r85_84, r85_85, r85_86, i32_10, reduceIte, gm_cmp1, gm_cmp3, gm_cmp4, gm_kd_sf, gm_ln_sf, gm_sf_1, gm_sf_2, gm_nw_1, gm_nw_2, gm_k_int, gm_k_ref, gm_k_null, gm_k_u, gm_k_long, and_true, true_and, true_or, or_true, or_false, false_or, and_self, or_self, if_true, if_false, List.map_nil, List.map_cons, List.sum_nil, List.sum_cons, Nat.zero_le, Option.toList_some, Option.toList_none, List.cons_append, List.nil_append, ne_eq, not_false_eq_true, not_true_eq_false, nI_1, nI_add, Value.category, Nat.reduceAdd, Nat.reduceMod, Nat.reduceLeDiff, Nat.reduceLT, Nat.reduceEqDiff, Nat.reducePow, Nat.le_refl, Nat.add_left_cancel_iff, Nat.add_eq_left, Nat.left_eq_add, Nat.add_zero, kt, ft, e4, e5, nI_leT (Nat.le_refl k) (show k < 2 ^ 31 by omega), A0, A10, A4, A40]
      refine c85_73 (by simp [Value.category]) (by simp [gm_en1]) A0 (by omega) (x_addThing (G := G) (by omega) Rk (fun c e => by cases e) tk hok hbt) (fun v h4 q => ?_) (fun v h4 q => ?_)
      · obtain ⟨o, s4, w4, ⟨⟨rfl, na4⟩, -⟩, R4, mv4, le4, co4⟩ := q
        rw [gs_b_ok w4]
        obtain ⟨rfl, es4⟩ := gs_addT_ok w4
        obtain ⟨A0, -, -, -, A10, -, -, -, -, -, -, A4, A40, -, A5, A5l, -⟩ := R4.1
        have hs4 : gs_hs s4 = gs_hs s2 := by rw [es4]; rfl
        have hl4 : (gs_hs s).length < (gs_hs s4).length := by rw [hs4]; exact hl
        have h234 := R4.2.2.2.1.2.2.2.2.2.2.2.1
        have he2 : (gs_hs s).length < 234 := by omega
        have n05 : x ≠ x + 5 := by omega
        have n45 : x + 4 ≠ x + 5 := by omega
        have e55 : gm_fv (gm_sf h4 (x + 5) (gs_hs s).length (.int (nI (gs_hp s2).length))) (x + 5) (gs_hs s).length = .int (nI (gs_hp s2).length) := gm_fv_sf (by omega)
        simp only [r85_0, r85_0n, r85_1, r85_5, r85_6, r85_6n, r85_10, r85_11, r85_14, r85_14i, r85_15, r85_16, r85_17, r85_17n, r85_18, r85_21, r85_22, r85_26, r85_26n, r85_27, r85_28, r85_30, r85_32, r85_32n, r85_33, r85_36, r85_37, r85_40, r85_40n, r85_41, r85_44, r85_46, r85_46n, r85_47, r85_50, r85_51, r85_53, r85_54, r85_55, r85_56, r85_57, r85_60, r85_63, r85_63n, r85_64, r85_67, r85_70, r85_71, r85_71n, r85_72, r85_72n, r85_76, r85_77, r85_77n, r85_78, r85_81, r85_84, r85_85, r85_86, i32_10, reduceIte, gm_cmp1, gm_cmp3, gm_cmp4, gm_kd_sf, gm_ln_sf, gm_sf_1, gm_sf_2, gm_nw_1, gm_nw_2, gm_k_int, gm_k_ref, gm_k_null, gm_k_u, gm_k_long, and_true, true_and, true_or, or_true, or_false, false_or, and_self, or_self, if_true, if_false, List.map_nil, List.map_cons, List.sum_nil, List.sum_cons, Nat.zero_le, Option.toList_some, Option.toList_none, List.cons_append, List.nil_append, ne_eq, not_false_eq_true, not_true_eq_false, nI_1, nI_add, Value.category, Nat.reduceAdd, Nat.reduceMod, Nat.reduceLeDiff, Nat.reduceLT, Nat.reduceEqDiff, Nat.reducePow, Nat.le_refl, Nat.add_left_cancel_iff, Nat.add_eq_left, Nat.left_eq_add, Nat.add_zero, A5, A5l, he2, gm_fv_sfa n05, gm_fv_sfa n45, A0, A10, A4, A40, e55]
        refine ⟨_, _, rfl, rfl, R4.setE hl4, (stk.trans mv4 st2.2.1 (fun _ z => Or.inr z)).tr (gx_mv.obj (Nat.le_refl _)), ?_, ?_⟩
        · refine st2.2.1.trans (le4.trans ⟨Nat.le_refl _, ?_⟩)
          simp [gs_hs]
        · have hp4 : gs_pl s4 = gs_pl s2 := by rw [es4]; rfl
          have p1 : gs_pl s1 = gs_pl s := by rw [es1]; rfl
          have m1 := (na.trans na2).1
          have m2 := (na.trans na2).2
          have m3 := na4.1
          have m4 := na4.2
          unfold gx_co
          simp only [gm_sf_1, gm_sf_2]
          show h4.1 + gs_pl s ≤ h.1 + gs_pl s4 ∧ h4.2.1 + 8 * gs_pl s ≤ h.2.1 + 8 * gs_pl s4
          omega
      · obtain ⟨f, w4, E4, mv4, cx4⟩ := q
        refine ⟨f, gs_b_er w4, E4, stk.trans mv4 st2.2.1 (fun _ z => Or.inr z), ?_⟩
        have m1 := (na.trans na2).1
        have m2 := (na.trans na2).2
        have p1 : gs_pl s1 = gs_pl s := by rw [es1]; rfl
        have m3 := cx4.1
        have m4 := cx4.2
        unfold gx_cx
        omega
    | succ m ih =>
      intro k hk e1 e2 e3 e4 e5 e6
      have rk : ∀ b, b < h2.1 → gm_rd hk b = gm_rd h2 b := fun b hb => (e3 b (by omega)).trans (r3 b hb)
      have Rk : gx_R E hk x ca K F s2 := R2.far (by omega) rk
      have et := e3 h2.1 (by omega)
      have kt := (gv_kd et).trans t3.1
      have ft := (gv_fv (j := 2) et).trans t3.2.2.2.1
      obtain ⟨A0, -, A5, -, A10, -, -, A2, A2l, -⟩ := Rk.1
      have hak : a + k < gs_n K := by omega
      have hak7 : a + k < 700 := by omega
      have hkn : k < n := by omega
      have hn31 : n < 2147483648 := by omega
      have B8 := Rk.2.1.2.2.2.2.2.2 _ hak
      rw [r85_30]
      simp only [r85_0, r85_0n, r85_1, r85_5, r85_6, r85_6n, r85_10, r85_11, r85_14, r85_14i, r85_15, r85_16, r85_17, r85_17n, r85_18, r85_21, r85_22, r85_26, r85_26n, r85_27, r85_28, r85_32, r85_32n, r85_33, r85_36, r85_37, r85_40, r85_40n, r85_41, r85_44, r85_46, r85_46n, r85_47, r85_50, r85_51, r85_53, r85_54, r85_55, r85_56, r85_57, r85_60, r85_63, r85_63n, r85_64, r85_67, r85_70, r85_71, r85_71n, r85_72, r85_72n, r85_76, r85_77, r85_77n, r85_78, r85_81, r85_84, r85_85, r85_86, i32_10, reduceIte, gm_cmp1, gm_cmp3, gm_cmp4, gm_kd_sf, gm_ln_sf, gm_sf_1, gm_sf_2, gm_nw_1, gm_nw_2, gm_k_int, gm_k_ref, gm_k_null, gm_k_u, gm_k_long, and_true, true_and, true_or, or_true, or_false, false_or, and_self, or_self, if_true, if_false, List.map_nil, List.map_cons, List.sum_nil, List.sum_cons, Nat.zero_le, Option.toList_some, Option.toList_none, List.cons_append, List.nil_append, ne_eq, not_false_eq_true, not_true_eq_false, nI_1, nI_add, Value.category, Nat.reduceAdd, Nat.reduceMod, Nat.reduceLeDiff, Nat.reduceLT, Nat.reduceEqDiff, Nat.reducePow, Nat.le_refl, Nat.add_left_cancel_iff, Nat.add_eq_left, Nat.left_eq_add, Nat.add_zero, kt, ft, e4, e5, nI_leF hkn (show n < 2 ^ 31 by omega), A0, A5, A2, A2l, hak7, B8, hkn, hn31]
      refine ih (k + 1) _ (by omega) ⟨by simp only [gm_sf_1]; exact e2.1, by simp only [gm_sf_2]; exact e2.2⟩ (fun b hb => by rw [gm_rd_sfn hb]; exact e3 b hb) (by simp only [gm_kd_sf]; exact e4) (by simp only [gm_ln_sf]; exact e5) (fun j hj => ?_)
      by_cases hjk : j = k
      · subst hjk
        exact gm_fv_sf (by omega)
      · rw [gm_fv_sfj hjk]
        exact e6 j (by omega)
  simp only [r85_0, r85_0n, r85_1, r85_5, r85_6, r85_6n, r85_10, r85_11, r85_14, r85_14i, r85_15, r85_16, r85_17, r85_17n, r85_18, r85_21, r85_22, r85_26, r85_26n, r85_27, r85_28, r85_32, r85_32n, r85_33, r85_36, r85_37, r85_40, r85_40n, r85_41, r85_44, r85_46, r85_46n, r85_47, r85_50, r85_51, r85_53, r85_54, r85_55, r85_56, r85_57, r85_60, r85_63, r85_63n, r85_64, r85_67, r85_70, r85_71, r85_71n, r85_72, r85_72n, r85_76, r85_77, r85_77n, r85_78, r85_81, r85_84, r85_85, r85_86, i32_10, reduceIte, gm_cmp1, gm_cmp3, gm_cmp4, gm_kd_sf, gm_ln_sf, gm_sf_1, gm_sf_2, gm_nw_1, gm_nw_2, gm_k_int, gm_k_ref, gm_k_null, gm_k_u, gm_k_long, and_true, true_and, true_or, or_true, or_false, false_or, and_self, or_self, if_true, if_false, List.map_nil, List.map_cons, List.sum_nil, List.sum_cons, Nat.zero_le, Option.toList_some, Option.toList_none, List.cons_append, List.nil_append, ne_eq, not_false_eq_true, not_true_eq_false, nI_1, nI_add, Value.category, Nat.reduceAdd, Nat.reduceMod, Nat.reduceLeDiff, Nat.reduceLT, Nat.reduceEqDiff, Nat.reducePow, Nat.le_refl, Nat.add_left_cancel_iff, Nat.add_eq_left, Nat.left_eq_add, Nat.add_zero]
  have t3' := t3
  obtain ⟨q1, q2, q3, q4, q5, q6, q7, q8, q9, q10⟩ := t3'
  exact loop n 0 h3 (by omega) ⟨rfl, rfl⟩ (fun _ _ => rfl) q7 (by simpa using q8) (fun j hj => by omega)
end X4
/-! THE CLASS, 5: questions about objects and local classes. -/
section X5
variable {E : Nat → Value} {d x : Nat} {h : gm_H} {ca : Nat → Nat} {K : gs_K} {F G : Nat → Prop} {s : gs_S}
/-- an object's number is within the heap -/
theorem gx_R.look {v : Int32} (R : gx_R E h x ca K F s) (h1 : ¬ v < 0) (h2 : ¬ nI (gs_hp s).length ≤ v) : ∃ (i : Nat) (o : gs_O) (t : Nat), v = nI i ∧ i < 234 ∧ v.toNatClampNeg = i ∧ (gs_hp s)[i]? = some o ∧ gm_fv h (x + 3) i = .ref t ∧ gx_th h ca o t ∧ gs_sort s v = o.1 := by
  obtain ⟨i, hi, rfl⟩ := nI_of h1
  have h4 := R.2.2.2.1.2.2.2.1
  rw [nI_leI (by omega) hi] at h2
  have hl : i < (gs_hp s).length := by omega
  obtain ⟨ta, T⟩ := R.2.2.2.2.1
  obtain ⟨b1, -, b3⟩ := T.2 i _ (List.getElem?_eq_getElem hl)
  refine ⟨i, _, ta i, rfl, by omega, nI_clamp hi, List.getElem?_eq_getElem hl, b1, b3, ?_⟩
  unfold gs_sort
  rw [if_neg h1]
  simp only [nI_clamp hi, hl, dite_true]
theorem gs_sort_out {v : Int32} (hn : (gs_hp s).length ≤ 234) (h1 : v < 0 ∨ nI (gs_hp s).length ≤ v) : gs_sort s v = -1 := by
  unfold gs_sort
  by_cases h2 : v < 0
  · rw [if_pos h2]
  · rw [if_neg h2]
    obtain ⟨i, hi, rfl⟩ := nI_of h2
    rcases h1 with z | z
    · exact absurd z h2
    · rw [nI_leI (by omega) hi] at z
      rw [nI_clamp hi, dif_neg (by omega)]
theorem x_isText {v : Int32} (hd : 1 ≤ d) (R : gx_R E h x ca K F s) : gm_Ca E d 100 [.ref x, .int v] h (gx_v (some (.int (if gs_sort s v = 1 then 1 else 0))) h) := by
  show gm_W E d 100 0 [.ref x, .int v] [] h _
  obtain ⟨A0, -, -, A8, -, -, -, -, -, A3, A3l, -⟩ := R.1
  have h4 := R.2.2.2.1.2.2.2.1
  simp only [r100_0, r100_0n, r100_1, r100_5, r100_8, r100_8n, r100_9, r100_12, r100_13, r100_14, r100_17, r100_18, r100_21, r100_22, r100_25, r100_26, i32_10, reduceIte, gm_cmp1, gm_cmp3, gm_cmp4, gm_kd_sf, gm_ln_sf, gm_sf_1, gm_sf_2, gm_nw_1, gm_nw_2, gm_k_int, gm_k_ref, gm_k_null, gm_k_u, gm_k_long, and_true, true_and, true_or, or_true, or_false, false_or, and_self, or_self, if_true, if_false, List.map_nil, List.map_cons, List.sum_nil, List.sum_cons, Nat.zero_le, Option.toList_some, Option.toList_none, List.cons_append, List.nil_append, ne_eq, not_false_eq_true, not_true_eq_false, nI_1, nI_add, Value.category, Nat.reduceAdd, Nat.reduceMod, Nat.reduceLeDiff, Nat.reduceLT, Nat.reduceEqDiff, Nat.reducePow, Nat.le_refl, Nat.add_left_cancel_iff, Nat.add_eq_left, Nat.left_eq_add, Nat.add_zero]
  refine c100_2 (by simp) A0 hd (x_isInHeap R) (gx_kn ?_) gx_kx
  by_cases h1 : v < 0
  · simp only [r100_0, r100_0n, r100_1, r100_5, r100_8, r100_8n, r100_9, r100_12, r100_13, r100_14, r100_17, r100_18, r100_21, r100_22, r100_25, r100_26, i32_10, reduceIte, gm_cmp1, gm_cmp3, gm_cmp4, gm_kd_sf, gm_ln_sf, gm_sf_1, gm_sf_2, gm_nw_1, gm_nw_2, gm_k_int, gm_k_ref, gm_k_null, gm_k_u, gm_k_long, and_true, true_and, true_or, or_true, or_false, false_or, and_self, or_self, if_true, if_false, List.map_nil, List.map_cons, List.sum_nil, List.sum_cons, Nat.zero_le, Option.toList_some, Option.toList_none, List.cons_append, List.nil_append, ne_eq, not_false_eq_true, not_true_eq_false, nI_1, nI_add, Value.category, Nat.reduceAdd, Nat.reduceMod, Nat.reduceLeDiff, Nat.reduceLT, Nat.reduceEqDiff, Nat.reducePow, Nat.le_refl, Nat.add_left_cancel_iff, Nat.add_eq_left, Nat.left_eq_add, Nat.add_zero, h1, gs_sort_out h4 (Or.inl h1)]
    exact ⟨rfl, rfl⟩
  · by_cases h2 : nI (gs_hp s).length ≤ v
    · simp only [r100_0, r100_0n, r100_1, r100_5, r100_8, r100_8n, r100_9, r100_12, r100_13, r100_14, r100_17, r100_18, r100_21, r100_22, r100_25, r100_26, i32_10, reduceIte, gm_cmp1, gm_cmp3, gm_cmp4, gm_kd_sf, gm_ln_sf, gm_sf_1, gm_sf_2, gm_nw_1, gm_nw_2, gm_k_int, gm_k_ref, gm_k_null, gm_k_u, gm_k_long, and_true, true_and, true_or, or_true, or_false, false_or, and_self, or_self, if_true, if_false, List.map_nil, List.map_cons, List.sum_nil, List.sum_cons, Nat.zero_le, Option.toList_some, Option.toList_none, List.cons_append, List.nil_append, ne_eq, not_false_eq_true, not_true_eq_false, nI_1, nI_add, Value.category, Nat.reduceAdd, Nat.reduceMod, Nat.reduceLeDiff, Nat.reduceLT, Nat.reduceEqDiff, Nat.reducePow, Nat.le_refl, Nat.add_left_cancel_iff, Nat.add_eq_left, Nat.left_eq_add, Nat.add_zero, h1, h2, gs_sort_out h4 (Or.inr h2)]
      exact ⟨rfl, rfl⟩
    · obtain ⟨i, o, t, rfl, i1, i2, i3, i4, i5, i6⟩ := R.look h1 h2
      simp only [r100_0, r100_0n, r100_1, r100_5, r100_8, r100_8n, r100_9, r100_12, r100_13, r100_14, r100_17, r100_18, r100_21, r100_22, r100_25, r100_26, i32_10, reduceIte, gm_cmp1, gm_cmp3, gm_cmp4, gm_kd_sf, gm_ln_sf, gm_sf_1, gm_sf_2, gm_nw_1, gm_nw_2, gm_k_int, gm_k_ref, gm_k_null, gm_k_u, gm_k_long, and_true, true_and, true_or, or_true, or_false, false_or, and_self, or_self, if_true, if_false, List.map_nil, List.map_cons, List.sum_nil, List.sum_cons, Nat.zero_le, Option.toList_some, Option.toList_none, List.cons_append, List.nil_append, ne_eq, not_false_eq_true, not_true_eq_false, nI_1, nI_add, Value.category, Nat.reduceAdd, Nat.reduceMod, Nat.reduceLeDiff, Nat.reduceLT, Nat.reduceEqDiff, Nat.reducePow, Nat.le_refl, Nat.add_left_cancel_iff, Nat.add_eq_left, Nat.left_eq_add, Nat.add_zero, h1, h2, A0, A8, A3, A3l, i1, i4, i5.1, i5.2.1, i6]
      by_cases h3 : o.1 = 1 <;> simp [h3, gx_v]
theorem x_isIntsOrNull {v : Int32} (hd : 1 ≤ d) (R : gx_R E h x ca K F s) : gm_Ca E d 94 [.ref x, .int v] h (gx_v (some (.int (if v = -2 then 1 else if gs_sort s v = 2 then 1 else 0))) h) := by
  show gm_W E d 94 0 [.ref x, .int v] [] h _
  obtain ⟨A0, -, -, A8, -, -, -, -, -, A3, A3l, -⟩ := R.1
  have h4 := R.2.2.2.1.2.2.2.1
  by_cases h0 : v = -2
  · simp only [r94_0, r94_1, r94_3, r94_6, r94_6n, r94_7, r94_11, r94_14, r94_14n, r94_15, r94_18, r94_19, r94_20, r94_23, r94_24, r94_27, r94_28, r94_31, r94_32, i32_10, reduceIte, gm_cmp1, gm_cmp3, gm_cmp4, gm_kd_sf, gm_ln_sf, gm_sf_1, gm_sf_2, gm_nw_1, gm_nw_2, gm_k_int, gm_k_ref, gm_k_null, gm_k_u, gm_k_long, and_true, true_and, true_or, or_true, or_false, false_or, and_self, or_self, if_true, if_false, List.map_nil, List.map_cons, List.sum_nil, List.sum_cons, Nat.zero_le, Option.toList_some, Option.toList_none, List.cons_append, List.nil_append, ne_eq, not_false_eq_true, not_true_eq_false, nI_1, nI_add, Value.category, Nat.reduceAdd, Nat.reduceMod, Nat.reduceLeDiff, Nat.reduceLT, Nat.reduceEqDiff, Nat.reducePow, Nat.le_refl, Nat.add_left_cancel_iff, Nat.add_eq_left, Nat.left_eq_add, Nat.add_zero, h0]
    exact ⟨rfl, rfl⟩
  · simp only [r94_0, r94_1, r94_3, r94_6, r94_6n, r94_7, r94_11, r94_14, r94_14n, r94_15, r94_18, r94_19, r94_20, r94_23, r94_24, r94_27, r94_28, r94_31, r94_32, i32_10, reduceIte, gm_cmp1, gm_cmp3, gm_cmp4, gm_kd_sf, gm_ln_sf, gm_sf_1, gm_sf_2, gm_nw_1, gm_nw_2, gm_k_int, gm_k_ref, gm_k_null, gm_k_u, gm_k_long, and_true, true_and, true_or, or_true, or_false, false_or, and_self, or_self, if_true, if_false, List.map_nil, List.map_cons, List.sum_nil, List.sum_cons, Nat.zero_le, Option.toList_some, Option.toList_none, List.cons_append, List.nil_append, ne_eq, not_false_eq_true, not_true_eq_false, nI_1, nI_add, Value.category, Nat.reduceAdd, Nat.reduceMod, Nat.reduceLeDiff, Nat.reduceLT, Nat.reduceEqDiff, Nat.reducePow, Nat.le_refl, Nat.add_left_cancel_iff, Nat.add_eq_left, Nat.left_eq_add, Nat.add_zero, h0]
    refine c94_8 (by simp) A0 hd (x_isInHeap R) (gx_kn ?_) gx_kx
    by_cases h1 : v < 0
    · simp only [r94_0, r94_1, r94_3, r94_6, r94_6n, r94_7, r94_11, r94_14, r94_14n, r94_15, r94_18, r94_19, r94_20, r94_23, r94_24, r94_27, r94_28, r94_31, r94_32, i32_10, reduceIte, gm_cmp1, gm_cmp3, gm_cmp4, gm_kd_sf, gm_ln_sf, gm_sf_1, gm_sf_2, gm_nw_1, gm_nw_2, gm_k_int, gm_k_ref, gm_k_null, gm_k_u, gm_k_long, and_true, true_and, true_or, or_true, or_false, false_or, and_self, or_self, if_true, if_false, List.map_nil, List.map_cons, List.sum_nil, List.sum_cons, Nat.zero_le, Option.toList_some, Option.toList_none, List.cons_append, List.nil_append, ne_eq, not_false_eq_true, not_true_eq_false, nI_1, nI_add, Value.category, Nat.reduceAdd, Nat.reduceMod, Nat.reduceLeDiff, Nat.reduceLT, Nat.reduceEqDiff, Nat.reducePow, Nat.le_refl, Nat.add_left_cancel_iff, Nat.add_eq_left, Nat.left_eq_add, Nat.add_zero, h1, gs_sort_out h4 (Or.inl h1)]
      exact ⟨rfl, rfl⟩
    · by_cases h2 : nI (gs_hp s).length ≤ v
      · simp only [r94_0, r94_1, r94_3, r94_6, r94_6n, r94_7, r94_11, r94_14, r94_14n, r94_15, r94_18, r94_19, r94_20, r94_23, r94_24, r94_27, r94_28, r94_31, r94_32, i32_10, reduceIte, gm_cmp1, gm_cmp3, gm_cmp4, gm_kd_sf, gm_ln_sf, gm_sf_1, gm_sf_2, gm_nw_1, gm_nw_2, gm_k_int, gm_k_ref, gm_k_null, gm_k_u, gm_k_long, and_true, true_and, true_or, or_true, or_false, false_or, and_self, or_self, if_true, if_false, List.map_nil, List.map_cons, List.sum_nil, List.sum_cons, Nat.zero_le, Option.toList_some, Option.toList_none, List.cons_append, List.nil_append, ne_eq, not_false_eq_true, not_true_eq_false, nI_1, nI_add, Value.category, Nat.reduceAdd, Nat.reduceMod, Nat.reduceLeDiff, Nat.reduceLT, Nat.reduceEqDiff, Nat.reducePow, Nat.le_refl, Nat.add_left_cancel_iff, Nat.add_eq_left, Nat.left_eq_add, Nat.add_zero, h1, h2, gs_sort_out h4 (Or.inr h2)]
        exact ⟨rfl, rfl⟩
      · obtain ⟨i, o, t, rfl, i1, i2, i3, i4, i5, i6⟩ := R.look h1 h2
        simp only [r94_0, r94_1, r94_3, r94_6, r94_6n, r94_7, r94_11, r94_14, r94_14n, r94_15, r94_18, r94_19, r94_20, r94_23, r94_24, r94_27, r94_28, r94_31, r94_32, i32_10, reduceIte, gm_cmp1, gm_cmp3, gm_cmp4, gm_kd_sf, gm_ln_sf, gm_sf_1, gm_sf_2, gm_nw_1, gm_nw_2, gm_k_int, gm_k_ref, gm_k_null, gm_k_u, gm_k_long, and_true, true_and, true_or, or_true, or_false, false_or, and_self, or_self, if_true, if_false, List.map_nil, List.map_cons, List.sum_nil, List.sum_cons, Nat.zero_le, Option.toList_some, Option.toList_none, List.cons_append, List.nil_append, ne_eq, not_false_eq_true, not_true_eq_false, nI_1, nI_add, Value.category, Nat.reduceAdd, Nat.reduceMod, Nat.reduceLeDiff, Nat.reduceLT, Nat.reduceEqDiff, Nat.reducePow, Nat.le_refl, Nat.add_left_cancel_iff, Nat.add_eq_left, Nat.left_eq_add, Nat.add_zero, h1, h2, A0, A8, A3, A3l, i1, i4, i5.1, i5.2.1, i6]
        by_cases h3 : o.1 = 2 <;> simp [h3, gx_v]
theorem x_constantName {v : Int32} (hd : 1 ≤ d) (R : gx_R E h x ca K F s) : gm_Ca E d 88 [.ref x, .int v] h (gx_v (some (.int (gs_cname s v))) h) := by
  show gm_W E d 88 0 [.ref x, .int v, gm_u] [] h _
  obtain ⟨A0, -, -, A8, -, -, -, -, -, A3, A3l, -⟩ := R.1
  have h4 := R.2.2.2.1.2.2.2.1
  simp only [r88_0, r88_0n, r88_1, r88_5, r88_8, r88_9, r88_10, r88_10n, r88_11, r88_14, r88_15, r88_16, r88_16n, r88_17, r88_17n, r88_18, r88_21, r88_22, r88_25, r88_25n, r88_26, r88_29, r88_30, r88_31, r88_34, r88_34n, r88_35, r88_38, r88_39, r88_39k, r88_40, r88_41, r88_43, r88_44, r88_47, r88_48, i32_10, reduceIte, gm_cmp1, gm_cmp3, gm_cmp4, gm_kd_sf, gm_ln_sf, gm_sf_1, gm_sf_2, gm_nw_1, gm_nw_2, gm_k_int, gm_k_ref, gm_k_null, gm_k_u, gm_k_long, and_true, true_and, true_or, or_true, or_false, false_or, and_self, or_self, if_true, if_false, List.map_nil, List.map_cons, List.sum_nil, List.sum_cons, Nat.zero_le, Option.toList_some, Option.toList_none, List.cons_append, List.nil_append, ne_eq, not_false_eq_true, not_true_eq_false, nI_1, nI_add, Value.category, Nat.reduceAdd, Nat.reduceMod, Nat.reduceLeDiff, Nat.reduceLT, Nat.reduceEqDiff, Nat.reducePow, Nat.le_refl, Nat.add_left_cancel_iff, Nat.add_eq_left, Nat.left_eq_add, Nat.add_zero]
  refine c88_2 (by simp) A0 hd (x_isInHeap R) (gx_kn ?_) gx_kx
  unfold gs_cname
  by_cases h1 : v < 0
  · simp only [r88_0, r88_0n, r88_1, r88_5, r88_8, r88_9, r88_10, r88_10n, r88_11, r88_14, r88_15, r88_16, r88_16n, r88_17, r88_17n, r88_18, r88_21, r88_22, r88_25, r88_25n, r88_26, r88_29, r88_30, r88_31, r88_34, r88_34n, r88_35, r88_38, r88_39, r88_39k, r88_40, r88_41, r88_43, r88_44, r88_47, r88_48, i32_10, reduceIte, gm_cmp1, gm_cmp3, gm_cmp4, gm_kd_sf, gm_ln_sf, gm_sf_1, gm_sf_2, gm_nw_1, gm_nw_2, gm_k_int, gm_k_ref, gm_k_null, gm_k_u, gm_k_long, and_true, true_and, true_or, or_true, or_false, false_or, and_self, or_self, if_true, if_false, List.map_nil, List.map_cons, List.sum_nil, List.sum_cons, Nat.zero_le, Option.toList_some, Option.toList_none, List.cons_append, List.nil_append, ne_eq, not_false_eq_true, not_true_eq_false, nI_1, nI_add, Value.category, Nat.reduceAdd, Nat.reduceMod, Nat.reduceLeDiff, Nat.reduceLT, Nat.reduceEqDiff, Nat.reducePow, Nat.le_refl, Nat.add_left_cancel_iff, Nat.add_eq_left, Nat.left_eq_add, Nat.add_zero, h1]
    exact ⟨rfl, rfl⟩
  · by_cases h2 : nI (gs_hp s).length ≤ v
    · simp only [r88_0, r88_0n, r88_1, r88_5, r88_8, r88_9, r88_10, r88_10n, r88_11, r88_14, r88_15, r88_16, r88_16n, r88_17, r88_17n, r88_18, r88_21, r88_22, r88_25, r88_25n, r88_26, r88_29, r88_30, r88_31, r88_34, r88_34n, r88_35, r88_38, r88_39, r88_39k, r88_40, r88_41, r88_43, r88_44, r88_47, r88_48, i32_10, reduceIte, gm_cmp1, gm_cmp3, gm_cmp4, gm_kd_sf, gm_ln_sf, gm_sf_1, gm_sf_2, gm_nw_1, gm_nw_2, gm_k_int, gm_k_ref, gm_k_null, gm_k_u, gm_k_long, and_true, true_and, true_or, or_true, or_false, false_or, and_self, or_self, if_true, if_false, List.map_nil, List.map_cons, List.sum_nil, List.sum_cons, Nat.zero_le, Option.toList_some, Option.toList_none, List.cons_append, List.nil_append, ne_eq, not_false_eq_true, not_true_eq_false, nI_1, nI_add, Value.category, Nat.reduceAdd, Nat.reduceMod, Nat.reduceLeDiff, Nat.reduceLT, Nat.reduceEqDiff, Nat.reducePow, Nat.le_refl, Nat.add_left_cancel_iff, Nat.add_eq_left, Nat.left_eq_add, Nat.add_zero, h1, h2]
      obtain ⟨i, hi, rfl⟩ := nI_of h1
      rw [nI_leI (by omega) hi] at h2
      rw [nI_clamp hi, List.getElem?_eq_none h2]
      exact ⟨rfl, rfl⟩
    · obtain ⟨i, o, t, rfl, i1, i2, i3, i4, ⟨t1, t2, t3, t4, t5, t6, t7, t8, t9, t10⟩, i6⟩ := R.look h1 h2
      rw [i2, i3]
      have e1 : (nI o.2.2.1.length = 1) = (o.2.2.1.length = 1) := propext (nI_eq (b := 1) (by omega) (by decide))
      simp only [r88_0, r88_0n, r88_1, r88_5, r88_8, r88_9, r88_10, r88_10n, r88_11, r88_14, r88_15, r88_16, r88_16n, r88_17, r88_17n, r88_18, r88_21, r88_22, r88_25, r88_25n, r88_26, r88_29, r88_30, r88_31, r88_34, r88_34n, r88_35, r88_38, r88_39, r88_39k, r88_40, r88_41, r88_43, r88_44, r88_47, r88_48, i32_10, reduceIte, gm_cmp1, gm_cmp3, gm_cmp4, gm_kd_sf, gm_ln_sf, gm_sf_1, gm_sf_2, gm_nw_1, gm_nw_2, gm_k_int, gm_k_ref, gm_k_null, gm_k_u, gm_k_long, and_true, true_and, true_or, or_true, or_false, false_or, and_self, or_self, if_true, if_false, List.map_nil, List.map_cons, List.sum_nil, List.sum_cons, Nat.zero_le, Option.toList_some, Option.toList_none, List.cons_append, List.nil_append, ne_eq, not_false_eq_true, not_true_eq_false, nI_1, nI_add, Value.category, Nat.reduceAdd, Nat.reduceMod, Nat.reduceLeDiff, Nat.reduceLT, Nat.reduceEqDiff, Nat.reducePow, Nat.le_refl, Nat.add_left_cancel_iff, Nat.add_eq_left, Nat.left_eq_add, Nat.add_zero, h1, h2, A0, A8, A3, A3l, i1, i4, t1, t2, t4, t7, t8, e1]
      by_cases h3 : o.1 = 1
      · by_cases h5 : o.2.2.1.length = 1
        · obtain ⟨w, hw⟩ := List.length_eq_one_iff.mp h5
          have f0 := t10 0 w (by rw [hw]; rfl)
          simp only [r88_0, r88_0n, r88_1, r88_5, r88_8, r88_9, r88_10, r88_10n, r88_11, r88_14, r88_15, r88_16, r88_16n, r88_17, r88_17n, r88_18, r88_21, r88_22, r88_25, r88_25n, r88_26, r88_29, r88_30, r88_31, r88_34, r88_34n, r88_35, r88_38, r88_39, r88_39k, r88_40, r88_41, r88_43, r88_44, r88_47, r88_48, i32_10, reduceIte, gm_cmp1, gm_cmp3, gm_cmp4, gm_kd_sf, gm_ln_sf, gm_sf_1, gm_sf_2, gm_nw_1, gm_nw_2, gm_k_int, gm_k_ref, gm_k_null, gm_k_u, gm_k_long, and_true, true_and, true_or, or_true, or_false, false_or, and_self, or_self, if_true, if_false, List.map_nil, List.map_cons, List.sum_nil, List.sum_cons, Nat.zero_le, Option.toList_some, Option.toList_none, List.cons_append, List.nil_append, ne_eq, not_false_eq_true, not_true_eq_false, nI_1, nI_add, Value.category, Nat.reduceAdd, Nat.reduceMod, Nat.reduceLeDiff, Nat.reduceLT, Nat.reduceEqDiff, Nat.reducePow, Nat.le_refl, Nat.add_left_cancel_iff, Nat.add_eq_left, Nat.left_eq_add, Nat.add_zero, h3, h5, t1, t4, t7, t8, f0, reduceIte, Nat.lt_one_iff]
          rw [hw]
          exact ⟨rfl, rfl⟩
        · simp only [h3, h5, reduceIte]
          refine ⟨?_, rfl⟩
          split
          · rename_i hw; rw [hw] at h5; exact absurd rfl h5
          · rfl
      · simp only [h3, reduceIte]
        exact ⟨rfl, rfl⟩
/-- the class of a number, if it is there -/
def gs_cn (K : gs_K) (v : Int32) : Option Nat := if v < 0 then none else if (gs_cls K v.toNatClampNeg).isSome = true then some v.toNatClampNeg else none
theorem x_classNumbered {v : Int32} (R : gx_R E h x ca K F s) : gm_Ca E d 64 [.ref x, .int v] h (gx_v (some (gx_ow ca (gs_cn K v))) h) := by
  show gm_W E d 64 0 [.ref x, .int v] [] h _
  obtain ⟨A0, A4, -, -, -, A1, A1l, -⟩ := R.1
  unfold gs_cn
  by_cases h1 : v < 0
  · simp only [r64_0, r64_1, r64_4, r64_5, r64_7, r64_10, r64_11, r64_14, r64_14n, r64_15, r64_18, r64_19, r64_20, r64_20n, i32_10, reduceIte, gm_cmp1, gm_cmp3, gm_cmp4, gm_kd_sf, gm_ln_sf, gm_sf_1, gm_sf_2, gm_nw_1, gm_nw_2, gm_k_int, gm_k_ref, gm_k_null, gm_k_u, gm_k_long, and_true, true_and, true_or, or_true, or_false, false_or, and_self, or_self, if_true, if_false, List.map_nil, List.map_cons, List.sum_nil, List.sum_cons, Nat.zero_le, Option.toList_some, Option.toList_none, List.cons_append, List.nil_append, ne_eq, not_false_eq_true, not_true_eq_false, nI_1, nI_add, Value.category, Nat.reduceAdd, Nat.reduceMod, Nat.reduceLeDiff, Nat.reduceLT, Nat.reduceEqDiff, Nat.reducePow, Nat.le_refl, Nat.add_left_cancel_iff, Nat.add_eq_left, Nat.left_eq_add, Nat.add_zero, h1]
    exact ⟨rfl, rfl⟩
  · obtain ⟨i, hi, rfl⟩ := nI_of h1
    rw [nI_clamp hi]
    by_cases h2 : i < 6
    · have e2 : nI i < 6 := nI_lt (b := 6) h2 (by decide)
      cases hC : gs_cls K i with
      | none =>
        have f := (R.2.2.1.2 i h2).1 hC
        simp only [r64_0, r64_1, r64_4, r64_5, r64_7, r64_10, r64_11, r64_14, r64_14n, r64_15, r64_18, r64_19, r64_20, r64_20n, i32_10, reduceIte, gm_cmp1, gm_cmp3, gm_cmp4, gm_kd_sf, gm_ln_sf, gm_sf_1, gm_sf_2, gm_nw_1, gm_nw_2, gm_k_int, gm_k_ref, gm_k_null, gm_k_u, gm_k_long, and_true, true_and, true_or, or_true, or_false, false_or, and_self, or_self, if_true, if_false, List.map_nil, List.map_cons, List.sum_nil, List.sum_cons, Nat.zero_le, Option.toList_some, Option.toList_none, List.cons_append, List.nil_append, ne_eq, not_false_eq_true, not_true_eq_false, nI_1, nI_add, Value.category, Nat.reduceAdd, Nat.reduceMod, Nat.reduceLeDiff, Nat.reduceLT, Nat.reduceEqDiff, Nat.reducePow, Nat.le_refl, Nat.add_left_cancel_iff, Nat.add_eq_left, Nat.left_eq_add, Nat.add_zero, h1, e2, A0, A4, A1, A1l, h2, f]
        exact ⟨rfl, rfl⟩
      | some C =>
        have f := ((R.2.2.1.2 i h2).2 C hC).1
        simp only [r64_0, r64_1, r64_4, r64_5, r64_7, r64_10, r64_11, r64_14, r64_14n, r64_15, r64_18, r64_19, r64_20, r64_20n, i32_10, reduceIte, gm_cmp1, gm_cmp3, gm_cmp4, gm_kd_sf, gm_ln_sf, gm_sf_1, gm_sf_2, gm_nw_1, gm_nw_2, gm_k_int, gm_k_ref, gm_k_null, gm_k_u, gm_k_long, and_true, true_and, true_or, or_true, or_false, false_or, and_self, or_self, if_true, if_false, List.map_nil, List.map_cons, List.sum_nil, List.sum_cons, Nat.zero_le, Option.toList_some, Option.toList_none, List.cons_append, List.nil_append, ne_eq, not_false_eq_true, not_true_eq_false, nI_1, nI_add, Value.category, Nat.reduceAdd, Nat.reduceMod, Nat.reduceLeDiff, Nat.reduceLT, Nat.reduceEqDiff, Nat.reducePow, Nat.le_refl, Nat.add_left_cancel_iff, Nat.add_eq_left, Nat.left_eq_add, Nat.add_zero, h1, e2, A0, A4, A1, A1l, h2, f]
        exact ⟨rfl, rfl⟩
    · have e2 : ¬ nI i < 6 := nI_nlt (b := 6) (by omega) hi
      have hC : gs_cls K i = none := R.2.2.1.1.2 i (by omega)
      simp only [r64_0, r64_1, r64_4, r64_5, r64_7, r64_10, r64_11, r64_14, r64_14n, r64_15, r64_18, r64_19, r64_20, r64_20n, i32_10, reduceIte, gm_cmp1, gm_cmp3, gm_cmp4, gm_kd_sf, gm_ln_sf, gm_sf_1, gm_sf_2, gm_nw_1, gm_nw_2, gm_k_int, gm_k_ref, gm_k_null, gm_k_u, gm_k_long, and_true, true_and, true_or, or_true, or_false, false_or, and_self, or_self, if_true, if_false, List.map_nil, List.map_cons, List.sum_nil, List.sum_cons, Nat.zero_le, Option.toList_some, Option.toList_none, List.cons_append, List.nil_append, ne_eq, not_false_eq_true, not_true_eq_false, nI_1, nI_add, Value.category, Nat.reduceAdd, Nat.reduceMod, Nat.reduceLeDiff, Nat.reduceLT, Nat.reduceEqDiff, Nat.reducePow, Nat.le_refl, Nat.add_left_cancel_iff, Nat.add_eq_left, Nat.left_eq_add, Nat.add_zero, h1, e2, hC]
      exact ⟨rfl, rfl⟩
theorem x_has {a : Nat} {f g : Int32} (hk : gm_kd h a = 1) (hf : gm_fv h a 3 = .int f) : gm_Ca E d 103 [.ref a, .int g] h (gx_v (some (.int (if f &&& g = 0 then 0 else 1))) h) := by
  show gm_W E d 103 0 [.ref a, .int g] [] h _
  simp only [r103_0, r103_0n, r103_1, r103_4, r103_5, r103_6, r103_9, r103_10, r103_13, r103_14, i32_10, reduceIte, gm_cmp1, gm_cmp3, gm_cmp4, gm_kd_sf, gm_ln_sf, gm_sf_1, gm_sf_2, gm_nw_1, gm_nw_2, gm_k_int, gm_k_ref, gm_k_null, gm_k_u, gm_k_long, and_true, true_and, true_or, or_true, or_false, false_or, and_self, or_self, if_true, if_false, List.map_nil, List.map_cons, List.sum_nil, List.sum_cons, Nat.zero_le, Option.toList_some, Option.toList_none, List.cons_append, List.nil_append, ne_eq, not_false_eq_true, not_true_eq_false, nI_1, nI_add, Value.category, Nat.reduceAdd, Nat.reduceMod, Nat.reduceLeDiff, Nat.reduceLT, Nat.reduceEqDiff, Nat.reducePow, Nat.le_refl, Nat.add_left_cancel_iff, Nat.add_eq_left, Nat.left_eq_add, Nat.add_zero, hk, hf]
  by_cases h1 : f &&& g = 0 <;> simp [h1, gx_v]
theorem x_isConstant {a : Nat} {f : Int32} (hd : 1 ≤ d) (hk : gm_kd h a = 1) (hf : gm_fv h a 3 = .int f) : gm_Ca E d 104 [.ref a] h (gx_v (some (.int (if f &&& 16 = 0 then 0 else 1))) h) := by
  show gm_W E d 104 0 [.ref a] [] h _
  simp only [r104_0, r104_0n, r104_1, r104_6, i32_10, reduceIte, gm_cmp1, gm_cmp3, gm_cmp4, gm_kd_sf, gm_ln_sf, gm_sf_1, gm_sf_2, gm_nw_1, gm_nw_2, gm_k_int, gm_k_ref, gm_k_null, gm_k_u, gm_k_long, and_true, true_and, true_or, or_true, or_false, false_or, and_self, or_self, if_true, if_false, List.map_nil, List.map_cons, List.sum_nil, List.sum_cons, Nat.zero_le, Option.toList_some, Option.toList_none, List.cons_append, List.nil_append, ne_eq, not_false_eq_true, not_true_eq_false, nI_1, nI_add, Value.category, Nat.reduceAdd, Nat.reduceMod, Nat.reduceLeDiff, Nat.reduceLT, Nat.reduceEqDiff, Nat.reducePow, Nat.le_refl, Nat.add_left_cancel_iff, Nat.add_eq_left, Nat.left_eq_add, Nat.add_zero]
  refine c104_3 (by simp) hk hd (x_has hk hf) (gx_kn ?_) gx_kx
  by_cases h1 : f &&& 16 = 0
  · simp only [r104_0, r104_0n, r104_1, r104_6, i32_10, reduceIte, gm_cmp1, gm_cmp3, gm_cmp4, gm_kd_sf, gm_ln_sf, gm_sf_1, gm_sf_2, gm_nw_1, gm_nw_2, gm_k_int, gm_k_ref, gm_k_null, gm_k_u, gm_k_long, and_true, true_and, true_or, or_true, or_false, false_or, and_self, or_self, if_true, if_false, List.map_nil, List.map_cons, List.sum_nil, List.sum_cons, Nat.zero_le, Option.toList_some, Option.toList_none, List.cons_append, List.nil_append, ne_eq, not_false_eq_true, not_true_eq_false, nI_1, nI_add, Value.category, Nat.reduceAdd, Nat.reduceMod, Nat.reduceLeDiff, Nat.reduceLT, Nat.reduceEqDiff, Nat.reducePow, Nat.le_refl, Nat.add_left_cancel_iff, Nat.add_eq_left, Nat.left_eq_add, Nat.add_zero, h1]; exact ⟨rfl, rfl⟩
  · simp only [r104_0, r104_0n, r104_1, r104_6, i32_10, reduceIte, gm_cmp1, gm_cmp3, gm_cmp4, gm_kd_sf, gm_ln_sf, gm_sf_1, gm_sf_2, gm_nw_1, gm_nw_2, gm_k_int, gm_k_ref, gm_k_null, gm_k_u, gm_k_long, and_true, true_and, true_or, or_true, or_false, false_or, and_self, or_self, if_true, if_false, List.map_nil, List.map_cons, List.sum_nil, List.sum_cons, Nat.zero_le, Option.toList_some, Option.toList_none, List.cons_append, List.nil_append, ne_eq, not_false_eq_true, not_true_eq_false, nI_1, nI_add, Value.category, Nat.reduceAdd, Nat.reduceMod, Nat.reduceLeDiff, Nat.reduceLT, Nat.reduceEqDiff, Nat.reducePow, Nat.le_refl, Nat.add_left_cancel_iff, Nat.add_eq_left, Nat.left_eq_add, Nat.add_zero, h1]; exact ⟨rfl, rfl⟩
def gs_ixi (fs : List (Int32 × Int32)) (v : Int32) : Int32 := match gs_ix fs v with
  | none => -1
  | some j => nI j
theorem x_indexOf {c : Nat} {C : gs_C} {a : Nat} {v : Int32} (q : gx_cl h x ca F c C a) : gm_Ca E d 115 [.ref a, .int v] h (gx_v (some (.int (gs_ixi (gs_fs C) v))) h) := by
  obtain ⟨-, k3, -, -, -, -, p4, p5, p6, -, -, l4, n1, n2, n3, n4, nn⟩ := q
  have loop : ∀ (m k : Nat), k + m = (gs_fs C).length → (∀ j (hj : j < (gs_fs C).length), j < k → ¬ (gs_fs C)[j].1 = v) → gm_W E d 115 2 [.ref a, .int v, .int (nI k)] [] h (gx_v (some (.int (gs_ixi (gs_fs C) v))) h) := by
    intro m
    induction m with
    | zero =>
      intro k hk hn
      have hk : k = (gs_fs C).length := by omega
      subst hk
      simp only [r115_0, r115_1, r115_2, r115_3, r115_3n, r115_4, r115_7, r115_10, r115_10n, r115_11, r115_14, r115_15, r115_16, r115_17, r115_20, r115_21, r115_22, r115_25, r115_28, r115_29, i32_10, reduceIte, gm_cmp1, gm_cmp3, gm_cmp4, gm_kd_sf, gm_ln_sf, gm_sf_1, gm_sf_2, gm_nw_1, gm_nw_2, gm_k_int, gm_k_ref, gm_k_null, gm_k_u, gm_k_long, and_true, true_and, true_or, or_true, or_false, false_or, and_self, or_self, if_true, if_false, List.map_nil, List.map_cons, List.sum_nil, List.sum_cons, Nat.zero_le, Option.toList_some, Option.toList_none, List.cons_append, List.nil_append, ne_eq, not_false_eq_true, not_true_eq_false, nI_1, nI_add, Value.category, Nat.reduceAdd, Nat.reduceMod, Nat.reduceLeDiff, Nat.reduceLT, Nat.reduceEqDiff, Nat.reducePow, Nat.le_refl, Nat.add_left_cancel_iff, Nat.add_eq_left, Nat.left_eq_add, Nat.add_zero, k3, p6, nI_leT (Nat.le_refl (gs_fs C).length) (show (gs_fs C).length < 2 ^ 31 by omega)]
      refine ⟨?_, rfl⟩
      have e : gs_ix (gs_fs C) v = none := by
        unfold gs_ix
        rw [List.findIdx?_eq_none_iff]
        intro q hq
        obtain ⟨j, hj, rfl⟩ := List.getElem_of_mem hq
        simpa using hn j hj hj
      unfold gs_ixi
      rw [e]
    | succ m ih =>
      intro k hk hn
      have hl : k < (gs_fs C).length := by omega
      have hl4 : k < 4 := by omega
      have f1 := (nn k _ (List.getElem?_eq_getElem hl)).1
      rw [r115_2]
      simp only [r115_0, r115_1, r115_3, r115_3n, r115_4, r115_7, r115_10, r115_10n, r115_11, r115_14, r115_15, r115_16, r115_17, r115_20, r115_21, r115_22, r115_25, r115_28, r115_29, i32_10, reduceIte, gm_cmp1, gm_cmp3, gm_cmp4, gm_kd_sf, gm_ln_sf, gm_sf_1, gm_sf_2, gm_nw_1, gm_nw_2, gm_k_int, gm_k_ref, gm_k_null, gm_k_u, gm_k_long, and_true, true_and, true_or, or_true, or_false, false_or, and_self, or_self, if_true, if_false, List.map_nil, List.map_cons, List.sum_nil, List.sum_cons, Nat.zero_le, Option.toList_some, Option.toList_none, List.cons_append, List.nil_append, ne_eq, not_false_eq_true, not_true_eq_false, nI_1, nI_add, Value.category, Nat.reduceAdd, Nat.reduceMod, Nat.reduceLeDiff, Nat.reduceLT, Nat.reduceEqDiff, Nat.reducePow, Nat.le_refl, Nat.add_left_cancel_iff, Nat.add_eq_left, Nat.left_eq_add, Nat.add_zero, k3, p6, nI_leF hl (show (gs_fs C).length < 2 ^ 31 by omega), p4, n1, n2, hl4, f1]
      by_cases hv : (gs_fs C)[k].1 = v
      · simp only [hv, reduceIte]
        refine ⟨?_, rfl⟩
        have e : gs_ix (gs_fs C) v = some k := by
          unfold gs_ix
          rw [List.findIdx?_eq_some_iff_getElem]
          exact ⟨hl, by simpa using hv, fun j hj => by simpa using hn j (by omega) hj⟩
        unfold gs_ixi
        rw [e]
      · simp only [hv, reduceIte]
        refine ih (k + 1) (by omega) (fun j hj hjk => ?_)
        by_cases e : j = k
        · subst e; exact hv
        · exact hn j hj (by omega)
  show gm_W E d 115 0 [.ref a, .int v, gm_u] [] h _
  simp only [r115_0, r115_1, r115_3, r115_3n, r115_4, r115_7, r115_10, r115_10n, r115_11, r115_14, r115_15, r115_16, r115_17, r115_20, r115_21, r115_22, r115_25, r115_28, r115_29, i32_10, reduceIte, gm_cmp1, gm_cmp3, gm_cmp4, gm_kd_sf, gm_ln_sf, gm_sf_1, gm_sf_2, gm_nw_1, gm_nw_2, gm_k_int, gm_k_ref, gm_k_null, gm_k_u, gm_k_long, and_true, true_and, true_or, or_true, or_false, false_or, and_self, or_self, if_true, if_false, List.map_nil, List.map_cons, List.sum_nil, List.sum_cons, Nat.zero_le, Option.toList_some, Option.toList_none, List.cons_append, List.nil_append, ne_eq, not_false_eq_true, not_true_eq_false, nI_1, nI_add, Value.category, Nat.reduceAdd, Nat.reduceMod, Nat.reduceLeDiff, Nat.reduceLT, Nat.reduceEqDiff, Nat.reducePow, Nat.le_refl, Nat.add_left_cancel_iff, Nat.add_eq_left, Nat.left_eq_add, Nat.add_zero]
  exact loop (gs_fs C).length 0 (by omega) (fun j hj z => by omega)
end X5
/-! THE CLASS, 6: chains, slots, fits. -/
section X6
variable {E : Nat → Value} {d x : Nat} {h : gm_H} {ca : Nat → Nat} {K : gs_K} {F G : Nat → Prop} {s : gs_S}
/-- a class that is there -/
theorem gx_C.at {c : Nat} {C : gs_C} (q : gx_C E h x ca K F) (hC : gs_cls K c = some C) : c < 6 ∧ gm_fv h (x + 1) c = .ref (ca c) ∧ gx_cl h x ca F c C (ca c) := by
  have hc := (q.wf c C hC).1
  exact ⟨hc, ((q.2 c hc).2 C hC).1, ((q.2 c hc).2 C hC).2.1⟩
theorem gx_C.inj {c c' : Nat} {C C' : gs_C} (q : gx_C E h x ca K F) (hC : gs_cls K c = some C) (hC' : gs_cls K c' = some C') (e : ca c = ca c') : c = c' := by
  obtain ⟨a1, -, -, -, a2, -⟩ := q.at hC
  obtain ⟨b1, -, -, -, b2, -⟩ := q.at hC'
  rw [e, b2] at a2
  injection a2 with a2
  rw [nI_eq (by omega) (by omega)] at a2
  exact a2.symm
theorem x_chainHas {c : Nat} {C : gs_C} {o : Option Nat} (R : gx_C E h x ca K F) (hC : gs_cls K c = some C) (ho : ∀ c', o = some c' → (gs_cls K c').isSome = true) : gm_Ca E d 117 [.ref (ca c), gx_ow ca o] h (gx_v (some (.int (if gs_inch K o (some c) = true then 1 else 0))) h) := by
  have hw := R.wf
  have loop : ∀ (m : Nat) (u : Option Nat) (w : Value), (∀ c', u = some c' → c' < m ∧ (gs_cls K c').isSome = true) → gm_W E d 117 2 [w, gx_ow ca o, gx_ow ca u] [] h (gx_v (some (.int (if gs_inch K o u = true then 1 else 0))) h) := by
    intro m
    induction m with
    | zero =>
      intro u w hu
      cases u with
      | none =>
        simp only [r117_0, r117_0n, r117_1, r117_1n, r117_2, r117_2n, r117_3n, r117_3, r117_6, r117_6n, r117_7, r117_7n, r117_8, r117_8n, r117_8m, r117_8o, r117_11, r117_12, r117_13, r117_13n, r117_14, r117_17, r117_17n, r117_18, r117_21, r117_22, i32_10, reduceIte, gm_cmp1, gm_cmp3, gm_cmp4, gm_kd_sf, gm_ln_sf, gm_sf_1, gm_sf_2, gm_nw_1, gm_nw_2, gm_k_int, gm_k_ref, gm_k_null, gm_k_u, gm_k_long, and_true, true_and, true_or, or_true, or_false, false_or, and_self, or_self, if_true, if_false, List.map_nil, List.map_cons, List.sum_nil, List.sum_cons, Nat.zero_le, Option.toList_some, Option.toList_none, List.cons_append, List.nil_append, ne_eq, not_false_eq_true, not_true_eq_false, nI_1, nI_add, Value.category, Nat.reduceAdd, Nat.reduceMod, Nat.reduceLeDiff, Nat.reduceLT, Nat.reduceEqDiff, Nat.reducePow, Nat.le_refl, Nat.add_left_cancel_iff, Nat.add_eq_left, Nat.left_eq_add, Nat.add_zero, gx_ow]
        exact ⟨rfl, rfl⟩
      | some c' => exact absurd (hu c' rfl).1 (by omega)
    | succ m ih =>
      intro u w hu
      cases u with
      | none =>
        simp only [r117_0, r117_0n, r117_1, r117_1n, r117_2, r117_2n, r117_3n, r117_3, r117_6, r117_6n, r117_7, r117_7n, r117_8, r117_8n, r117_8m, r117_8o, r117_11, r117_12, r117_13, r117_13n, r117_14, r117_17, r117_17n, r117_18, r117_21, r117_22, i32_10, reduceIte, gm_cmp1, gm_cmp3, gm_cmp4, gm_kd_sf, gm_ln_sf, gm_sf_1, gm_sf_2, gm_nw_1, gm_nw_2, gm_k_int, gm_k_ref, gm_k_null, gm_k_u, gm_k_long, and_true, true_and, true_or, or_true, or_false, false_or, and_self, or_self, if_true, if_false, List.map_nil, List.map_cons, List.sum_nil, List.sum_cons, Nat.zero_le, Option.toList_some, Option.toList_none, List.cons_append, List.nil_append, ne_eq, not_false_eq_true, not_true_eq_false, nI_1, nI_add, Value.category, Nat.reduceAdd, Nat.reduceMod, Nat.reduceLeDiff, Nat.reduceLT, Nat.reduceEqDiff, Nat.reducePow, Nat.le_refl, Nat.add_left_cancel_iff, Nat.add_eq_left, Nat.left_eq_add, Nat.add_zero, gx_ow]
        exact ⟨rfl, rfl⟩
      | some c' =>
        obtain ⟨h1, h2⟩ := hu c' rfl
        obtain ⟨C', hC'⟩ := Option.isSome_iff_exists.mp h2
        obtain ⟨-, -, -, k3, -, -, fs, -⟩ := R.at hC'
        have nx : gm_W E d 117 2 [w, gx_ow ca o, gx_ow ca (gs_sup C')] [] h (gx_v (some (.int (if gs_inch K o (gs_sup C') = true then 1 else 0))) h) := ih (gs_sup C') w (fun c2 e2 => ⟨by have := ((hw c' C' hC').2 c2 e2).1; omega, ((hw c' C' hC').2 c2 e2).2⟩)
        have go : gm_W E d 117 13 [w, gx_ow ca o, .ref (ca c')] [] h (gx_v (some (.int (if gs_inch K o (gs_sup C') = true then 1 else 0))) h) := by
          cases hs : gs_sup C' with
          | none =>
            rw [hs] at fs nx
            have fs : gm_fv h (ca c') 2 = .null := fs
            simp only [r117_0, r117_0n, r117_1, r117_1n, r117_3n, r117_3, r117_6, r117_6n, r117_7, r117_7n, r117_8, r117_8n, r117_8m, r117_8o, r117_11, r117_12, r117_13, r117_13n, r117_14, r117_17, r117_17n, r117_18, r117_21, r117_22, i32_10, reduceIte, gm_cmp1, gm_cmp3, gm_cmp4, gm_kd_sf, gm_ln_sf, gm_sf_1, gm_sf_2, gm_nw_1, gm_nw_2, gm_k_int, gm_k_ref, gm_k_null, gm_k_u, gm_k_long, and_true, true_and, true_or, or_true, or_false, false_or, and_self, or_self, if_true, if_false, List.map_nil, List.map_cons, List.sum_nil, List.sum_cons, Nat.zero_le, Option.toList_some, Option.toList_none, List.cons_append, List.nil_append, ne_eq, not_false_eq_true, not_true_eq_false, nI_1, nI_add, Value.category, Nat.reduceAdd, Nat.reduceMod, Nat.reduceLeDiff, Nat.reduceLT, Nat.reduceEqDiff, Nat.reducePow, Nat.le_refl, Nat.add_left_cancel_iff, Nat.add_eq_left, Nat.left_eq_add, Nat.add_zero, k3, fs]
            cases o <;> exact nx
          | some c2 =>
            rw [hs] at fs nx
            have fs : gm_fv h (ca c') 2 = .ref (ca c2) := fs
            simp only [r117_0, r117_0n, r117_1, r117_1n, r117_3n, r117_3, r117_6, r117_6n, r117_7, r117_7n, r117_8, r117_8n, r117_8m, r117_8o, r117_11, r117_12, r117_13, r117_13n, r117_14, r117_17, r117_17n, r117_18, r117_21, r117_22, i32_10, reduceIte, gm_cmp1, gm_cmp3, gm_cmp4, gm_kd_sf, gm_ln_sf, gm_sf_1, gm_sf_2, gm_nw_1, gm_nw_2, gm_k_int, gm_k_ref, gm_k_null, gm_k_u, gm_k_long, and_true, true_and, true_or, or_true, or_false, false_or, and_self, or_self, if_true, if_false, List.map_nil, List.map_cons, List.sum_nil, List.sum_cons, Nat.zero_le, Option.toList_some, Option.toList_none, List.cons_append, List.nil_append, ne_eq, not_false_eq_true, not_true_eq_false, nI_1, nI_add, Value.category, Nat.reduceAdd, Nat.reduceMod, Nat.reduceLeDiff, Nat.reduceLT, Nat.reduceEqDiff, Nat.reducePow, Nat.le_refl, Nat.add_left_cancel_iff, Nat.add_eq_left, Nat.left_eq_add, Nat.add_zero, k3, fs]
            cases o <;> exact nx
        rw [gs_inch_cons hw hC']
        show gm_W E d 117 2 [w, gx_ow ca o, .ref (ca c')] [] h _
        cases o with
        | none =>
          simp only [r117_0, r117_0n, r117_1, r117_1n, r117_2, r117_2n, r117_3n, r117_3, r117_6, r117_6n, r117_7, r117_7n, r117_8, r117_8n, r117_8m, r117_8o, r117_11, r117_12, r117_14, r117_17, r117_17n, r117_18, r117_21, r117_22, i32_10, reduceIte, gm_cmp1, gm_cmp3, gm_cmp4, gm_kd_sf, gm_ln_sf, gm_sf_1, gm_sf_2, gm_nw_1, gm_nw_2, gm_k_int, gm_k_ref, gm_k_null, gm_k_u, gm_k_long, and_true, true_and, true_or, or_true, or_false, false_or, and_self, or_self, if_true, if_false, List.map_nil, List.map_cons, List.sum_nil, List.sum_cons, Nat.zero_le, Option.toList_some, Option.toList_none, List.cons_append, List.nil_append, ne_eq, not_false_eq_true, not_true_eq_false, nI_1, nI_add, Value.category, Nat.reduceAdd, Nat.reduceMod, Nat.reduceLeDiff, Nat.reduceLT, Nat.reduceEqDiff, Nat.reducePow, Nat.le_refl, Nat.add_left_cancel_iff, Nat.add_eq_left, Nat.left_eq_add, Nat.add_zero, gx_ow] at go ⊢
          simpa using go
        | some c2 =>
          obtain ⟨C2, hC2⟩ := Option.isSome_iff_exists.mp (ho c2 rfl)
          simp only [r117_0, r117_0n, r117_1, r117_1n, r117_2, r117_2n, r117_3n, r117_3, r117_6, r117_6n, r117_7, r117_7n, r117_8, r117_8n, r117_8m, r117_8o, r117_11, r117_12, r117_14, r117_17, r117_17n, r117_18, r117_21, r117_22, i32_10, reduceIte, gm_cmp1, gm_cmp3, gm_cmp4, gm_kd_sf, gm_ln_sf, gm_sf_1, gm_sf_2, gm_nw_1, gm_nw_2, gm_k_int, gm_k_ref, gm_k_null, gm_k_u, gm_k_long, and_true, true_and, true_or, or_true, or_false, false_or, and_self, or_self, if_true, if_false, List.map_nil, List.map_cons, List.sum_nil, List.sum_cons, Nat.zero_le, Option.toList_some, Option.toList_none, List.cons_append, List.nil_append, ne_eq, not_false_eq_true, not_true_eq_false, nI_1, nI_add, Value.category, Nat.reduceAdd, Nat.reduceMod, Nat.reduceLeDiff, Nat.reduceLT, Nat.reduceEqDiff, Nat.reducePow, Nat.le_refl, Nat.add_left_cancel_iff, Nat.add_eq_left, Nat.left_eq_add, Nat.add_zero, gx_ow] at go ⊢
          by_cases e : c' = c2
          · subst e
            simp only [reduceIte]
            exact ⟨by simp, rfl⟩
          · have e' : ca c' ≠ ca c2 := fun z => e (R.inj hC' hC2 z)
            simp only [e', reduceIte]
            have e3 : (some c' == some c2) = false := by simp [e]
            rw [e3, Bool.false_or]
            exact go
  have l := loop 6 (some c) (.ref (ca c)) (fun c' e => by cases e; exact ⟨(hw c C hC).1, by rw [hC]; rfl⟩)
  cases o with
  | none =>
    show gm_W E d 117 0 [.ref (ca c), .null, gm_u] [] h _
    simp only [r117_0, r117_0n, r117_1, r117_1n, r117_3n, r117_3, r117_6, r117_6n, r117_7, r117_7n, r117_8, r117_8n, r117_8m, r117_8o, r117_11, r117_12, r117_13, r117_13n, r117_14, r117_17, r117_17n, r117_18, r117_21, r117_22, i32_10, reduceIte, gm_cmp1, gm_cmp3, gm_cmp4, gm_kd_sf, gm_ln_sf, gm_sf_1, gm_sf_2, gm_nw_1, gm_nw_2, gm_k_int, gm_k_ref, gm_k_null, gm_k_u, gm_k_long, and_true, true_and, true_or, or_true, or_false, false_or, and_self, or_self, if_true, if_false, List.map_nil, List.map_cons, List.sum_nil, List.sum_cons, Nat.zero_le, Option.toList_some, Option.toList_none, List.cons_append, List.nil_append, ne_eq, not_false_eq_true, not_true_eq_false, nI_1, nI_add, Value.category, Nat.reduceAdd, Nat.reduceMod, Nat.reduceLeDiff, Nat.reduceLT, Nat.reduceEqDiff, Nat.reducePow, Nat.le_refl, Nat.add_left_cancel_iff, Nat.add_eq_left, Nat.left_eq_add, Nat.add_zero]
    exact l
  | some c2 =>
    show gm_W E d 117 0 [.ref (ca c), .ref (ca c2), gm_u] [] h _
    simp only [r117_0, r117_0n, r117_1, r117_1n, r117_3n, r117_3, r117_6, r117_6n, r117_7, r117_7n, r117_8, r117_8n, r117_8m, r117_8o, r117_11, r117_12, r117_13, r117_13n, r117_14, r117_17, r117_17n, r117_18, r117_21, r117_22, i32_10, reduceIte, gm_cmp1, gm_cmp3, gm_cmp4, gm_kd_sf, gm_ln_sf, gm_sf_1, gm_sf_2, gm_nw_1, gm_nw_2, gm_k_int, gm_k_ref, gm_k_null, gm_k_u, gm_k_long, and_true, true_and, true_or, or_true, or_false, false_or, and_self, or_self, if_true, if_false, List.map_nil, List.map_cons, List.sum_nil, List.sum_cons, Nat.zero_le, Option.toList_some, Option.toList_none, List.cons_append, List.nil_append, ne_eq, not_false_eq_true, not_true_eq_false, nI_1, nI_add, Value.category, Nat.reduceAdd, Nat.reduceMod, Nat.reduceLeDiff, Nat.reduceLT, Nat.reduceEqDiff, Nat.reducePow, Nat.le_refl, Nat.add_left_cancel_iff, Nat.add_eq_left, Nat.left_eq_add, Nat.add_zero]
    exact l
theorem gx_C.le4 {c : Nat} {C : gs_C} (R : gx_C E h x ca K F) (hC : gs_cls K c = some C) : (gs_fs C).length ≤ 4 := by
  obtain ⟨-, -, -, -, -, -, -, -, -, -, -, -, -, l4, -⟩ := R.at hC
  exact l4
theorem gx_C.slots {o : Option Nat} (R : gx_C E h x ca K F) : gs_slots K o ≤ 24 := by
  by_cases ho : ∀ c, o = some c → c < 6
  · exact gs_slots_le R.wf (fun c C hC => R.le4 hC) 6 o ho
  · have : ∃ c, o = some c ∧ ¬ c < 6 := Classical.byContradiction fun z => ho (fun c e => Classical.byContradiction fun w => z ⟨c, e, w⟩)
    obtain ⟨c, rfl, hc⟩ := this
    have hn := R.1.2 c (by omega)
    have : gs_slots K (some c) = 0 := by
      unfold gs_slots gs_chain
      rw [show (6 : Nat) = 5 + 1 from rfl]
      unfold gs_up
      rw [hn]
      rfl
    omega
theorem x_slotCount {c : Nat} {C : gs_C} (R : gx_C E h x ca K F) (hC : gs_cls K c = some C) : gm_Ca E d 119 [.ref (ca c)] h (gx_v (some (.int (nI (gs_slots K (some c))))) h) := by
  have hw := R.wf
  have loop : ∀ (m : Nat) (u : Option Nat) (n : Nat), (∀ c', u = some c' → c' < m ∧ (gs_cls K c').isSome = true) → gm_W E d 119 4 [.ref (ca c), .int (nI n), gx_ow ca u] [] h (gx_v (some (.int (nI (n + gs_slots K u)))) h) := by
    intro m
    induction m with
    | zero =>
      intro u n hu
      cases u with
      | none =>
        simp only [r119_0, r119_1, r119_2, r119_2n, r119_3, r119_3n, r119_4, r119_4n, r119_5n, r119_5, r119_8, r119_9, r119_9n, r119_10, r119_13, r119_14, r119_15, r119_15n, r119_16, r119_19, r119_19n, r119_20, r119_23, r119_24, i32_10, reduceIte, gm_cmp1, gm_cmp3, gm_cmp4, gm_kd_sf, gm_ln_sf, gm_sf_1, gm_sf_2, gm_nw_1, gm_nw_2, gm_k_int, gm_k_ref, gm_k_null, gm_k_u, gm_k_long, and_true, true_and, true_or, or_true, or_false, false_or, and_self, or_self, if_true, if_false, List.map_nil, List.map_cons, List.sum_nil, List.sum_cons, Nat.zero_le, Option.toList_some, Option.toList_none, List.cons_append, List.nil_append, ne_eq, not_false_eq_true, not_true_eq_false, nI_1, nI_add, Value.category, Nat.reduceAdd, Nat.reduceMod, Nat.reduceLeDiff, Nat.reduceLT, Nat.reduceEqDiff, Nat.reducePow, Nat.le_refl, Nat.add_left_cancel_iff, Nat.add_eq_left, Nat.left_eq_add, Nat.add_zero, gx_ow]
        exact ⟨rfl, rfl⟩
      | some c' => exact absurd (hu c' rfl).1 (by omega)
    | succ m ih =>
      intro u n hu
      cases u with
      | none =>
        simp only [r119_0, r119_1, r119_2, r119_2n, r119_3, r119_3n, r119_4, r119_4n, r119_5n, r119_5, r119_8, r119_9, r119_9n, r119_10, r119_13, r119_14, r119_15, r119_15n, r119_16, r119_19, r119_19n, r119_20, r119_23, r119_24, i32_10, reduceIte, gm_cmp1, gm_cmp3, gm_cmp4, gm_kd_sf, gm_ln_sf, gm_sf_1, gm_sf_2, gm_nw_1, gm_nw_2, gm_k_int, gm_k_ref, gm_k_null, gm_k_u, gm_k_long, and_true, true_and, true_or, or_true, or_false, false_or, and_self, or_self, if_true, if_false, List.map_nil, List.map_cons, List.sum_nil, List.sum_cons, Nat.zero_le, Option.toList_some, Option.toList_none, List.cons_append, List.nil_append, ne_eq, not_false_eq_true, not_true_eq_false, nI_1, nI_add, Value.category, Nat.reduceAdd, Nat.reduceMod, Nat.reduceLeDiff, Nat.reduceLT, Nat.reduceEqDiff, Nat.reducePow, Nat.le_refl, Nat.add_left_cancel_iff, Nat.add_eq_left, Nat.left_eq_add, Nat.add_zero, gx_ow]
        exact ⟨rfl, rfl⟩
      | some c' =>
        obtain ⟨h1, h2⟩ := hu c' rfl
        obtain ⟨C', hC'⟩ := Option.isSome_iff_exists.mp h2
        obtain ⟨-, -, -, k3, -, -, fs, -, -, -, f6, -⟩ := R.at hC'
        have nx := ih (gs_sup C') (n + (gs_fs C').length) (fun c2 e2 => ⟨by have := ((hw c' C' hC').2 c2 e2).1; omega, ((hw c' C' hC').2 c2 e2).2⟩)
        rw [gs_slots_cons hw hC', ← Nat.add_assoc]
        show gm_W E d 119 4 [.ref (ca c), .int (nI n), .ref (ca c')] [] h _
        rw [r119_4]
        cases hs : gs_sup C' with
        | none =>
          rw [hs] at fs nx
          have fs : gm_fv h (ca c') 2 = .null := fs
          unfold gs_first
          rw [hs]
          simp only [r119_0, r119_1, r119_2, r119_2n, r119_3, r119_3n, r119_5n, r119_5, r119_8, r119_9, r119_9n, r119_10, r119_13, r119_14, r119_15, r119_15n, r119_16, r119_19, r119_19n, r119_20, r119_23, r119_24, i32_10, reduceIte, gm_cmp1, gm_cmp3, gm_cmp4, gm_kd_sf, gm_ln_sf, gm_sf_1, gm_sf_2, gm_nw_1, gm_nw_2, gm_k_int, gm_k_ref, gm_k_null, gm_k_u, gm_k_long, and_true, true_and, true_or, or_true, or_false, false_or, and_self, or_self, if_true, if_false, List.map_nil, List.map_cons, List.sum_nil, List.sum_cons, Nat.zero_le, Option.toList_some, Option.toList_none, List.cons_append, List.nil_append, ne_eq, not_false_eq_true, not_true_eq_false, nI_1, nI_add, Value.category, Nat.reduceAdd, Nat.reduceMod, Nat.reduceLeDiff, Nat.reduceLT, Nat.reduceEqDiff, Nat.reducePow, Nat.le_refl, Nat.add_left_cancel_iff, Nat.add_eq_left, Nat.left_eq_add, Nat.add_zero, k3, fs, f6]
          exact nx
        | some c2 =>
          rw [hs] at fs nx
          have fs : gm_fv h (ca c') 2 = .ref (ca c2) := fs
          unfold gs_first
          rw [hs]
          simp only [r119_0, r119_1, r119_2, r119_2n, r119_3, r119_3n, r119_5n, r119_5, r119_8, r119_9, r119_9n, r119_10, r119_13, r119_14, r119_15, r119_15n, r119_16, r119_19, r119_19n, r119_20, r119_23, r119_24, i32_10, reduceIte, gm_cmp1, gm_cmp3, gm_cmp4, gm_kd_sf, gm_ln_sf, gm_sf_1, gm_sf_2, gm_nw_1, gm_nw_2, gm_k_int, gm_k_ref, gm_k_null, gm_k_u, gm_k_long, and_true, true_and, true_or, or_true, or_false, false_or, and_self, or_self, if_true, if_false, List.map_nil, List.map_cons, List.sum_nil, List.sum_cons, Nat.zero_le, Option.toList_some, Option.toList_none, List.cons_append, List.nil_append, ne_eq, not_false_eq_true, not_true_eq_false, nI_1, nI_add, Value.category, Nat.reduceAdd, Nat.reduceMod, Nat.reduceLeDiff, Nat.reduceLT, Nat.reduceEqDiff, Nat.reducePow, Nat.le_refl, Nat.add_left_cancel_iff, Nat.add_eq_left, Nat.left_eq_add, Nat.add_zero, k3, fs, f6]
          exact nx
  have l := loop 6 (some c) 0 (fun c' e => by cases e; exact ⟨(hw c C hC).1, by rw [hC]; rfl⟩)
  rw [Nat.zero_add] at l
  show gm_W E d 119 0 [.ref (ca c), gm_u, gm_u] [] h _
  simp only [r119_0, r119_1, r119_2, r119_2n, r119_3, r119_3n, r119_5n, r119_5, r119_8, r119_9, r119_9n, r119_10, r119_13, r119_14, r119_15, r119_15n, r119_16, r119_19, r119_19n, r119_20, r119_23, r119_24, i32_10, reduceIte, gm_cmp1, gm_cmp3, gm_cmp4, gm_kd_sf, gm_ln_sf, gm_sf_1, gm_sf_2, gm_nw_1, gm_nw_2, gm_k_int, gm_k_ref, gm_k_null, gm_k_u, gm_k_long, and_true, true_and, true_or, or_true, or_false, false_or, and_self, or_self, if_true, if_false, List.map_nil, List.map_cons, List.sum_nil, List.sum_cons, Nat.zero_le, Option.toList_some, Option.toList_none, List.cons_append, List.nil_append, ne_eq, not_false_eq_true, not_true_eq_false, nI_1, nI_add, Value.category, Nat.reduceAdd, Nat.reduceMod, Nat.reduceLeDiff, Nat.reduceLT, Nat.reduceEqDiff, Nat.reducePow, Nat.le_refl, Nat.add_left_cancel_iff, Nat.add_eq_left, Nat.left_eq_add, Nat.add_zero]
  exact l
theorem x_firstSlot {c : Nat} {C : gs_C} (hd : 1 ≤ d) (R : gx_C E h x ca K F) (hC : gs_cls K c = some C) : gm_Ca E d 118 [.ref (ca c)] h (gx_v (some (.int (nI (gs_first K C)))) h) := by
  show gm_W E d 118 0 [.ref (ca c)] [] h _
  obtain ⟨-, -, -, k3, -, -, fs, -⟩ := R.at hC
  cases hs : gs_sup C with
  | none =>
    rw [hs] at fs
    have fs : gm_fv h (ca c) 2 = .null := fs
    unfold gs_first
    rw [hs]
    simp only [r118_0, r118_0n, r118_1, r118_4n, r118_4, r118_7, r118_8, r118_11, r118_11n, r118_12, r118_18, i32_10, reduceIte, gm_cmp1, gm_cmp3, gm_cmp4, gm_kd_sf, gm_ln_sf, gm_sf_1, gm_sf_2, gm_nw_1, gm_nw_2, gm_k_int, gm_k_ref, gm_k_null, gm_k_u, gm_k_long, and_true, true_and, true_or, or_true, or_false, false_or, and_self, or_self, if_true, if_false, List.map_nil, List.map_cons, List.sum_nil, List.sum_cons, Nat.zero_le, Option.toList_some, Option.toList_none, List.cons_append, List.nil_append, ne_eq, not_false_eq_true, not_true_eq_false, nI_1, nI_add, Value.category, Nat.reduceAdd, Nat.reduceMod, Nat.reduceLeDiff, Nat.reduceLT, Nat.reduceEqDiff, Nat.reducePow, Nat.le_refl, Nat.add_left_cancel_iff, Nat.add_eq_left, Nat.left_eq_add, Nat.add_zero, k3, fs]
    exact ⟨rfl, rfl⟩
  | some c2 =>
    rw [hs] at fs
    have fs : gm_fv h (ca c) 2 = .ref (ca c2) := fs
    obtain ⟨C2, hC2⟩ := Option.isSome_iff_exists.mp ((R.wf c C hC).2 c2 hs).2
    obtain ⟨-, -, -, k32, -⟩ := R.at hC2
    unfold gs_first
    rw [hs]
    simp only [r118_0, r118_0n, r118_1, r118_4n, r118_4, r118_7, r118_8, r118_11, r118_11n, r118_12, r118_18, i32_10, reduceIte, gm_cmp1, gm_cmp3, gm_cmp4, gm_kd_sf, gm_ln_sf, gm_sf_1, gm_sf_2, gm_nw_1, gm_nw_2, gm_k_int, gm_k_ref, gm_k_null, gm_k_u, gm_k_long, and_true, true_and, true_or, or_true, or_false, false_or, and_self, or_self, if_true, if_false, List.map_nil, List.map_cons, List.sum_nil, List.sum_cons, Nat.zero_le, Option.toList_some, Option.toList_none, List.cons_append, List.nil_append, ne_eq, not_false_eq_true, not_true_eq_false, nI_1, nI_add, Value.category, Nat.reduceAdd, Nat.reduceMod, Nat.reduceLeDiff, Nat.reduceLT, Nat.reduceEqDiff, Nat.reducePow, Nat.le_refl, Nat.add_left_cancel_iff, Nat.add_eq_left, Nat.left_eq_add, Nat.add_zero, k3, fs]
    refine c118_15 (by simp) k32 hd (x_slotCount R hC2) (gx_kn ?_) gx_kx
    simp only [r118_0, r118_0n, r118_1, r118_4n, r118_4, r118_7, r118_8, r118_11, r118_11n, r118_12, r118_18, i32_10, reduceIte, gm_cmp1, gm_cmp3, gm_cmp4, gm_kd_sf, gm_ln_sf, gm_sf_1, gm_sf_2, gm_nw_1, gm_nw_2, gm_k_int, gm_k_ref, gm_k_null, gm_k_u, gm_k_long, and_true, true_and, true_or, or_true, or_false, false_or, and_self, or_self, if_true, if_false, List.map_nil, List.map_cons, List.sum_nil, List.sum_cons, Nat.zero_le, Option.toList_some, Option.toList_none, List.cons_append, List.nil_append, ne_eq, not_false_eq_true, not_true_eq_false, nI_1, nI_add, Value.category, Nat.reduceAdd, Nat.reduceMod, Nat.reduceLeDiff, Nat.reduceLT, Nat.reduceEqDiff, Nat.reducePow, Nat.le_refl, Nat.add_left_cancel_iff, Nat.add_eq_left, Nat.left_eq_add, Nat.add_zero]
    exact ⟨rfl, rfl⟩
theorem gs_ix_lt {fs : List (Int32 × Int32)} {v : Int32} {j : Nat} (e : gs_ix fs v = some j) : j < fs.length := by
  unfold gs_ix at e
  rw [List.findIdx?_eq_some_iff_getElem] at e
  exact e.1
def gs_sloti (K : gs_K) (C : gs_C) (v t : Int32) : Int32 := match gs_ix (gs_fs C) v with
  | none => -1
  | some j => if ((gs_fs C).getD j (0, 0)).2 = t then nI (gs_first K C + j) else -1
theorem x_slotOf {c : Nat} {C : gs_C} {v t : Int32} (hd : 2 ≤ d) (R : gx_C E h x ca K F) (hC : gs_cls K c = some C) : gm_Ca E d 120 [.ref (ca c), .int v, .int t] h (gx_v (some (.int (gs_sloti K C v t))) h) := by
  show gm_W E d 120 0 [.ref (ca c), .int v, .int t, gm_u] [] h _
  obtain ⟨hc6, -, q⟩ := R.at hC
  have q' := q
  obtain ⟨-, k3, -, -, -, -, p4, p5, p6, -, -, l4, n1, n2, n3, n4, nn⟩ := q'
  simp only [r120_0, r120_0n, r120_1, r120_5, r120_6, r120_7, r120_10, r120_10n, r120_11, r120_14, r120_15, r120_16, r120_17, r120_20, r120_20n, r120_24, r120_25, r120_26, r120_29, r120_30, i32_10, reduceIte, gm_cmp1, gm_cmp3, gm_cmp4, gm_kd_sf, gm_ln_sf, gm_sf_1, gm_sf_2, gm_nw_1, gm_nw_2, gm_k_int, gm_k_ref, gm_k_null, gm_k_u, gm_k_long, and_true, true_and, true_or, or_true, or_false, false_or, and_self, or_self, if_true, if_false, List.map_nil, List.map_cons, List.sum_nil, List.sum_cons, Nat.zero_le, Option.toList_some, Option.toList_none, List.cons_append, List.nil_append, ne_eq, not_false_eq_true, not_true_eq_false, nI_1, nI_add, Value.category, Nat.reduceAdd, Nat.reduceMod, Nat.reduceLeDiff, Nat.reduceLT, Nat.reduceEqDiff, Nat.reducePow, Nat.le_refl, Nat.add_left_cancel_iff, Nat.add_eq_left, Nat.left_eq_add, Nat.add_zero]
  refine c120_2 (by simp) k3 (by omega) (x_indexOf q) (gx_kn ?_) gx_kx
  unfold gs_sloti gs_ixi
  cases e : gs_ix (gs_fs C) v with
  | none =>
    have m1 : (-1 : Int32) < 0 := by decide
    simp only [r120_0, r120_0n, r120_1, r120_5, r120_6, r120_7, r120_10, r120_10n, r120_11, r120_14, r120_15, r120_16, r120_17, r120_20, r120_20n, r120_24, r120_25, r120_26, r120_29, r120_30, i32_10, reduceIte, gm_cmp1, gm_cmp3, gm_cmp4, gm_kd_sf, gm_ln_sf, gm_sf_1, gm_sf_2, gm_nw_1, gm_nw_2, gm_k_int, gm_k_ref, gm_k_null, gm_k_u, gm_k_long, and_true, true_and, true_or, or_true, or_false, false_or, and_self, or_self, if_true, if_false, List.map_nil, List.map_cons, List.sum_nil, List.sum_cons, Nat.zero_le, Option.toList_some, Option.toList_none, List.cons_append, List.nil_append, ne_eq, not_false_eq_true, not_true_eq_false, nI_1, nI_add, Value.category, Nat.reduceAdd, Nat.reduceMod, Nat.reduceLeDiff, Nat.reduceLT, Nat.reduceEqDiff, Nat.reducePow, Nat.le_refl, Nat.add_left_cancel_iff, Nat.add_eq_left, Nat.left_eq_add, Nat.add_zero, m1]
    exact ⟨rfl, rfl⟩
  | some j =>
    have hj := gs_ix_lt e
    have hj4 : j < 4 := by omega
    have f2 := (nn j _ (List.getElem?_eq_getElem hj)).2
    have eg : (gs_fs C).getD j (0, 0) = (gs_fs C)[j] := by simp [List.getD, hj]
    simp only [r120_0, r120_0n, r120_1, r120_5, r120_6, r120_7, r120_10, r120_10n, r120_11, r120_14, r120_15, r120_16, r120_17, r120_20, r120_20n, r120_24, r120_25, r120_26, r120_29, r120_30, i32_10, reduceIte, gm_cmp1, gm_cmp3, gm_cmp4, gm_kd_sf, gm_ln_sf, gm_sf_1, gm_sf_2, gm_nw_1, gm_nw_2, gm_k_int, gm_k_ref, gm_k_null, gm_k_u, gm_k_long, and_true, true_and, true_or, or_true, or_false, false_or, and_self, or_self, if_true, if_false, List.map_nil, List.map_cons, List.sum_nil, List.sum_cons, Nat.zero_le, Option.toList_some, Option.toList_none, List.cons_append, List.nil_append, ne_eq, not_false_eq_true, not_true_eq_false, nI_1, nI_add, Value.category, Nat.reduceAdd, Nat.reduceMod, Nat.reduceLeDiff, Nat.reduceLT, Nat.reduceEqDiff, Nat.reducePow, Nat.le_refl, Nat.add_left_cancel_iff, Nat.add_eq_left, Nat.left_eq_add, Nat.add_zero, nI_pos (show j < 2 ^ 31 by omega), k3, p5, n3, n4, hj4, f2, eg]
    by_cases ht : (gs_fs C)[j].2 = t
    · simp only [ht, reduceIte]
      refine c120_21 (by simp) k3 (by omega) (x_firstSlot (by omega) R hC) (gx_kn ?_) gx_kx
      simp only [r120_0, r120_0n, r120_1, r120_5, r120_6, r120_7, r120_10, r120_10n, r120_11, r120_14, r120_15, r120_16, r120_17, r120_20, r120_20n, r120_24, r120_25, r120_26, r120_29, r120_30, i32_10, reduceIte, gm_cmp1, gm_cmp3, gm_cmp4, gm_kd_sf, gm_ln_sf, gm_sf_1, gm_sf_2, gm_nw_1, gm_nw_2, gm_k_int, gm_k_ref, gm_k_null, gm_k_u, gm_k_long, and_true, true_and, true_or, or_true, or_false, false_or, and_self, or_self, if_true, if_false, List.map_nil, List.map_cons, List.sum_nil, List.sum_cons, Nat.zero_le, Option.toList_some, Option.toList_none, List.cons_append, List.nil_append, ne_eq, not_false_eq_true, not_true_eq_false, nI_1, nI_add, Value.category, Nat.reduceAdd, Nat.reduceMod, Nat.reduceLeDiff, Nat.reduceLT, Nat.reduceEqDiff, Nat.reducePow, Nat.le_refl, Nat.add_left_cancel_iff, Nat.add_eq_left, Nat.left_eq_add, Nat.add_zero]
      exact ⟨rfl, rfl⟩
    · simp only [ht, reduceIte]
      exact ⟨rfl, rfl⟩
def gs_v0i (C : gs_C) (t : Int32) : Int32 := if 6 ≤ t then -2 else if gs_kind C ≠ 0 then 0 else if t = 5 then 1 else 7
theorem gs_v0i_64 {C : gs_C} {t : Int32} : (gs_v0i C t).toInt64 = gs_v0 C t := by
  unfold gs_v0i gs_v0
  split
  · rfl
  · split
    · rfl
    · split <;> rfl
theorem x_valueAtFirst {c a : Nat} {C : gs_C} {t : Int32} (q : gx_cl h x ca F c C a) : gm_Ca E d 122 [.ref a, .int t] h (gx_v (some (.int (gs_v0i C t))) h) := by
  show gm_W E d 122 0 [.ref a, .int t] [] h _
  obtain ⟨-, k3, -, fk, -⟩ := q
  unfold gs_v0i
  by_cases h1 : 6 ≤ t
  · have h2 : ¬ t < 6 := Int32.not_lt.mpr h1
    simp only [r122_0, r122_1, r122_3, r122_6, r122_8, r122_9, r122_9n, r122_10, r122_13, r122_16, r122_17, r122_18, r122_19, r122_20, r122_23, r122_24, r122_27, r122_29, i32_10, reduceIte, gm_cmp1, gm_cmp3, gm_cmp4, gm_kd_sf, gm_ln_sf, gm_sf_1, gm_sf_2, gm_nw_1, gm_nw_2, gm_k_int, gm_k_ref, gm_k_null, gm_k_u, gm_k_long, and_true, true_and, true_or, or_true, or_false, false_or, and_self, or_self, if_true, if_false, List.map_nil, List.map_cons, List.sum_nil, List.sum_cons, Nat.zero_le, Option.toList_some, Option.toList_none, List.cons_append, List.nil_append, ne_eq, not_false_eq_true, not_true_eq_false, nI_1, nI_add, Value.category, Nat.reduceAdd, Nat.reduceMod, Nat.reduceLeDiff, Nat.reduceLT, Nat.reduceEqDiff, Nat.reducePow, Nat.le_refl, Nat.add_left_cancel_iff, Nat.add_eq_left, Nat.left_eq_add, Nat.add_zero, h1, h2]
    exact ⟨rfl, rfl⟩
  · have h2 : t < 6 := Int32.not_le.mp h1
    by_cases h3 : gs_kind C = 0
    · by_cases h4 : t = 5
      · simp only [r122_0, r122_1, r122_3, r122_6, r122_8, r122_9, r122_9n, r122_10, r122_13, r122_16, r122_17, r122_18, r122_19, r122_20, r122_23, r122_24, r122_27, r122_29, i32_10, reduceIte, gm_cmp1, gm_cmp3, gm_cmp4, gm_kd_sf, gm_ln_sf, gm_sf_1, gm_sf_2, gm_nw_1, gm_nw_2, gm_k_int, gm_k_ref, gm_k_null, gm_k_u, gm_k_long, and_true, true_and, true_or, or_true, or_false, false_or, and_self, or_self, if_true, if_false, List.map_nil, List.map_cons, List.sum_nil, List.sum_cons, Nat.zero_le, Option.toList_some, Option.toList_none, List.cons_append, List.nil_append, ne_eq, not_false_eq_true, not_true_eq_false, nI_1, nI_add, Value.category, Nat.reduceAdd, Nat.reduceMod, Nat.reduceLeDiff, Nat.reduceLT, Nat.reduceEqDiff, Nat.reducePow, Nat.le_refl, Nat.add_left_cancel_iff, Nat.add_eq_left, Nat.left_eq_add, Nat.add_zero, h1, h2, k3, fk, h3, h4]
        exact ⟨rfl, rfl⟩
      · simp only [r122_0, r122_1, r122_3, r122_6, r122_8, r122_9, r122_9n, r122_10, r122_13, r122_16, r122_17, r122_18, r122_19, r122_20, r122_23, r122_24, r122_27, r122_29, i32_10, reduceIte, gm_cmp1, gm_cmp3, gm_cmp4, gm_kd_sf, gm_ln_sf, gm_sf_1, gm_sf_2, gm_nw_1, gm_nw_2, gm_k_int, gm_k_ref, gm_k_null, gm_k_u, gm_k_long, and_true, true_and, true_or, or_true, or_false, false_or, and_self, or_self, if_true, if_false, List.map_nil, List.map_cons, List.sum_nil, List.sum_cons, Nat.zero_le, Option.toList_some, Option.toList_none, List.cons_append, List.nil_append, ne_eq, not_false_eq_true, not_true_eq_false, nI_1, nI_add, Value.category, Nat.reduceAdd, Nat.reduceMod, Nat.reduceLeDiff, Nat.reduceLT, Nat.reduceEqDiff, Nat.reducePow, Nat.le_refl, Nat.add_left_cancel_iff, Nat.add_eq_left, Nat.left_eq_add, Nat.add_zero, h1, h2, k3, fk, h3, h4]
        exact ⟨rfl, rfl⟩
    · simp only [r122_0, r122_1, r122_3, r122_6, r122_8, r122_9, r122_9n, r122_10, r122_13, r122_16, r122_17, r122_18, r122_19, r122_20, r122_23, r122_24, r122_27, r122_29, i32_10, reduceIte, gm_cmp1, gm_cmp3, gm_cmp4, gm_kd_sf, gm_ln_sf, gm_sf_1, gm_sf_2, gm_nw_1, gm_nw_2, gm_k_int, gm_k_ref, gm_k_null, gm_k_u, gm_k_long, and_true, true_and, true_or, or_true, or_false, false_or, and_self, or_self, if_true, if_false, List.map_nil, List.map_cons, List.sum_nil, List.sum_cons, Nat.zero_le, Option.toList_some, Option.toList_none, List.cons_append, List.nil_append, ne_eq, not_false_eq_true, not_true_eq_false, nI_1, nI_add, Value.category, Nat.reduceAdd, Nat.reduceMod, Nat.reduceLeDiff, Nat.reduceLT, Nat.reduceEqDiff, Nat.reducePow, Nat.le_refl, Nat.add_left_cancel_iff, Nat.add_eq_left, Nat.left_eq_add, Nat.add_zero, h1, h2, k3, fk, h3]
      exact ⟨rfl, rfl⟩
end X6
