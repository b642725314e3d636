/-! THE READER, plainly: what a read does to place, heap and handles (after the document and the class's own order). -/
/-- a local class: kind, superclass, id, fields (name, type), barred, constants -/
abbrev gs_C : Type := Int32 × Option Nat × Int64 × List (Int32 × Int32) × Bool × Int32
def gs_kind (c : gs_C) : Int32 := c.1
def gs_sup (c : gs_C) : Option Nat := c.2.1
def gs_cid (c : gs_C) : Int64 := c.2.2.1
def gs_fs (c : gs_C) : List (Int32 × Int32) := c.2.2.2.1
def gs_bar (c : gs_C) : Bool := c.2.2.2.2.1
def gs_con (c : gs_C) : Int32 := c.2.2.2.2.2
/-- what a read leaves alone: limits (depth, handles, length, bytes), classes, the bytes, how many -/
abbrev gs_K : Type := (Int32 × Int32 × Int32 × Int32) × (Nat → Option gs_C) × (Nat → UInt8) × Nat × Bool × Int64
def gs_cls (K : gs_K) : Nat → Option gs_C := K.2.1
def gs_by (K : gs_K) : Nat → UInt8 := K.2.2.1
def gs_n (K : gs_K) : Nat := K.2.2.2.1
/-- what a rest does where no byte is left: begins a read (true), or ends at once -/
def gs_rst (K : gs_K) : Bool := K.2.2.2.2.1
/-- what stands at first in an array of references -/
def gs_fill (K : gs_K) : Int64 := K.2.2.2.2.2
/-- a descriptor's own level: where its name begins, its length, id, flags, fields (name, type), local class -/
abbrev gs_L : Type := Nat × Nat × Int64 × Int32 × List (Int32 × Int32) × Option Nat
def gs_nf (l : gs_L) : Nat := l.1
def gs_nl (l : gs_L) : Nat := l.2.1
def gs_did (l : gs_L) : Int64 := l.2.2.1
def gs_fl (l : gs_L) : Int32 := l.2.2.2.1
def gs_df (l : gs_L) : List (Int32 × Int32) := l.2.2.2.2.1
def gs_own (l : gs_L) : Option Nat := l.2.2.2.2.2
/-- an object: sort, class, values, name, extra -/
abbrev gs_O : Type := Int32 × Option Nat × List Int64 × Int32 × Int32
/-- place, heap, handles (the object's number, -2 null, -1 none; the descriptor and those above it), the first of them that counts -/
abbrev gs_S : Type := Nat × List gs_O × List (Int32 × List gs_L) × Nat
def gs_pl (s : gs_S) : Nat := s.1
def gs_hp (s : gs_S) : List gs_O := s.2.1
def gs_hs (s : gs_S) : List (Int32 × List gs_L) := s.2.2.1
def gs_f1 (s : gs_S) : Nat := s.2.2.2
abbrev gs_M (α : Type) : Type := gs_S → Except Int32 (α × gs_S)
def gs_b {α β : Type} (m : gs_M α) (f : α → gs_M β) : gs_M β := fun s => match m s with
  | .error e => .error e
  | .ok q => f q.1 q.2
def gs_r {α : Type} (a : α) : gs_M α := fun s => .ok (a, s)
def gs_x {α : Type} (e : Int32) : gs_M α := fun _ => .error e
def gs_g : gs_M gs_S := fun s => .ok (s, s)
def gs_p (k : Nat) (s : gs_S) : gs_S := (k, s.2)
/-- a byte with its sign; without -/
def gs_sb (K : gs_K) (i : Nat) : Int32 := (gs_by K i).toInt8.toInt32
def gs_ub (K : gs_K) (i : Nat) : Int64 := (gs_sb K i &&& 255).toInt64
def gs_num (K : gs_K) (a : Nat) : Nat → Int64
  | 0 => 0
  | k + 1 => gs_num K a k <<< 8 ||| gs_ub K (a + k)
def gs_nxt (K : gs_K) (k : Nat) : gs_M Int64 := fun s => if gs_n K - gs_pl s < k then .error (-3) else .ok (gs_num K (gs_pl s) k, gs_p (gs_pl s + k) s)
def gs_u1 (K : gs_K) : gs_M Int32 := gs_b (gs_nxt K 1) fun v => gs_r v.toInt32
def gs_u4 (K : gs_K) : gs_M Int32 := gs_b (gs_nxt K 4) fun v => gs_r v.toInt32
/-- so many signs -/
def gs_sgn (K : gs_K) : Nat → gs_M Unit
  | 0 => gs_r ()
  | k + 1 => fun s => if gs_n K ≤ gs_pl s then .error (-3) else if gs_sb K (gs_pl s) ≤ 0 then .error (-4) else gs_sgn K k (gs_p (gs_pl s + 1) s)
/-- a UTF: where its signs begin -/
def gs_utf (K : gs_K) : gs_M Nat := gs_b (gs_nxt K 2) fun v => gs_b gs_g fun s => gs_b (gs_sgn K v.toInt32.toNatClampNeg) fun _ => gs_r (gs_pl s)
def gs_spelt (K : gs_K) (a n : Nat) (t : List Int32) : Bool := decide (n = t.length) && (List.range n).all fun k => gs_sb K (a + k) == t.getD k 0
def gs_let (K : gs_K) (a n : Nat) (f m : Int32) : Int32 := if n = 1 then (if gs_sb K a - f < m then gs_sb K a - f else -1) else -1
def gs_isB (t : Int32) : Bool := t == 119 || t == 122
def gs_blk (K : gs_K) : gs_M Int32 := gs_b (gs_u1 K) fun t => gs_b (if t = 119 then gs_u1 K else gs_u4 K) fun n => fun s =>
  if n < 0 then .error (-4) else if gs_n K - gs_pl s < n.toNatClampNeg then .error (-3) else .ok (n, gs_p (gs_pl s + n.toNatClampNeg) s)
/-- the rest, with a read one deeper -/
def gs_rest (K : gs_K) (rc : gs_M Int32) : Nat → gs_M Unit
  | 0 => gs_r ()
  | k + 1 => fun s =>
    if gs_n K ≤ gs_pl s then (if gs_rst K = true then gs_b rc (fun _ => gs_rest K rc k) s else .error (-3))
    else if gs_sb K (gs_pl s) = 120 then .ok ((), gs_p (gs_pl s + 1) s)
    else if gs_isB (gs_sb K (gs_pl s)) = true then gs_b (gs_blk K) (fun _ => gs_rest K rc k) s
    else gs_b rc (fun _ => gs_rest K rc k) s
def gs_addT (o : gs_O) : gs_M Nat := fun s => if 234 ≤ (gs_hp s).length then .error (-8) else .ok ((gs_hp s).length, (s.1, gs_hp s ++ [o], s.2.2))
def gs_addE (v : Int32) : gs_M Nat := fun s => if 234 ≤ (gs_hs s).length then .error (-8) else .ok ((gs_hs s).length, (s.1, s.2.1, gs_hs s ++ [(v, [])], gs_f1 s))
def gs_setE (e : Nat) (v : Int32) : gs_M Unit := fun s => .ok ((), (s.1, s.2.1, (gs_hs s).modify e (fun q => (v, q.2)), gs_f1 s))
def gs_setD (e : Nat) (L : List gs_L) : gs_M Unit := fun s => .ok ((), (s.1, s.2.1, (gs_hs s).modify e (fun q => (q.1, L)), gs_f1 s))
/-- an object changed -/
def gs_mod (o : Nat) (f : gs_O → gs_O) : gs_M Unit := fun s => .ok ((), (s.1, (gs_hp s).modify o f, s.2.2))
def gs_size (s : gs_S) : Nat := (gs_hs s).length - gs_f1 s
def gs_room (d : Nat) : gs_M Unit := fun s => if 8 < d ∨ 60 < gs_size s then .error (-8) else .ok ((), s)
def gs_lim (K : gs_K) (l : gs_L) (d : Nat) (n : Int32) : gs_M Unit := fun s =>
  if ((gs_own l).bind (gs_cls K)).any gs_bar = true ∨ K.1.1 < nI d ∨ K.1.2.1 < nI (gs_size s) ∨ K.1.2.2.1 < n ∨ K.1.2.2.2 < nI (gs_pl s) then .error (-8) else .ok ((), s)
def gs_ent (K : gs_K) : gs_M Nat := gs_b (gs_u4 K) fun i => fun s =>
  if i - 8257536 < 0 then .error (-4) else if nI (gs_size s) ≤ i - 8257536 then .error (-4) else .ok (gs_f1 s + (i - 8257536).toNatClampNeg, s)
def gs_ref (K : gs_K) : gs_M Int32 := gs_b (gs_ent K) fun e => fun s => let v := ((gs_hs s).getD e (-1, [])).1; if v = -1 then .error (-4) else .ok (v, s)
def gs_text (K : gs_K) : gs_M Int32 := gs_b (gs_addE (-1)) fun e => gs_b (gs_utf K) fun a => gs_b gs_g fun s =>
  gs_b (gs_addT (1, none, (List.range (gs_pl s - a)).map (fun k => (gs_sb K (a + k)).toInt64), 0, 0)) fun o => gs_b (gs_setE e (nI o)) fun _ => gs_r (nI o)
def gs_sort (s : gs_S) (v : Int32) : Int32 := if v < 0 then -1 else if h : v.toNatClampNeg < (gs_hp s).length then (gs_hp s)[v.toNatClampNeg].1 else -1
/-- the index of a name among fields -/
def gs_ix (fs : List (Int32 × Int32)) (x : Int32) : Option Nat := fs.findIdx? (fun q => q.1 == x)
def gs_fits (l : gs_L) (c : gs_C) : Bool :=
  (decide (gs_fl l &&& 16 = 0) != decide (gs_kind c = 3)) && (decide (gs_fl l &&& 2 = 0) || decide (gs_kind c = 0) || decide (gs_kind c = 3) || decide (gs_did l = gs_cid c)) &&
  (gs_df l).all (fun q => match gs_ix (gs_fs c) q.1 with
    | none => true
    | some j => decide (q.2 = ((gs_fs c).getD j (0, 0)).2) || (decide (6 ≤ q.2) && decide (6 ≤ ((gs_fs c).getD j (0, 0)).2)))
def gs_find (K : gs_K) (a n : Nat) : Option Nat := let c := gs_let K a n 65 6; if c < 0 then none else if (gs_cls K c.toNatClampNeg).isSome = true then some c.toNatClampNeg else none
def gs_types : List Int32 := [66, 67, 73, 74, 83, 90, 91, 76]
/-- a descriptor's fields, k of them left -/
def gs_flds (K : gs_K) (rc : gs_M Int32) : Nat → List (Int32 × Int32) → gs_M (List (Int32 × Int32))
  | 0, fs => gs_r fs
  | k + 1, fs => gs_b (gs_u1 K) fun b => match gs_types.findIdx? (· == b) with
    | none => gs_x (-5)
    | some t => gs_b (gs_utf K) fun a => gs_b gs_g fun s =>
      if t < 6 then gs_flds K rc k (fs ++ [(gs_let K a (gs_pl s - a) 97 26, nI t)])
      else gs_b rc fun v => fun s' => if gs_sort s' v = 1 then gs_flds K rc k (fs ++ [(gs_let K a (gs_pl s - a) 97 26, nI t)]) s' else .error (-4)
/-- a descriptor's flags -/
def gs_flg (K : gs_K) (id : Int64) : gs_M Int32 := gs_b (gs_u1 K) (fun fl s => if (fl &&& 2 ≠ 0 ∧ fl &&& 4 ≠ 0) ∨ (fl &&& 16 ≠ 0 ∧ id ≠ 0) then .error (-5) else .ok (fl, s))
/-- how many fields, and they -/
def gs_strm (K : gs_K) (rc : gs_M Int32) (fl : Int32) : gs_M (List (Int32 × Int32)) := gs_b (gs_nxt K 2) fun c => if 8 < c.toInt32 then gs_x (-5) else gs_b (gs_flds K rc c.toInt32.toNatClampNeg []) fun fs => if fl &&& 16 ≠ 0 ∧ 0 < c.toInt32 then gs_x (-5) else gs_r fs
/-- matched with its local class -/
def gs_mch (K : gs_K) (l : gs_L) : gs_M Unit := fun s => if gs_fl l &&& 4 ≠ 0 then .error (-5) else if ((gs_find K (gs_nf l) (gs_nl l)).bind (gs_cls K)).any (fun c => !gs_fits l c) = true then .error (-5) else .ok ((), s)
/-- a descriptor; up: the one above, none where too many stand above one another -/
def gs_dsc1 (K : gs_K) (rc : gs_M Int32) (up : Option (gs_M (List gs_L))) : gs_M (List gs_L) := gs_b (gs_u1 K) fun t =>
    if t = 112 then gs_r [] else if t = 113 then gs_b (gs_ent K) fun e => fun s => (match ((gs_hs s).getD e (-1, [])).2 with
      | [] => .error (-4)
      | l :: L => .ok (l :: L, s))
    else if t ≠ 114 then gs_x (-4) else match up with
    | none => gs_x (-4)
    | some up => gs_b (gs_utf K) fun a => gs_b gs_g fun s => gs_b (gs_nxt K 8) fun id => gs_b (gs_addE (-1)) fun e => gs_b (gs_flg K id) fun fl => gs_b (gs_strm K rc fl) fun fs =>
      gs_b (gs_rest K rc 701) fun _ => gs_b up fun L => gs_b (gs_mch K (a, gs_pl s - a, id, fl, fs, gs_find K a (gs_pl s - a))) fun _ =>
      gs_b (gs_setD e ((a, gs_pl s - a, id, fl, fs, gs_find K a (gs_pl s - a)) :: L)) fun _ => gs_r ((a, gs_pl s - a, id, fl, fs, gs_find K a (gs_pl s - a)) :: L)
def gs_desc (K : gs_K) (rc : gs_M Int32) : Nat → gs_M (List gs_L)
  | 0 => gs_dsc1 K rc none
  | f + 1 => gs_dsc1 K rc (some (gs_desc K rc f))
/-- the classes of a chain, from itself up -/
def gs_up (K : gs_K) : Nat → Option Nat → List (Nat × gs_C)
  | 0, _ => []
  | _, none => []
  | k + 1, some c => match gs_cls K c with
    | none => []
    | some C => (c, C) :: gs_up K k (gs_sup C)
def gs_chain (K : gs_K) (c : Option Nat) : List (Nat × gs_C) := gs_up K 6 c
def gs_slots (K : gs_K) (c : Option Nat) : Nat := ((gs_chain K c).map fun q => (gs_fs q.2).length).sum
def gs_first (K : gs_K) (C : gs_C) : Nat := gs_slots K (gs_sup C)
def gs_v0 (C : gs_C) (t : Int32) : Int64 := if 6 ≤ t then -2 else if gs_kind C ≠ 0 then 0 else if t = 5 then 1 else 7
/-- the slots as they are at first, topmost class first -/
def gs_slot0 (K : gs_K) (c : Option Nat) : List Int64 := ((gs_chain K c).reverse.map fun q => (gs_fs q.2).map fun f => gs_v0 q.2 f.2).flatten
def gs_inch (K : gs_K) (c of : Option Nat) : Bool := (gs_chain K of).any fun q => some q.1 == c
def gs_prim (K : gs_K) (t : Int32) : gs_M Int64 := gs_b (gs_nxt K (if t = 0 ∨ t = 5 then 1 else if t = 1 ∨ t = 4 then 2 else if t = 2 then 4 else 8)) fun v =>
  gs_r (if t = 0 then v.toInt32.toInt8.toInt32.toInt64 else if t = 2 then v.toInt32.toInt64 else if t = 4 then v.toInt32.toInt16.toInt32.toInt64 else if t = 5 then (if v = 0 then 0 else 1) else v)
/-- the slot of a field in a class that takes it -/
def gs_slot (K : gs_K) (tg : Option Nat) (q : Int32 × Int32) : Option Nat := match tg.bind (gs_cls K) with
  | none => none
  | some C => match gs_ix (gs_fs C) q.1 with
    | none => none
    | some j => if ((gs_fs C).getD j (0, 0)).2 = q.2 then some (gs_first K C + j) else none
def gs_wrt (K : gs_K) (tg : Option Nat) (o : Nat) (q : Int32 × Int32) (v : Int64) : gs_M Unit := fun s => match gs_slot K tg q with
  | none => .ok ((), s)
  | some j => if q.2 = 6 ∧ v.toInt32 ≠ -2 ∧ gs_sort s v.toInt32 ≠ 2 then .error (-6) else gs_mod o (fun ob => (ob.1, ob.2.1, ob.2.2.1.set j v, ob.2.2.2)) s
def gs_vals (K : gs_K) (rc : gs_M Int32) (tg : Option Nat) (o : Nat) : List (Int32 × Int32) → gs_M Unit
  | [] => gs_r ()
  | q :: fs => gs_b (if q.2 < 6 then gs_prim K q.2 else gs_b rc fun v => gs_r v.toInt64) fun v => gs_b (gs_wrt K tg o q v) fun _ => gs_vals K rc tg o fs
def gs_extra (K : gs_K) (o : Nat) : gs_M Unit := fun s =>
  if gs_n K - gs_pl s < 6 then .ok ((), s) else if gs_sb K (gs_pl s) ≠ 119 then .ok ((), s) else if gs_sb K (gs_pl s + 1) &&& 255 < 4 then .ok ((), s)
  else gs_mod o (fun ob => (ob.1, ob.2.1, ob.2.2.1, ob.2.2.2.1, (gs_num K (gs_pl s + 2) 4).toInt32)) s
def gs_data (K : gs_K) (rc : gs_M Int32) (c : Option Nat) (o : Nat) (l : gs_L) : gs_M Unit :=
  let tg := if gs_inch K (gs_own l) c = true then gs_own l else none
  gs_b (gs_vals K rc tg o (gs_df l)) fun _ => if gs_fl l &&& 1 = 0 then gs_r () else gs_b (if (tg.bind (gs_cls K)).any (fun C => gs_kind C == 2) = true then gs_extra K o else gs_r ()) fun _ => gs_rest K rc 701
def gs_dats (K : gs_K) (rc : gs_M Int32) (c : Option Nat) (o : Nat) : List gs_L → gs_M Unit
  | [] => gs_r ()
  | l :: L => gs_b (gs_data K rc c o l) fun _ => gs_dats K rc c o L
def gs_have {α : Type} (m : gs_M (List gs_L)) (f : gs_L → List gs_L → gs_M α) : gs_M α := gs_b m fun L => match L with
  | [] => gs_x (-4)
  | l :: L => f l L
def gs_inst (K : gs_K) (rc : gs_M Int32) (d : Nat) : gs_M Int32 := gs_have (gs_desc K rc 8) fun l up => gs_b (gs_lim K l d 0) fun _ =>
  if gs_fl l &&& 16 ≠ 0 then gs_x (-5) else match gs_own l with
  | none => gs_x (-9)
  | some c => match gs_cls K c with
    | none => gs_x (-9)
    | some C => if gs_kind C = 0 ∨ gs_kind C = 3 then gs_x (-5) else
      gs_b (gs_addT (0, some c, gs_slot0 K (some c), 0, 0)) fun o => gs_b (gs_addE (if gs_kind C = 4 then -2 else nI o)) fun e =>
      gs_b (gs_dats K rc (some c) o (l :: up).reverse) fun _ => gs_b gs_g fun s =>
      if gs_kind C = 4 ∧ (gs_fs C).head?.any (fun q => decide (q.2 < 6)) = true ∧ (((gs_hp s).getD o (0, none, [], 0, 0)).2.2.1.getD 0 0) < 0 then gs_x (-6) else gs_b (gs_setE e (nI o)) fun _ => gs_r (nI o)
def gs_ints (K : gs_K) (o : Nat) : Nat → Nat → gs_M Unit
  | 0, _ => gs_r ()
  | k + 1, j => gs_b (gs_u4 K) fun v => gs_b (gs_mod o (fun ob => (ob.1, ob.2.1, ob.2.2.1.set j v.toInt64, ob.2.2.2))) fun _ => gs_ints K o k (j + 1)
def gs_refs (rc : gs_M Int32) (o : Nat) : Nat → Nat → gs_M Unit
  | 0, _ => gs_r ()
  | k + 1, j => gs_b rc fun v => gs_b (gs_mod o (fun ob => (ob.1, ob.2.1, ob.2.2.1.set j v.toInt64, ob.2.2.2))) fun _ => gs_refs rc o k (j + 1)
def gs_tI : List Int32 := [91, 73]
def gs_tR : List Int32 := [91, 76, 106, 97, 118, 97, 46, 108, 97, 110, 103, 46, 79, 98, 106, 101, 99, 116, 59]
def gs_arr (K : gs_K) (rc : gs_M Int32) (d : Nat) : gs_M Int32 := gs_have (gs_desc K rc 8) fun l _ =>
  let ints := gs_spelt K (gs_nf l) (gs_nl l) gs_tI
  if ints = false ∧ gs_spelt K (gs_nf l) (gs_nl l) gs_tR = false then gs_x (-5) else gs_b (gs_u4 K) fun n => if n < 0 then gs_x (-6) else gs_b (gs_lim K l d n) fun _ =>
  gs_b (gs_addT (if ints = true then 2 else 3, none, List.replicate n.toNatClampNeg (if ints = true then 0 else gs_fill K), 0, 0)) fun o => gs_b (gs_addE (nI o)) fun _ =>
  gs_b (if ints = true then gs_ints K o n.toNatClampNeg 0 else gs_refs rc o n.toNatClampNeg 0) fun _ => gs_r (nI o)
/-- the name that a text of one sign tells -/
def gs_cname (s : gs_S) (v : Int32) : Int32 := if v < 0 then -1 else match (gs_hp s)[v.toNatClampNeg]? with
  | none => -1
  | some ob => if ob.1 = 1 then (match ob.2.2.1 with
    | [x] => x.toInt32 - 97
    | _ => -1) else -1
def gs_only (c : Nat) (nm : Int32) : gs_M Nat := fun s => match (gs_hp s).findIdx? (fun ob => ob.1 == 4 && ob.2.1 == some c && ob.2.2.2.1 == nm) with
  | some k => .ok (k, s)
  | none => gs_addT (4, some c, [], nm, 0) s
def gs_con1 (K : gs_K) (rc : gs_M Int32) (d : Nat) : gs_M Int32 := gs_have (gs_desc K rc 8) fun l _ => gs_b (gs_lim K l d 0) fun _ =>
  if gs_fl l &&& 16 = 0 then gs_x (-5) else match gs_own l with
  | none => gs_x (-9)
  | some c => gs_b (gs_addE (-2)) fun e => gs_b rc fun v => fun s => let nm := gs_cname s v
    if nm < 0 ∨ 26 ≤ nm ∨ ((gs_cls K c).elim 0 gs_con >>> (nm &&& 31)) &&& 1 = 0 then .error (-6) else gs_b (gs_only c nm) (fun o => gs_b (gs_setE e (nI o)) fun _ => gs_r (nI o)) s
/-- a read at a depth; rc: one deeper -/
def gs_body (K : gs_K) (rc : gs_M Int32) (d : Nat) : gs_M Int32 := gs_b (gs_room d) fun _ => gs_b (gs_u1 K) fun t =>
  if t = 112 then gs_r (-2) else if t = 113 then gs_ref K else if t = 114 then gs_b (fun s => .ok ((), gs_p (gs_pl s - 1) s)) fun _ => gs_b (gs_desc K rc 8) fun _ => gs_r (-2)
  else if t = 115 then gs_inst K rc d else if t = 116 then gs_text K else if t = 117 then gs_arr K rc d else if t = 126 then gs_con1 K rc d
  else if t = 119 ∨ t = 122 ∨ t = 120 then gs_x (if d = 1 then -7 else -4) else if t = 123 then gs_x (-10) else gs_x (-4)
/-- 9 less the depth -/
def gs_rc (K : gs_K) : Nat → gs_M Int32
  | 0 => gs_x (-8)
  | k + 1 => gs_body K (gs_rc K k) (8 - k)
def gs_reset (K : gs_K) : Nat → gs_M Unit
  | 0 => gs_r ()
  | k + 1 => fun s => if gs_pl s < gs_n K ∧ gs_sb K (gs_pl s) = 121 then gs_reset K k (gs_pl s + 1, gs_hp s, gs_hs s, (gs_hs s).length) else .ok ((), s)
def gs_out (K : gs_K) : gs_M Int32 := gs_b (gs_room 1) fun _ => gs_b (gs_reset K 701) fun _ => gs_rc K 8
