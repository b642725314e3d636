/-! THE PLAIN MACHINE, 1: what an instruction does to stack and locals, and that the machine does so. -/
/-- an unset local -/
def gm_u : Value := .retAddr 0
/-- a long whose second half is overwritten is gone -/
def gm_k : Value → Value
  | .long _ => gm_u
  | .double _ => gm_u
  | v => v
def gm_st1 : List Value → Nat → Value → List Value
  | [], _, _ => []
  | _ :: r, 0, v => v :: r
  | [a], 1, _ => [gm_k a]
  | a :: _ :: r, 1, v => gm_k a :: v :: r
  | a :: r, n + 2, v => a :: gm_st1 r (n + 1) v
def gm_sec : List Value → Nat → List Value
  | [], _ => []
  | _ :: r, 0 => gm_u :: r
  | a :: r, n + 1 => a :: gm_sec r n
def gm_st2 (lv : List Value) (i : Nat) (v : Value) : List Value := gm_sec (gm_st1 lv i v) (i + 1)
/-- stack to stack; with the instruction's length -/
def gm_pure (i : Instr) (st : List Value) : Option (Nat × List Value) := match i, st with
  | .iconst k, st => some (1, .int (Int32.ofInt k) :: st)
  | .bipush k, st => some (2, .int (Int8.ofInt k).toInt32 :: st)
  | .sipush k, st => some (3, .int (Int16.ofInt k).toInt32 :: st)
  | .lconst k, st => some (1, .long (Int64.ofNat (k : Nat)) :: st)
  | .aconst_null, st => some (1, .null :: st)
  | .iadd, .int y :: .int x :: st => some (1, .int (x + y) :: st)
  | .isub, .int y :: .int x :: st => some (1, .int (x - y) :: st)
  | .imul, .int y :: .int x :: st => some (1, .int (x * y) :: st)
  | .iand, .int y :: .int x :: st => some (1, .int (x &&& y) :: st)
  | .ior, .int y :: .int x :: st => some (1, .int (x ||| y) :: st)
  | .ixor, .int y :: .int x :: st => some (1, .int (x ^^^ y) :: st)
  | .ineg, .int x :: st => some (1, .int (-x) :: st)
  | .ishl, .int y :: .int x :: st => some (1, .int (x <<< (y &&& 31)) :: st)
  | .ishr, .int y :: .int x :: st => some (1, .int (x >>> (y &&& 31)) :: st)
  | .iushr, .int y :: .int x :: st => some (1, .int (x.toUInt32 >>> (y.toUInt32 &&& Int32.toUInt32 31)).toInt32 :: st)
  | .ladd, .long y :: .long x :: st => some (1, .long (x + y) :: st)
  | .lsub, .long y :: .long x :: st => some (1, .long (x - y) :: st)
  | .land, .long y :: .long x :: st => some (1, .long (x &&& y) :: st)
  | .lor, .long y :: .long x :: st => some (1, .long (x ||| y) :: st)
  | .lshl, .int y :: .long x :: st => some (1, .long (x <<< (y.toInt64 &&& 63)) :: st)
  | .lshr, .int y :: .long x :: st => some (1, .long (x >>> (y.toInt64 &&& 63)) :: st)
  | .lushr, .int y :: .long x :: st => some (1, .long (x.toUInt64 >>> (y.toInt64.toUInt64 &&& Int64.toUInt64 63)).toInt64 :: st)
  | .lcmp, .long y :: .long x :: st => some (1, .int (lg_cmp x y) :: st)
  | .i2l, .int x :: st => some (1, .long x.toInt64 :: st)
  | .l2i, .long x :: st => some (1, .int x.toInt32 :: st)
  | .i2b, .int x :: st => some (1, .int x.toInt8.toInt32 :: st)
  | .i2s, .int x :: st => some (1, .int x.toInt16.toInt32 :: st)
  | .i2c, .int x :: st => some (1, .int (x.toUInt32 % 65536).toInt32 :: st)
  | .dup, v :: st => if v.category = 1 then some (1, v :: v :: st) else none
  | .pop, v :: st => if v.category = 1 then some (1, st) else none
  | .pop2, .long _ :: st => some (1, st)
  | .dup_x1, a :: b :: st => if a.category = 1 ∧ b.category = 1 then some (1, a :: b :: a :: st) else none
  | .dup2, .long x :: st => some (1, .long x :: .long x :: st)
  | .dup2, a :: b :: st => if a.category = 1 ∧ b.category = 1 then some (1, a :: b :: a :: b :: st) else none
  | _, _ => none
/-- a branch: taken or not, its offset, what is left on the stack (all of length 3 but switches, which always jump) -/
def gm_cz (c : ClassFile.Cond) (x : Int32) : Bool := match c with
  | .eq => decide (x = 0)
  | .ne => !decide (x = 0)
  | .lt => decide (x < 0)
  | .ge => decide (0 ≤ x)
  | .gt => decide (0 < x)
  | .le => decide (x ≤ 0)
def gm_cc (c : ClassFile.Cond) (x y : Int32) : Bool := match c with
  | .eq => decide (x = y)
  | .ne => !decide (x = y)
  | .lt => decide (x < y)
  | .ge => decide (y ≤ x)
  | .gt => decide (y < x)
  | .le => decide (x ≤ y)
def gm_ca (c : ACond) (x y : Value) : Bool := match c with
  | .eq => decide (x = y)
  | .ne => !decide (x = y)
def gm_rf : Value → Option (Option Nat)
  | .ref a => some (some a)
  | .null => some none
  | _ => none
theorem gm_rf_eq {v : Value} {r : Option Nat} (h : gm_rf v = some r) : v = va_rf r := by
  cases v <;> simp [gm_rf] at h <;> subst h <;> rfl
def gm_br (i : Instr) (st : List Value) : Option (Bool × Int × List Value) := match i, st with
  | .goto off, st => some (true, off, st)
  | .ifCond c off, .int x :: st => some (gm_cz c x, off, st)
  | .if_icmp c off, .int y :: .int x :: st => some (gm_cc c x y, off, st)
  | .ifnull off, .null :: st => some (true, off, st)
  | .ifnull off, .ref _ :: st => some (false, off, st)
  | .ifnonnull off, .null :: st => some (false, off, st)
  | .ifnonnull off, .ref _ :: st => some (true, off, st)
  | .if_acmp c off, y :: x :: st => match gm_rf x, gm_rf y with
    | some _, some _ => some (gm_ca c x y, off, st)
    | _, _ => none
  | _, _ => none
/-- a switch's offset -/
def gm_sw (i : Instr) (st : List Value) : Option (Int × List Value) := match i, st with
  | .tableswitch d lo hi offs, .int x :: st => if x.toInt < lo ∨ hi < x.toInt then some (d, st) else match offs[(x.toInt - lo).toNat]? with
    | some o => some (o, st)
    | none => none
  | .lookupswitch d ps, .int x :: st => if (ps.toList.zip (ps.toList.drop 1)).all (fun (a, next) => a.1 < next.1) = true then some (Op.lookupswitch.offset ps.toList d x.toInt, st) else none
  | _, _ => none
/-- locals and stack -/
def gm_ld (lv : List Value) (i : Nat) : Option Value := match lv[i]? with
  | some v => if v = gm_u then none else some v
  | none => none
def gm_isI : Value → Bool
  | .int _ => true
  | _ => false
def gm_isL : Value → Bool
  | .long _ => true
  | _ => false
def gm_isA : Value → Bool
  | .ref _ => true
  | .null => true
  | _ => false
def gm_ldk (p : Value → Bool) (lv : List Value) (i : Nat) (n : Nat) (st : List Value) : Option (Nat × List Value × List Value) := match lv[i]? with
  | some v => if p v = true then some (n, lv, v :: st) else none
  | none => none
def gm_stk (p : Value → Bool) (lv : List Value) (i : Nat) (n : Nat) (st : List Value) : Option (Nat × List Value × List Value) := match st with
  | v :: st => if p v = true ∧ i < lv.length then some (n, gm_st1 lv i v, st) else none
  | _ => none
def gm_loc (i : Instr) (lv st : List Value) : Option (Nat × List Value × List Value) := match i with
  | .iload k => gm_ldk gm_isI lv k 2 st
  | .iload_n k => gm_ldk gm_isI lv k.val 1 st
  | .lload k => gm_ldk gm_isL lv k 2 st
  | .lload_n k => gm_ldk gm_isL lv k.val 1 st
  | .aload k => gm_ldk gm_isA lv k 2 st
  | .aload_n k => gm_ldk gm_isA lv k.val 1 st
  | .istore k => gm_stk gm_isI lv k 2 st
  | .istore_n k => gm_stk gm_isI lv k.val 1 st
  | .astore k => gm_stk gm_isA lv k 2 st
  | .astore_n k => gm_stk gm_isA lv k.val 1 st
  | .lstore k => match st with
    | .long x :: st => if k + 1 < lv.length then some (2, gm_st2 lv k (.long x), st) else none
    | _ => none
  | .lstore_n k => match st with
    | .long x :: st => if k.val + 1 < lv.length then some (1, gm_st2 lv k.val (.long x), st) else none
    | _ => none
  | .iinc k n => match lv[k]? with
    | some (.int x) => some (3, gm_st1 lv k (.int (x + Int32.ofInt n)), st)
    | _ => none
  | _ => none
/-- the machine's locals are these -/
def gm_L (ls : Array Slot) (nL : Nat) (lv : List Value) : Prop := ls.size = nL ∧ lv_wf ls ∧ lv.length = nL ∧ ∀ (i : Nat) (v : Value), lv[i]? = some v → v ≠ gm_u → ls[i]? = some (.val v)
section GMW
variable {p : Program} {l : Launch} {e : Env} {R : Room} {s : State} {m : MethodId} {args : Array Value} {below : List Frame} {meth : Method} {c : Code} {H : Heap} {locs : List Loc} {cells slots : Nat} {Q : State → Prop}
variable {cc : ByteArray} {pc : Nat} {ls : Array Slot}
theorem gm_pure_W (hx : p.tables.exec = Jvm.exec) (hb : c.code = cc) {i : Instr} {st st' : List Value} {len : Nat} (hp : gm_pure i st = some (len, st')) (hdg : decode cc pc = .ok (i, len))
    (k : W p l e R s m args below meth c H locs cells slots Q (F0 m (pc + len) ls st')) : W p l e R s m args below meth c H locs cells slots Q (F0 m pc ls st) := by
  unfold gm_pure at hp
  split at hp
  case _ => cases hp; exact lv_iconst hx hb hdg rfl k
  case _ => cases hp; exact lv_bipush hx hb hdg rfl k
  case _ => cases hp; exact lv_sipush hx hb hdg rfl k
  case _ => cases hp; exact lv_lconst hx hb hdg rfl k
  case _ => cases hp; exact lv_null hx hb hdg k
  case _ => cases hp; exact lv_iadd hx hb hdg k
  case _ => cases hp; exact lv_isub hx hb hdg k
  case _ => cases hp; exact lv_imul hx hb hdg k
  case _ => cases hp; exact lv_iand hx hb hdg k
  case _ => cases hp; exact lv_ior hx hb hdg k
  case _ => cases hp; exact lv_ixor hx hb hdg k
  case _ => cases hp; exact lv_ineg hx hb hdg k
  case _ => cases hp; exact lv_ishl hx hb hdg k
  case _ => cases hp; exact lv_ishr hx hb hdg k
  case _ => cases hp; exact lv_iushr hx hb hdg rfl k
  case _ => cases hp; exact lv_ladd hx hb hdg k
  case _ => cases hp; exact lv_lsub hx hb hdg k
  case _ => cases hp; exact lv_land hx hb hdg k
  case _ => cases hp; exact lv_lor hx hb hdg k
  case _ => cases hp; exact lv_lshl hx hb hdg rfl k
  case _ => cases hp; exact lv_lshr hx hb hdg rfl k
  case _ => cases hp; exact lv_lushr hx hb hdg rfl k
  case _ => cases hp; exact W.lcmp hx hb hdg k
  case _ => cases hp; exact lv_i2l hx hb hdg rfl k
  case _ => cases hp; exact lv_l2i hx hb hdg rfl k
  case _ => cases hp; exact lv_i2b hx hb hdg rfl k
  case _ => cases hp; exact lv_i2s hx hb hdg rfl k
  case _ => cases hp; exact lv_i2c hx hb hdg rfl k
  case _ =>
    split at hp
    case isTrue h => cases hp; exact lv_dup hx hb hdg h k
    case isFalse h => cases hp
  case _ =>
    split at hp
    case isTrue h => cases hp; exact lv_pop hx hb hdg h k
    case isFalse h => cases hp
  case _ => cases hp; exact lv_pop2_2 hx hb hdg rfl k
  case _ =>
    split at hp
    case isTrue h => cases hp; exact lv_dup_x1 hx hb hdg h.1 h.2 k
    case isFalse h => cases hp
  case _ => cases hp; exact lv_dup2_2 hx hb hdg rfl k
  case _ =>
    split at hp
    case isTrue h => cases hp; exact lv_dup2_11 hx hb hdg h.1 h.2 k
    case isFalse h => cases hp
  case _ => cases hp
end GMW
