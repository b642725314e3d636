/-! NUMBERS OUT OF BYTES. -/
def gs_ubn (K : gs_K) (i : Nat) : Nat := (gs_by K i).toNat
def gs_nat (K : gs_K) (a : Nat) : Nat → Nat
  | 0 => 0
  | k + 1 => gs_nat K a k * 256 + gs_ubn K (a + k)
theorem gs_ubn_lt {K : gs_K} {i : Nat} : gs_ubn K i < 256 := (gs_by K i).toNat_lt
theorem gs_nat_lt {K : gs_K} {a : Nat} : ∀ k, gs_nat K a k < 256 ^ k
  | 0 => by show (0 : Nat) < 1; decide
  | k + 1 => by
    have h1 := gs_nat_lt (K := K) (a := a) k
    have h2 := gs_ubn_lt (K := K) (i := a + k)
    show gs_nat K a k * 256 + gs_ubn K (a + k) < 256 ^ (k + 1)
    rw [Nat.pow_succ]
    omega
set_option maxRecDepth 100000 in
theorem gs_ub8 : ∀ b : Fin 256, ((UInt8.ofNat b.val).toInt8.toInt32 &&& 255).toInt64 = Int64.ofNat b.val := by decide +kernel
theorem gs_ub_nat {K : gs_K} {i : Nat} : gs_ub K i = Int64.ofNat (gs_ubn K i) := by
  have h := gs_ub8 ⟨gs_ubn K i, gs_ubn_lt⟩
  have e : UInt8.ofNat (gs_ubn K i) = gs_by K i := UInt8.ofNat_toNat
  unfold gs_ub gs_sb
  rw [← e]
  exact h
theorem gs_or8 {m b : Nat} (hm : m < 2 ^ 56) (hb : b < 256) : Int64.ofNat m <<< 8 ||| Int64.ofNat b = Int64.ofNat (m * 256 + b) := by
  apply Int64.toBitVec_inj.mp
  apply BitVec.eq_of_toNat_eq
  rw [Int64.toBitVec_or, BitVec.toNat_or]
  have e1 : (Int64.ofNat m <<< 8).toBitVec.toNat = m <<< 8 := by
    have : (Int64.ofNat m <<< 8).toBitVec = (Int64.ofNat m).toBitVec <<< 8 := rfl
    rw [this, BitVec.toNat_shiftLeft]
    show ((BitVec.ofNat 64 m).toNat <<< 8) % 2 ^ 64 = m <<< 8
    rw [BitVec.toNat_ofNat, Nat.mod_eq_of_lt (by omega), Nat.shiftLeft_eq, Nat.mod_eq_of_lt (by omega)]
    exact (Nat.shiftLeft_eq m 8).symm
  have e2 : (Int64.ofNat b).toBitVec.toNat = b := by
    show (BitVec.ofNat 64 b).toNat = b
    rw [BitVec.toNat_ofNat, Nat.mod_eq_of_lt (by omega)]
  have e3 : (Int64.ofNat (m * 256 + b)).toBitVec.toNat = m * 256 + b := by
    show (BitVec.ofNat 64 (m * 256 + b)).toNat = m * 256 + b
    rw [BitVec.toNat_ofNat, Nat.mod_eq_of_lt (by omega)]
  rw [e1, e2, e3, ← Nat.shiftLeft_add_eq_or_of_lt (show b < 2 ^ 8 by omega), Nat.shiftLeft_eq]
theorem gs_num_nat {K : gs_K} {a : Nat} : ∀ k, k ≤ 8 → gs_num K a k = Int64.ofNat (gs_nat K a k)
  | 0, _ => rfl
  | k + 1, hk => by
    have h1 := gs_nat_lt (K := K) (a := a) k
    have h2 : (256 : Nat) ^ k ≤ 256 ^ 7 := Nat.pow_le_pow_right (by decide) (by omega)
    show gs_num K a k <<< 8 ||| gs_ub K (a + k) = _
    rw [gs_num_nat k (by omega), gs_ub_nat, gs_or8 (by omega) gs_ubn_lt]
    rfl
theorem gs_num_i {K : gs_K} {a k : Nat} (hk : k ≤ 8) : (gs_num K a k).toInt32 = nI (gs_nat K a k) := by
  rw [gs_num_nat k hk]
  first | exact Int64.toInt32_ofNat' | exact Int64.toInt32_ofNat _ | simp [nI]
theorem gs_num2 {K : gs_K} {a : Nat} : ∃ m : Nat, m < 65536 ∧ (gs_num K a 2).toInt32 = nI m := ⟨gs_nat K a 2, gs_nat_lt 2, gs_num_i (by decide)⟩
theorem gs_num1 {K : gs_K} {a : Nat} : (gs_num K a 1).toInt32 = nI (gs_ubn K a) := by
  rw [gs_num_i (by decide)]
  show nI (0 * 256 + gs_ubn K (a + 0)) = _
  simp
