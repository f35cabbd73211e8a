/-! ===== bits ===== -/
def bvI (x : Int32) : Nat := x.toBitVec.toNat
def bvJ (x : Int64) : Nat := x.toBitVec.toNat
theorem bvI_lt (x : Int32) : bvI x < 4294967296 := x.toBitVec.isLt
theorem bvJ_lt (x : Int64) : bvJ x < 18446744073709551616 := x.toBitVec.isLt
theorem bvI_inj {x y : Int32} (h : bvI x = bvI y) : x = y := Int32.toBitVec.inj (BitVec.eq_of_toNat_eq h)
theorem bvJ_inj {x y : Int64} (h : bvJ x = bvJ y) : x = y := Int64.toBitVec.inj (BitVec.eq_of_toNat_eq h)
theorem bvI_of (n : Nat) : bvI (Int32.ofNat n) = n % 4294967296 := BitVec.toNat_ofNat n 32
theorem bvJ_of (n : Nat) : bvJ (Int64.ofNat n) = n % 18446744073709551616 := BitVec.toNat_ofNat n 64
theorem bvI_and255 (x : Int32) : bvI (x &&& Int32.ofNat 255) = bvI x % 256 := by
  unfold bvI
  rw [Int32.toBitVec_and, BitVec.toNat_and]
  exact Nat.and_two_pow_sub_one_eq_mod _ 8
theorem bvJ_and255 (x : Int64) : bvJ (x &&& Int64.ofNat 255) = bvJ x % 256 := by
  unfold bvJ
  rw [Int64.toBitVec_and, BitVec.toNat_and]
  exact Nat.and_two_pow_sub_one_eq_mod _ 8
theorem bvJ_and127 (x : Int64) : bvJ (x &&& Int64.ofNat 127) = bvJ x % 128 := by
  unfold bvJ
  rw [Int64.toBitVec_and, BitVec.toNat_and]
  exact Nat.and_two_pow_sub_one_eq_mod _ 7
theorem and255 (x : Int32) : x &&& Int32.ofNat 255 = Int32.ofNat (bvI x % 256) := bvI_inj (by rw [bvI_and255, bvI_of]; omega)
theorem lo8_n (x : Int32) : lo8 x = bvI x % 256 := by
  unfold lo8
  rw [and255, i_idx (by omega)]
theorem bvI_toInt32 (x : Int64) : bvI x.toInt32 = bvJ x % 4294967296 := by
  unfold bvI bvJ
  rw [Int64.toBitVec_toInt32, BitVec.signExtend_eq_setWidth_of_le _ (by decide), BitVec.toNat_setWidth]
theorem bvJ_toInt64 (x : Int32) : bvJ x.toInt64 = if bvI x < 2147483648 then bvI x else bvI x + 18446744069414584320 := by
  unfold bvI bvJ
  rw [Int32.toBitVec_toInt64, BitVec.toNat_signExtend]
  have h1 := x.toBitVec.isLt
  by_cases h : x.toBitVec.msb = true
  · have h2 := (BitVec.msb_eq_true_iff_two_mul_ge).mp h
    rw [h, BitVec.toNat_setWidth]
    simp only [if_true]
    rw [if_neg (by omega)]
    omega
  · have h3 : x.toBitVec.msb = false := by simpa using h
    have h2 := (BitVec.msb_eq_false_iff_two_mul_lt).mp h3
    rw [h3, BitVec.toNat_setWidth]
    simp only [if_false, Bool.false_eq_true]
    rw [if_pos (by omega)]
    omega
theorem sh_u : ∀ n : Fin 64, ((Int32.ofNat n.val).toInt64.toUInt64 &&& Int64.toUInt64 63) = UInt64.ofNat n.val := by decide +kernel
theorem sh_s : ∀ n : Fin 64, ((Int32.ofNat n.val).toInt64 &&& 63) = Int64.ofNat n.val := by decide +kernel
theorem sh_m : ∀ n : Fin 64, ((Int64.ofNat n.val).toBitVec.smod 64).toNat = n.val := by decide +kernel
theorem sh_i : ∀ n : Fin 32, (Int32.ofNat n.val &&& 31) = Int32.ofNat n.val := by decide +kernel
theorem sh_j : ∀ n : Fin 32, ((Int32.ofNat n.val).toBitVec.smod 32).toNat = n.val := by decide +kernel
theorem bvJ_ushr (x : Int64) {n : Nat} (hn : n < 64) : bvJ (x.toUInt64 >>> ((Int32.ofNat n).toInt64.toUInt64 &&& Int64.toUInt64 63)).toInt64 = bvJ x / 2 ^ n := by
  rw [sh_u ⟨n, hn⟩]
  show (x.toUInt64 >>> UInt64.ofNat n).toNat = _
  rw [UInt64.toNat_shiftRight, UInt64.toNat_ofNat', Nat.shiftRight_eq_div_pow]
  have e : n % 2 ^ 64 % 64 = n := by omega
  rw [e]
  rfl
theorem bvJ_sshr (x : Int64) {n : Nat} (hn : n < 64) : bvJ (x >>> ((Int32.ofNat n).toInt64 &&& 63)) = if bvJ x < 9223372036854775808 then bvJ x / 2 ^ n else 18446744073709551615 - (18446744073709551615 - bvJ x) / 2 ^ n := by
  rw [sh_s ⟨n, hn⟩]
  unfold bvJ
  rw [Int64.toBitVec_shiftRight]
  show (x.toBitVec.sshiftRight ((Int64.ofNat n).toBitVec.smod 64).toNat).toNat = _
  rw [sh_m ⟨n, hn⟩]
  have h1 := x.toBitVec.isLt
  by_cases h : x.toBitVec.msb = true
  · have h2 := (BitVec.msb_eq_true_iff_two_mul_ge).mp h
    rw [BitVec.toNat_sshiftRight_of_msb_true h, if_neg (by omega), Nat.shiftRight_eq_div_pow]
  · have h3 : x.toBitVec.msb = false := by simpa using h
    have h2 := (BitVec.msb_eq_false_iff_two_mul_lt).mp h3
    rw [BitVec.toNat_sshiftRight_of_msb_false h3, if_pos (by omega), Nat.shiftRight_eq_div_pow]
theorem bvI_sshr (x : Int32) {n : Nat} (hn : n < 32) : bvI (x >>> (Int32.ofNat n &&& 31)) = if bvI x < 2147483648 then bvI x / 2 ^ n else 4294967295 - (4294967295 - bvI x) / 2 ^ n := by
  rw [sh_i ⟨n, hn⟩]
  unfold bvI
  rw [Int32.toBitVec_shiftRight]
  show (x.toBitVec.sshiftRight ((Int32.ofNat n).toBitVec.smod 32).toNat).toNat = _
  rw [sh_j ⟨n, hn⟩]
  have h1 := x.toBitVec.isLt
  by_cases h : x.toBitVec.msb = true
  · have h2 := (BitVec.msb_eq_true_iff_two_mul_ge).mp h
    rw [BitVec.toNat_sshiftRight_of_msb_true h, if_neg (by omega), Nat.shiftRight_eq_div_pow]
  · have h3 : x.toBitVec.msb = false := by simpa using h
    have h2 := (BitVec.msb_eq_false_iff_two_mul_lt).mp h3
    rw [BitVec.toNat_sshiftRight_of_msb_false h3, if_pos (by omega), Nat.shiftRight_eq_div_pow]
/-- byte k of a long, from below -/
def by64 (x : Int64) (k : Nat) : Nat := bvJ x / 2 ^ (8 * k) % 256
theorem by64_lt (x : Int64) (k : Nat) : by64 x k < 256 := Nat.mod_lt _ (by decide)
theorem lo8_ushr (x : Int64) {k : Nat} (hk : k < 8) : lo8 (x.toUInt64 >>> ((Int32.ofNat (8 * k)).toInt64.toUInt64 &&& Int64.toUInt64 63)).toInt64.toInt32 = by64 x k := by
  rw [lo8_n, bvI_toInt32, bvJ_ushr x (by omega)]
  unfold by64
  omega
theorem sshr_and (x : Int64) {k : Nat} (hk : k < 8) : ((x >>> ((Int32.ofNat (8 * k)).toInt64 &&& 63)) &&& Int64.ofNat 255).toInt32 = Int32.ofNat (by64 x k) := by
  apply bvI_inj
  have hx := bvJ_lt x
  rw [bvI_toInt32, bvJ_and255, bvJ_sshr x (by omega), bvI_of]
  unfold by64
  rcases (show k = 0 ∨ k = 1 ∨ k = 2 ∨ k = 3 ∨ k = 4 ∨ k = 5 ∨ k = 6 ∨ k = 7 by omega) with rfl | rfl | rfl | rfl | rfl | rfl | rfl | rfl <;> simp only [Nat.reduceMul, Nat.reducePow] <;> split <;> omega
theorem ishr_and (x : Int32) {k : Nat} (hk : k < 4) : (x >>> (Int32.ofNat (8 * k) &&& 31)) &&& Int32.ofNat 255 = Int32.ofNat (bvI x / 2 ^ (8 * k) % 256) := by
  apply bvI_inj
  have hx := bvI_lt x
  rw [bvI_and255, bvI_sshr x (by omega), bvI_of]
  rcases (show k = 0 ∨ k = 1 ∨ k = 2 ∨ k = 3 by omega) with rfl | rfl | rfl | rfl <;> simp only [Nat.reduceMul, Nat.reducePow] <;> split <;> omega
theorem by64_int (x : Int32) {k : Nat} (hk : k < 4) : by64 x.toInt64 k = bvI x / 2 ^ (8 * k) % 256 := by
  unfold by64
  have hx := bvI_lt x
  rw [bvJ_toInt64]
  rcases (show k = 0 ∨ k = 1 ∨ k = 2 ∨ k = 3 by omega) with rfl | rfl | rfl | rfl <;> simp only [Nat.reduceMul, Nat.reducePow] <;> split <;> omega
theorem bvJ_shl (x : Int64) {n : Nat} (hn : n < 64) : bvJ (x <<< ((Int32.ofNat n).toInt64 &&& 63)) = bvJ x * 2 ^ n % 18446744073709551616 := by
  rw [sh_s ⟨n, hn⟩]
  unfold bvJ
  rw [Int64.toBitVec_shiftLeft]
  show (x.toBitVec <<< ((Int64.ofNat n).toBitVec.smod 64).toNat).toNat = _
  rw [sh_m ⟨n, hn⟩, BitVec.toNat_shiftLeft, Nat.shiftLeft_eq]
theorem bvI_shl (x : Int32) {n : Nat} (hn : n < 32) : bvI (x <<< (Int32.ofNat n &&& 31)) = bvI x * 2 ^ n % 4294967296 := by
  rw [sh_i ⟨n, hn⟩]
  unfold bvI
  rw [Int32.toBitVec_shiftLeft]
  show (x.toBitVec <<< ((Int32.ofNat n).toBitVec.smod 32).toNat).toNat = _
  rw [sh_j ⟨n, hn⟩, BitVec.toNat_shiftLeft, Nat.shiftLeft_eq]
theorem bvJ_add (x y : Int64) : bvJ (x + y) = (bvJ x + bvJ y) % 18446744073709551616 := by
  unfold bvJ
  rw [Int64.toBitVec_add, BitVec.toNat_add]
theorem bvJ_mul (x y : Int64) : bvJ (x * y) = (bvJ x * bvJ y) % 18446744073709551616 := by
  unfold bvJ
  rw [Int64.toBitVec_mul, BitVec.toNat_mul]
theorem bvI_add (x y : Int32) : bvI (x + y) = (bvI x + bvI y) % 4294967296 := by
  unfold bvI
  rw [Int32.toBitVec_add, BitVec.toNat_add]
theorem bvI_mul (x y : Int32) : bvI (x * y) = (bvI x * bvI y) % 4294967296 := by
  unfold bvI
  rw [Int32.toBitVec_mul, BitVec.toNat_mul]
theorem or_add {a b i : Nat} (h : b < 2 ^ i) : a * 2 ^ i ||| b = a * 2 ^ i + b := by
  rw [← Nat.shiftLeft_eq, Nat.shiftLeft_add_eq_or_of_lt h]
theorem shl_or (x : Int64) {b : Nat} (hb : b < 256) : (x <<< ((Int32.ofNat 8).toInt64 &&& 63)) ||| (Int32.ofNat b).toInt64 = Int64.ofNat 256 * x + Int64.ofNat b := by
  apply bvJ_inj
  have h1 : bvJ ((x <<< ((Int32.ofNat 8).toInt64 &&& 63)) ||| (Int32.ofNat b).toInt64) = bvJ (x <<< ((Int32.ofNat 8).toInt64 &&& 63)) ||| bvJ (Int32.ofNat b).toInt64 := by
    unfold bvJ
    rw [Int64.toBitVec_or, BitVec.toNat_or]
  have h2 : bvJ (Int32.ofNat b).toInt64 = b := by rw [bvJ_toInt64, bvI_of, if_pos (by omega)]; omega
  have h3 : bvJ x * 2 ^ 8 % 18446744073709551616 = (bvJ x % 72057594037927936) * 2 ^ 8 := by omega
  rw [h1, h2, bvJ_shl x (by omega), h3, or_add (by omega), bvJ_add, bvJ_mul, bvJ_of, bvJ_of]
  omega
theorem ishl_or (x : Int32) {b : Nat} (hb : b < 256) : (x <<< (Int32.ofNat 8 &&& 31)) ||| Int32.ofNat b = Int32.ofNat 256 * x + Int32.ofNat b := by
  apply bvI_inj
  have h1 : bvI ((x <<< (Int32.ofNat 8 &&& 31)) ||| Int32.ofNat b) = bvI (x <<< (Int32.ofNat 8 &&& 31)) ||| bvI (Int32.ofNat b) := by
    unfold bvI
    rw [Int32.toBitVec_or, BitVec.toNat_or]
  have h2 : bvI (Int32.ofNat b) = b := by rw [bvI_of]; omega
  have h3 : bvI x * 2 ^ 8 % 4294967296 = (bvI x % 16777216) * 2 ^ 8 := by omega
  rw [h1, h2, bvI_shl x (by omega), h3, or_add (by omega), bvI_add, bvI_mul, bvI_of, bvI_of]
  omega
/-- a truth as a number -/
def bz (p : Prop) [Decidable p] : Int32 := if p then Int32.ofNat 1 else Int32.ofNat 0
theorem bz_0 {p : Prop} [Decidable p] : bz p = Int32.ofNat 0 ↔ ¬ p := by
  unfold bz
  split
  · rename_i h; exact ⟨fun z => absurd z (by decide), fun z => absurd h z⟩
  · rename_i h; exact ⟨fun _ => h, fun _ => rfl⟩
theorem bz_01 {p : Prop} [Decidable p] : bz p = Int32.ofNat 0 ∨ bz p = Int32.ofNat 1 := by
  unfold bz
  split
  · exact Or.inr rfl
  · exact Or.inl rfl
theorem bz_t {p : Prop} [Decidable p] (h : p) : Int32.ofNat 1 = bz p := (if_pos h).symm
theorem bz_f {p : Prop} [Decidable p] (h : ¬ p) : Int32.ofNat 0 = bz p := (if_neg h).symm
theorem bz_iff {p q : Prop} [Decidable p] [Decidable q] (h : p ↔ q) : bz p = bz q := by
  unfold bz
  by_cases hp : p
  · rw [if_pos hp, if_pos (h.mp hp)]
  · rw [if_neg hp, if_neg (fun z => hp (h.mpr z))]
