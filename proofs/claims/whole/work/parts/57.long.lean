/-! longs -/
def lL (z : Int) : Int64 := Int64.ofInt z
theorem lL_add (a b : Int) : lL a + lL b = lL (a + b) := (Int64.ofInt_add a b).symm
theorem lL_sub (a b : Int) : lL a - lL b = lL (a - b) := (Int64.ofInt_sub a b).symm
theorem lL_mul (a b : Int) : lL a * lL b = lL (a * b) := (Int64.ofInt_mul a b).symm
theorem lL_toInt {z : Int} (h1 : -9223372036854775808 ≤ z) (h2 : z ≤ 9223372036854775807) : (lL z).toInt = z := Int64.toInt_ofInt_of_le h1 (by omega)
theorem lL_le {a b : Int} (h1 : -9223372036854775808 ≤ a) (h2 : a ≤ 9223372036854775807) (h3 : -9223372036854775808 ≤ b) (h4 : b ≤ 9223372036854775807) : lL a ≤ lL b ↔ a ≤ b := by
  rw [Int64.le_iff_toInt_le, lL_toInt h1 h2, lL_toInt h3 h4]
theorem lL_lt {a b : Int} (h1 : -9223372036854775808 ≤ a) (h2 : a ≤ 9223372036854775807) (h3 : -9223372036854775808 ≤ b) (h4 : b ≤ 9223372036854775807) : lL a < lL b ↔ a < b := by
  rw [Int64.lt_iff_toInt_lt, lL_toInt h1 h2, lL_toInt h3 h4]
theorem lL_eq {a b : Int} (h1 : -9223372036854775808 ≤ a) (h2 : a ≤ 9223372036854775807) (h3 : -9223372036854775808 ≤ b) (h4 : b ≤ 9223372036854775807) : lL a = lL b ↔ a = b := by
  rw [← Int64.toInt_inj, lL_toInt h1 h2, lL_toInt h3 h4]
theorem iI_long {z : Int} (h1 : -2147483648 ≤ z) (h2 : z ≤ 2147483647) : (iI z).toInt64 = lL z := by
  apply Int64.toInt_inj.mp
  rw [Int32.toInt_toInt64, iI_toInt h1 h2, lL_toInt (by omega) (by omega)]
theorem lL_div {a b : Nat} (ha : a ≤ 9223372036854775807) (h0 : 0 < b) (hb : b ≤ 9223372036854775807) : lL (a : Int) / lL (b : Int) = lL ((a / b : Nat) : Int) := by
  have hle : a / b ≤ a := Nat.div_le_self _ _
  obtain ⟨q, eq⟩ : ∃ q, q = a / b := ⟨_, rfl⟩
  rw [← eq] at hle ⊢
  apply Int64.toInt_inj.mp
  rw [lg_ldiv_nonneg (by rw [lL_toInt (by omega) (by omega)]; omega) (by rw [lL_toInt (by omega) (by omega)]; omega), lL_toInt (z := (a : Int)) (by omega) (by omega), lL_toInt (z := (b : Int)) (by omega) (by omega), lL_toInt (z := (q : Int)) (by omega) (by omega), eq]
  rfl
theorem lL_mod {a b : Nat} (ha : a ≤ 9223372036854775807) (h0 : 0 < b) (hb : b ≤ 9223372036854775807) : lL (a : Int) - lL (a : Int) / lL (b : Int) * lL (b : Int) = lL ((a % b : Nat) : Int) := by
  rw [lL_div ha h0 hb, lL_mul, lL_sub]
  congr 1
  have := Nat.div_add_mod a b
  have h2 : ((b * (a / b) + a % b : Nat) : Int) = (a : Int) := by rw [this]
  rw [Int.natCast_add, Int.natCast_mul, Int.mul_comm] at h2
  omega
theorem l_c : ∀ k, k < 64 → ((iI (k : Nat)).toInt64 &&& 63) = Int64.ofNat k := by decide +kernel
theorem l_sm : ∀ k, k < 64 → (BitVec.ofNat 64 k).smod 64 = BitVec.ofNat 64 k := by decide +kernel
theorem lL_nat (n : Nat) : lL (n : Int) = Int64.ofNat n := Int64.ofInt_eq_ofNat
theorem l_shl (n : Nat) {k : Nat} (hk : k < 64) : lL (n : Int) <<< ((iI (k : Nat)).toInt64 &&& 63) = lL ((n * 2 ^ k : Nat) : Int) := by
  rw [l_c k hk, lL_nat, lL_nat]
  apply Int64.toBitVec_inj.mp
  rw [Int64.toBitVec_shiftLeft, show (Int64.ofNat k).toBitVec = BitVec.ofNat 64 k from rfl, show (Int64.ofNat n).toBitVec = BitVec.ofNat 64 n from rfl, show (Int64.ofNat (n * 2 ^ k)).toBitVec = BitVec.ofNat 64 (n * 2 ^ k) from rfl, l_sm k hk]
  apply BitVec.eq_of_toNat_eq
  rw [BitVec.shiftLeft_eq', BitVec.toNat_shiftLeft, BitVec.toNat_ofNat, BitVec.toNat_ofNat, BitVec.toNat_ofNat, Nat.mod_eq_of_lt (show k < 2 ^ 64 by omega), Nat.shiftLeft_eq, Nat.mul_mod, Nat.mod_mod, ← Nat.mul_mod]
/-! the power at which a ratio has its digits -/
def mOK (a b N m : Nat) : Prop := b * 2 ^ N ≤ a * 2 ^ m ∧ a * 2 ^ m < b * 2 ^ (N + 1)
theorem mOK_one {a b N m m' : Nat} (h : mOK a b N m) (h' : mOK a b N m') : m = m' := by
  have key : ∀ x y, mOK a b N x → mOK a b N y → x < y → False := by
    intro x y hx hy hxy
    have h1 := hx.1
    have h2 := hy.2
    have h3 : 2 ^ (x + 1) ≤ 2 ^ y := Nat.pow_le_pow_right (by decide) hxy
    have h4 : a * 2 ^ (x + 1) ≤ a * 2 ^ y := Nat.mul_le_mul_left a h3
    rw [Nat.pow_succ, ← Nat.mul_assoc] at h4 h2
    omega
  rcases Nat.lt_trichotomy m m' with q | q | q
  · exact (key m m' h h' q).elim
  · exact q
  · exact (key m' m h' h q).elim
/-- digits, rounded half to even -/
def rdg (a b m : Nat) : Nat := a * 2 ^ m / b + (if b < 2 * (a * 2 ^ m % b) ∨ (2 * (a * 2 ^ m % b) = b ∧ a * 2 ^ m / b % 2 = 1) then 1 else 0)
