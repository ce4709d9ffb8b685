/-! numbers: an int of the machine by a whole number -/
def jI (z : Int) : Int32 := Int32.ofInt z
def jL (z : Int) : Int64 := Int64.ofInt z
theorem jI_toInt {z : Int} (h : -2147483648 ≤ z ∧ z < 2147483648) : (jI z).toInt = z := Int32.toInt_ofInt_of_le (by simpa using h.1) (by simpa using h.2)
theorem jL_toInt {z : Int} (h : -9223372036854775808 ≤ z ∧ z < 9223372036854775808) : (jL z).toInt = z := Int64.toInt_ofInt_of_le (by simpa using h.1) (by simpa using h.2)
theorem jI_of (x : Int32) : x = jI x.toInt := (Int32.ofInt_toInt x).symm
theorem jI_bd (x : Int32) : -2147483648 ≤ x.toInt ∧ x.toInt < 2147483648 := ⟨by simpa using Int32.le_toInt x, by simpa using Int32.toInt_lt x⟩
theorem jI_ex (x : Int32) : ∃ z : Int, x = jI z ∧ (-2147483648 ≤ z ∧ z < 2147483648) := ⟨x.toInt, jI_of x, jI_bd x⟩
theorem jI_add (a b : Int) : jI a + jI b = jI (a + b) := (Int32.ofInt_add a b).symm
theorem jI_sub (a b : Int) : jI a - jI b = jI (a - b) := (Int32.ofInt_sub a b).symm
theorem jI_mul (a b : Int) : jI a * jI b = jI (a * b) := (Int32.ofInt_mul a b).symm
theorem jI_neg (a : Int) : -jI a = jI (-a) := (Int32.ofInt_neg a).symm
theorem jL_add (a b : Int) : jL a + jL b = jL (a + b) := (Int64.ofInt_add a b).symm
theorem jI_lt {a b : Int} (ha : -2147483648 ≤ a ∧ a < 2147483648) (hb : -2147483648 ≤ b ∧ b < 2147483648) : jI a < jI b ↔ a < b := by
  rw [Int32.lt_iff_toInt_lt, jI_toInt ha, jI_toInt hb]
theorem jI_le {a b : Int} (ha : -2147483648 ≤ a ∧ a < 2147483648) (hb : -2147483648 ≤ b ∧ b < 2147483648) : jI a ≤ jI b ↔ a ≤ b := by
  rw [Int32.le_iff_toInt_le, jI_toInt ha, jI_toInt hb]
theorem jI_eq {a b : Int} (ha : -2147483648 ≤ a ∧ a < 2147483648) (hb : -2147483648 ≤ b ∧ b < 2147483648) : jI a = jI b ↔ a = b := by
  constructor
  · intro h
    have h1 := congrArg Int32.toInt h
    rwa [jI_toInt ha, jI_toInt hb] at h1
  · intro h; rw [h]
theorem jI_0 : jI 0 = 0 := rfl
theorem jL_lt {a b : Int} (ha : -9223372036854775808 ≤ a ∧ a < 9223372036854775808) (hb : -9223372036854775808 ≤ b ∧ b < 9223372036854775808) : jL a < jL b ↔ a < b := by
  rw [Int64.lt_iff_toInt_lt, jL_toInt ha, jL_toInt hb]
theorem jI_clamp {z : Int} (h : 0 ≤ z ∧ z < 2147483648) : (jI z).toNatClampNeg = z.toNat := by
  show (jI z).toInt.toNat = z.toNat
  rw [jI_toInt (by omega)]
theorem jI_in {z : Int} {n : Nat} (h : 0 ≤ z ∧ z < n) (hn : (n : Int) < 2147483648) : vp_in (jI z) n := by
  rw [vp_in_iff, jI_toInt (by omega)]
  exact h
theorem jI_nat (n : Nat) : Int32.ofNat n = jI n := by
  show Int32.ofNat n = Int32.ofInt (n : Int)
  exact Int32.ofInt_eq_ofNat.symm
theorem jI_nI (n : Nat) : nI n = jI n := jI_nat n
theorem jI_i2l {z : Int} (h : -2147483648 ≤ z ∧ z < 2147483648) : (jI z).toInt64 = jL z := by
  apply Int64.toInt_inj.mp
  rw [Int32.toInt_toInt64, jI_toInt h, jL_toInt (by omega)]
theorem jL_l2i (z : Int) : (jL z).toInt32 = jI z := Int64.toInt32_ofInt
theorem jI_div {a b : Int} (ha : 0 ≤ a ∧ a < 2147483648) (hb : 0 < b ∧ b < 2147483648) : jI a / jI b = jI (a / b) := by
  obtain ⟨n, rfl⟩ : ∃ n : Nat, a = n := ⟨a.toNat, by omega⟩
  obtain ⟨d, rfl⟩ : ∃ d : Nat, b = d := ⟨b.toNat, by omega⟩
  rw [← jI_nI, ← jI_nI, pk_div (by omega) (by omega) (by omega), jI_nI]
  rfl
theorem jI_rem {a b : Int} (ha : 0 ≤ a ∧ a < 2147483648) (hb : 0 < b ∧ b < 2147483648) : jI a - jI a / jI b * jI b = jI (a % b) := by
  obtain ⟨n, rfl⟩ : ∃ n : Nat, a = n := ⟨a.toNat, by omega⟩
  obtain ⟨d, rfl⟩ : ∃ d : Nat, b = d := ⟨b.toNat, by omega⟩
  rw [← jI_nI, ← jI_nI, pk_rem (by omega) (by omega) (by omega), jI_nI]
  rfl
theorem jI_tn (z : Int) : ((jI z).toBitVec.toNat : Int) = z % 4294967296 := by
  show (((BitVec.ofInt 32 z).toNat : Nat) : Int) = _
  rw [BitVec.toNat_ofInt]
  have h : (0 : Int) ≤ z % ((2 ^ 32 : Nat) : Int) := Int.emod_nonneg _ (by decide)
  omega
/-- the lowest bits -/
theorem jI_and (z : Int) {m : Int} (k : Nat) (hm : (jI m).toBitVec.toNat = 2 ^ k - 1) (hk : k ≤ 30) : jI z &&& jI m = jI (z % (2 ^ k : Nat)) := by
  rw [pk_and (jI z) k hm, jI_nI]
  congr 1
  have h := jI_tn z
  have hd : ((2 ^ k : Nat) : Int) ∣ 4294967296 := by
    have : (4294967296 : Int) = ((2 ^ k : Nat) : Int) * ((2 ^ (32 - k) : Nat) : Int) := by
      rw [← Int.natCast_mul, ← Nat.pow_add]
      have : k + (32 - k) = 32 := by omega
      rw [this]; rfl
    exact ⟨_, this⟩
  rw [Int.natCast_emod, h, Int.emod_emod_of_dvd _ hd]
theorem jI_and127 (z : Int) : jI z &&& jI 127 = jI (z % 128) := jI_and z 7 (by decide) (by decide)
theorem jI_and31 (z : Int) : jI z &&& jI 31 = jI (z % 32) := jI_and z 5 (by decide) (by decide)
theorem jI_and32767 (z : Int) : jI z &&& jI 32767 = jI (z % 32768) := jI_and z 15 (by decide) (by decide)
