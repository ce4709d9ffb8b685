/-! the plain one's sheets -/
theorem jI_shl (v : Int) (k : Int32) (n : Nat) (m : Int) (hk : (k.toBitVec.smod 32).toNat = n) (hm : (jI m).toBitVec = BitVec.twoPow 32 n) : jI v <<< k = jI (v * m) := by
  rw [← jI_mul]
  apply Int32.toBitVec_inj.1
  rw [Int32.toBitVec_shiftLeft, Int32.toBitVec_mul, hm, ← BitVec.shiftLeft_eq_mul_twoPow, BitVec.shiftLeft_eq', hk]
theorem jI_shr (z : Int) (k : Int32) (n : Nat) (hk : (k.toBitVec.smod 32).toNat = n) : jI z >>> k = jI (z.bmod 4294967296 / ((2 ^ n : Nat) : Int)) := by
  apply Int32.toBitVec_inj.1
  rw [Int32.toBitVec_shiftRight]
  apply BitVec.eq_of_toInt_eq
  rw [BitVec.toInt_sshiftRight', hk, show (jI z).toBitVec.toInt = z.bmod 4294967296 from BitVec.toInt_ofInt .., Int.shiftRight_eq_div_pow]
  show _ = (BitVec.ofInt 32 _).toInt
  rw [BitVec.toInt_ofInt]
  have h1 := Int.bmod_lt (x := z) (m := 4294967296) (by omega)
  have h2 := Int.le_bmod (x := z) (m := 4294967296) (by omega)
  have hp : (0 : Int) < ((2 ^ n : Nat) : Int) := by have := Nat.two_pow_pos n; omega
  have h3 : z.bmod 4294967296 / ((2 ^ n : Nat) : Int) < 2147483648 := Int.ediv_lt_of_lt_mul hp (by have : (1 : Int) ≤ ((2 ^ n : Nat) : Int) := hp; have h5 := Int.mul_le_mul_of_nonneg_left this (show (0 : Int) ≤ 2147483648 by omega); omega)
  have h4 : -2147483648 ≤ z.bmod 4294967296 / ((2 ^ n : Nat) : Int) := Int.le_ediv_of_mul_le hp (by have : (1 : Int) ≤ ((2 ^ n : Nat) : Int) := hp; have h5 := Int.mul_le_mul_of_nonneg_left this (show (0 : Int) ≤ 2147483648 by omega); omega)
  rw [Int.bmod_eq_of_le (n := z.bmod 4294967296 / ((2 ^ n : Nat) : Int)) (by omega) (by omega)]
theorem lay8 (v : Int) : jI (v * 16777216) >>> (jI 24 &&& 31) = jI (v.bmod 256) := by
  rw [show (jI 24 &&& 31 : Int32) = 24 by decide, jI_shr _ 24 24 (by decide)]
  congr 1
  have h : (v * 16777216).bmod 4294967296 = v.bmod 256 * 16777216 := by
    rw [Int.bmod_def, Int.bmod_def]
    have e : v * 16777216 % 4294967296 = v % 256 * 16777216 := by omega
    show (if v * 16777216 % 4294967296 < (4294967296 + 1) / 2 then v * 16777216 % 4294967296 else v * 16777216 % 4294967296 - 4294967296) = (if v % 256 < (256 + 1) / 2 then v % 256 else v % 256 - 256) * 16777216
    rw [e]
    split <;> split <;> omega
  rw [h]
  show v.bmod 256 * 16777216 / 16777216 = _
  omega
theorem lay16 (v : Int) : jI (v * 65536) >>> (jI 16 &&& 31) = jI (v.bmod 65536) := by
  rw [show (jI 16 &&& 31 : Int32) = 16 by decide, jI_shr _ 16 16 (by decide)]
  congr 1
  have h : (v * 65536).bmod 4294967296 = v.bmod 65536 * 65536 := by
    rw [Int.bmod_def, Int.bmod_def]
    have e : v * 65536 % 4294967296 = v % 65536 * 65536 := by omega
    show (if v * 65536 % 4294967296 < (4294967296 + 1) / 2 then v * 65536 % 4294967296 else v * 65536 % 4294967296 - 4294967296) = (if v % 65536 < (65536 + 1) / 2 then v % 65536 else v % 65536 - 65536) * 65536
    rw [e]
    split <;> split <;> omega
  rw [h]
  show v.bmod 65536 * 65536 / 65536 = _
  omega
theorem shl24 (v : Int) : jI v <<< (jI 24 &&& 31) = jI (v * 16777216) := jI_shl v _ 24 16777216 (by decide) (by decide)
theorem shl16 (v : Int) : jI v <<< (jI 16 &&& 31) = jI (v * 65536) := jI_shl v _ 16 65536 (by decide) (by decide)
abbrev zeF (c : Int → Int) (k m : Int) : Int → Int := fun j => if 40 * k ≤ j ∧ j < 40 * k + m then 0 else c j
theorem MR_made {s : KS} (hk : KV s) {k w m : Int} (hkb : 0 ≤ k ∧ k < 4) (hm : 0 ≤ m ∧ m ≤ 40) {g rs un re ln lg ce : Int → Int} (h : MR s g rs un re ln lg ce) : MR (s.made k w m) g rs un re (iu ln k w) (iu lg k m) (zeF ce k 40) := by
  obtain ⟨hg, him, hrs, hun, hre, hsh⟩ := h
  refine ⟨hg, him, hrs, hun, hre, fun q a b => ?_⟩
  have hs := hk.1.hs q.toNat (by omega)
  by_cases e : q = k
  · subst e
    simp only [KS.made, KS.shts, KS.th, KS.la, KS.sn, KS.sf, if_pos]
    refine ⟨fun z => absurd z (by decide), fun _ => ⟨trivial, trivial, fun j c d => ?_⟩⟩
    rw [if_pos ⟨c, d⟩]
    exact if_pos (by omega)
  · have e2 : ¬ q.toNat = k.toNat := by omega
    have hq := hsh q a b
    simp only [KS.made, KS.shts, KS.th, KS.la, KS.sn, KS.sf, if_neg e2] at hq ⊢
    refine ⟨fun z => (if_neg e).trans (hq.1 z), fun z => ⟨(if_neg e).trans (hq.2 z).1, (if_neg e).trans (hq.2 z).2.1, fun j c d => ?_⟩⟩
    have hs3 := hs.2.2.1
    simp only [KS.sn] at hs3
    exact (if_neg (by omega)).trans ((hq.2 z).2.2 j c d)
theorem MR_laid {s : KS} (hk : KV s) {k i v : Int} (hkb : 0 ≤ k ∧ k < 4) (hi : 0 ≤ i ∧ i < s.sn k.toNat) {g rs un re ln lg ce : Int → Int} (h : MR s g rs un re ln lg ce) : MR (s.laid k i v) g rs un re ln lg (iu ce (40 * k + i) (lanev (s.la k.toNat) v)) := by
  obtain ⟨hg, him, hrs, hun, hre, hsh⟩ := h
  refine ⟨hg, him, hrs, hun, hre, fun q a b => ?_⟩
  have hs := (hk.1.hs q.toNat (by omega)).2.2.1
  have hsk := (hk.1.hs k.toNat (by omega)).2.2.1
  have hq := hsh q a b
  refine ⟨hq.1, fun z => ⟨(hq.2 z).1, (hq.2 z).2.1, fun j c d => ?_⟩⟩
  have d' : j < s.sn q.toNat := d
  have hce := (hq.2 z).2.2 j c d
  show (if 40 * q + j = 40 * k + i then _ else _) = (if q.toNat = k.toNat then iu _ _ _ else _) j
  by_cases e : q = k
  · subst e
    rw [if_pos rfl]
    show _ = (if j = i then _ else _)
    by_cases ej : j = i
    · rw [if_pos (by omega), if_pos ej]
    · rw [if_neg (by omega), if_neg ej]; exact hce
  · rw [if_neg (by omega), if_neg (by omega)]; exact hce
