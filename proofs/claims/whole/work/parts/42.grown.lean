/-! grown signs, and signs read from a sheet -/
theorem jI_shr16 (z : Int) : jI z >>> (jI 16 &&& 31) = jI (z.bmod 4294967296 / 65536) := by
  rw [show (jI 16 &&& 31 : Int32) = 16 by decide]
  apply Int32.toBitVec_inj.1
  rw [Int32.toBitVec_shiftRight]
  apply BitVec.eq_of_toInt_eq
  rw [BitVec.toInt_sshiftRight', show ((16 : Int32).toBitVec.smod 32).toNat = 16 by decide, show (jI z).toBitVec.toInt = z.bmod 4294967296 from BitVec.toInt_ofInt .., Int.shiftRight_eq_div_pow]
  show _ = (BitVec.ofInt 32 _).toInt
  rw [BitVec.toInt_ofInt]
  have h1 := Int.bmod_lt (x := z) (m := 4294967296) (by omega)
  have h2 := Int.le_bmod (x := z) (m := 4294967296) (by omega)
  rw [Int.bmod_eq_of_le (n := z.bmod 4294967296 / 65536) (by omega) (by omega)]
  rfl
theorem bm16 (z : Int) : z.bmod 4294967296 / 65536 % 32768 = z / 65536 % 32768 := by
  have h : z.bmod 4294967296 = z - 4294967296 * ((z - z.bmod 4294967296) / 4294967296) := by
    have : (4294967296 : Int) ∣ z - z.bmod 4294967296 := Int.dvd_self_sub_bmod
    omega
  omega
abbrev nz (z : Int) : Int := z * 1103515245 + 12345
abbrev gt (z : Int) : Int := nz z / 65536 % 32768
abbrev gp (z n : Int) : Int := gt z % (n + 1)
abbrev gc (z : Int) : Int := jgrown.getD (gt z / 64 % 9).toNat 0
def grw (m : Int) : Nat → Int → Int → Int → (Int → Int) → Int × Int × (Int → Int)
  | 0, _, c, n, f => (c, n, f)
  | t + 1, z, c, n, f => if c < m ∧ n < 60 then grw m t (nz z) (c + 1) (n + 1) (iu (icp f f (gp z n) (gp z n + 1) (n - gp z n)) (gp z n) (gc z)) else (c, n, f)
theorem gc_sgn (z : Int) : sgn (gc z) := by
  have h : ∀ i : Nat, i < 9 → sgn (jgrown.getD i 0) := by decide
  exact h _ (by omega)
def qGrow (s : KS) (z m : Int) : Int × KS := if m < 1 ∨ 30 < m then (-1, s) else ((grw m 31 z 0 s.n s.f).1, (s.row (grw m 31 z 0 s.n s.f).2.1 (grw m 31 z 0 s.n s.f).2.2).ed)
abbrev rdP (s : KS) (k w st c : Int) : Prop := faN s k w (st + c) = 0 ∧ sgn (s.sf k.toNat (st + c)) ∧ c < 60 - s.n
abbrev rdC (s : KS) (k w st m : Int) : Int := sc (fun c => rdP s k w st c) m 0
abbrev rdF (s : KS) (k st c : Int) : Int → Int := fun j => if s.n ≤ j ∧ j < s.n + c then s.sf k.toNat (st + (j - s.n)) else s.f j
def qRead (s : KS) (k w st m : Int) : Int × KS := if ¬ ((0 ≤ k ∧ k < 4) ∧ (0 ≤ w ∧ w < 3) ∧ 0 ≤ m ∧ m ≤ 40) then (-1, s) else if rdC s k w st m < m ∧ faN s k w (st + rdC s k w st m) = 0 then (-20 - rdC s k w st m, s) else (rdC s k w st m, ((s.row (s.n + rdC s k w st m) (rdF s k st (rdC s k w st m))).torn (if rdC s k w st m < m then faN s k w (st + rdC s k w st m) else 0)).ed)
