/-! what signs are -/
abbrev opn (c : Int) : Prop := c = 40 ∨ c = 91 ∨ c = 123
abbrev clo (c : Int) : Prop := c = 41 ∨ c = 93 ∨ c = 125
abbrev brk (c : Int) : Prop := opn c ∨ clo c
abbrev ltr (c : Int) : Prop := 97 ≤ c ∧ c ≤ 122
abbrev fig (c : Int) : Prop := 48 ≤ c ∧ c ≤ 57
abbrev sgn (c : Int) : Prop := brk c ∨ ltr c ∨ c = 47
def knd (c : Int) : Int := if c = 40 ∨ c = 41 then 0 else if c = 91 ∨ c = 93 then 1 else if c = 123 ∨ c = 125 then 2 else -4
def trn (c : Int) : Int := if c = 40 then 41 else if c = 41 then 40 else if c = 91 then 93 else if c = 93 then 91 else if c = 123 then 125 else if c = 125 then 123 else c
theorem knd_brk (c : Int) : (knd c ≠ -4) ↔ brk c := by unfold knd; split <;> (try split) <;> (try split) <;> omega
theorem knd_bd (c : Int) : knd c = -4 ∨ knd c = 0 ∨ knd c = 1 ∨ knd c = 2 := by unfold knd; split <;> (try split) <;> (try split) <;> omega
theorem fit_z {b : Int} (h : b = 0 ∨ b = 1) : fits .boolean (.int (jI b)) = true := by
  rcases h with rfl | rfl <;> rfl
theorem jI_and128 {z : Int} (h : 0 ≤ z ∧ z < 256) : jI z &&& jI 128 = jI (if 128 ≤ z then 128 else 0) := by
  have key : ∀ n : Nat, n < 256 → jI (n : Int) &&& jI 128 = jI (if 128 ≤ (n : Int) then 128 else 0) := by decide +kernel
  have := key z.toNat (by omega)
  rwa [show ((z.toNat : Nat) : Int) = z by omega] at this
theorem jI_or128 {z : Int} (h : 0 ≤ z ∧ z < 128) : jI z ||| jI 128 = jI (z + 128) := by
  have key : ∀ n : Nat, n < 128 → jI (n : Int) ||| jI 128 = jI ((n : Int) + 128) := by decide +kernel
  have := key z.toNat (by omega)
  rwa [show ((z.toNat : Nat) : Int) = z by omega] at this
theorem J_kill {l : Launch} {Γ : JG} {Ω : JO} {nL : Nat} {ad : Nat → Nat} {N k n : Nat} {E : Nat → va_E} {pc : Nat} {L : List (Option Value)} {st : List Value} (i : Nat) (kk : J l Γ Ω nL ad N k n E pc (L.set i none) st) : J l Γ Ω nL ad N k n E pc L st := by
  refine J_loc (fun j v h => ?_) kk
  by_cases hj : j = i
  · subst hj
    by_cases hl : j < L.length
    · rw [List.getElem?_set_self hl] at h; cases h
    · rw [List.getElem?_eq_none (by simp; omega)] at h; cases h
  · rwa [List.getElem?_set_ne (Ne.symm hj)] at h
/-- sums along a row -/
def sm (g : Int → Int) : Nat → Int
  | 0 => 0
  | k + 1 => sm g k + g (k : Int)
abbrev smI (g : Int → Int) (i : Int) : Int := sm g i.toNat
theorem smI_0 (g : Int → Int) : smI g 0 = 0 := rfl
theorem smI_succ (g : Int → Int) {i : Int} (h : 0 ≤ i) : smI g (i + 1) = smI g i + g i := by
  show sm g (i + 1).toNat = _
  rw [show (i + 1).toNat = i.toNat + 1 by omega, sm, show ((i.toNat : Nat) : Int) = i by omega]
theorem sm_congr {g g' : Int → Int} : ∀ (k : Nat), (∀ j : Int, 0 ≤ j → j < k → g j = g' j) → sm g k = sm g' k
  | 0, _ => rfl
  | k + 1, h => by rw [sm, sm, sm_congr k (fun j h0 h1 => h j h0 (by omega)), h k (by omega) (by omega)]
theorem sm_bd {g : Int → Int} {lo hi : Int} (h : ∀ j : Int, lo ≤ g j ∧ g j ≤ hi) : ∀ k : Nat, lo * k ≤ sm g k ∧ sm g k ≤ hi * k
  | 0 => by simp [sm]
  | k + 1 => by
    have h1 := sm_bd h k
    have h2 := h k
    rw [sm]
    have e1 : lo * ((k + 1 : Nat) : Int) = lo * k + lo := by rw [Int.natCast_add, Int.mul_add]; simp
    have e2 : hi * ((k + 1 : Nat) : Int) = hi * k + hi := by rw [Int.natCast_add, Int.mul_add]; simp
    omega
theorem smB_bd {g : Int → Int} (h : ∀ j : Int, g j = 0 ∨ g j = 1) {i : Int} (hi : 0 ≤ i) : 0 ≤ smI g i ∧ smI g i ≤ i := by
  have := sm_bd (g := g) (lo := 0) (hi := 1) (fun j => by have := h j; omega) i.toNat
  have e : smI g i = sm g i.toNat := rfl
  omega
abbrev rv (f : Int → Int) (a b : Int) : Int → Int := fun t => if a ≤ t ∧ t < b then f (a + b - 1 - t) else f t
/-- two parts side by side change places -/
abbrev sw (f : Int → Int) (a m b : Int) : Int → Int := fun t => if a ≤ t ∧ t < a + (b - m) then f (t + (m - a)) else if a + (b - m) ≤ t ∧ t < b then f (t - (b - m)) else f t
theorem rv3 (f : Int → Int) {a m b : Int} (h : a ≤ m ∧ m ≤ b) : rv (rv (rv f a m) m b) a b = sw f a m b := by
  funext t
  simp only [rv, sw]
  repeat' split
  all_goals first | rfl | (exfalso; omega) | (congr 1; omega)
/-- what a cell of a lane keeps of a number -/
def lanev (la v : Int) : Int := if la = 0 then v.bmod 256 else if la = 1 then v.bmod 65536 else v
theorem jI_i2b (v : Int) : (jI v).toInt8.toInt32 = jI (v.bmod 256) := by
  rw [show (jI v).toInt8 = Int8.ofInt v from Int32.toInt8_ofInt]
  apply Int32.toInt_inj.mp
  have h : -128 ≤ v.bmod 256 ∧ v.bmod 256 < 128 := ⟨by have := Int.le_bmod (x := v) (m := 256) (by decide); omega, by have := Int.bmod_lt (x := v) (m := 256) (by decide); omega⟩
  rw [Int8.toInt_toInt32, Int8.toInt_ofInt, jI_toInt (by omega)]
theorem jI_i2s (v : Int) : (jI v).toInt16.toInt32 = jI (v.bmod 65536) := by
  rw [show (jI v).toInt16 = Int16.ofInt v from Int32.toInt16_ofInt]
  apply Int32.toInt_inj.mp
  have h : -32768 ≤ v.bmod 65536 ∧ v.bmod 65536 < 32768 := ⟨by have := Int.le_bmod (x := v) (m := 65536) (by decide); omega, by have := Int.bmod_lt (x := v) (m := 65536) (by decide); omega⟩
  rw [Int16.toInt_toInt32, Int16.toInt_ofInt, jI_toInt (by omega)]
