/-! the tokens of a tape -/
abbrev tkA (tb : Int → Int) (tl i : Int) : Int := sc (fun j => tb j = 32) tl i
def tkK (tb : Int → Int) (tl a : Int) : Int := if tl ≤ a then 0 else if ltr (tb a) then 1 else if fig (tb a) then 2 else if tb a = 34 then 4 else 3
abbrev tkQ (tb : Int → Int) (tl a : Int) : Int := sc (fun j => sgn (tb j)) tl (a + 1)
abbrev tkL (tb : Int → Int) (tl a : Int) : Int := sc (fun j => ltr (tb j)) tl a
abbrev tkN (tb : Int → Int) (tl a : Int) : Int := sc (fun j => fig (tb j)) tl a
def tkB (tb : Int → Int) (tl a : Int) : Int := if tkK tb tl a = 0 then a else if tkK tb tl a = 1 then tkL tb tl a else if tkK tb tl a = 2 then tkN tb tl a else if tkK tb tl a = 4 then tkQ tb tl a + 1 else a + 1
def tkF (tb : Int → Int) (tl a : Int) : Int := if tkK tb tl a = 2 then (if 2 < tkN tb tl a - a then 1 else 0) else if tkK tb tl a = 4 then (if tkQ tb tl a < tl then (if tb (tkQ tb tl a) = 34 then 0 else 1) else 2) else if tkK tb tl a = 3 then (if tb a = 59 then 0 else 1) else 0
def tkP (tb : Int → Int) (tl a : Int) : Int := if tkK tb tl a = 4 then tkQ tb tl a else a
def nv (tb : Int → Int) (a t : Int) : Int := if t = a then 0 else if t = a + 1 then tb a - 48 else if t = a + 2 then (tb a - 48) * 10 + tb (a + 1) - 48 else 0
def TB (tl : Int) (tb : Int → Int) : Prop := (0 ≤ tl ∧ tl ≤ 160) ∧ ∀ j, 0 ≤ j → j < tl → 0 ≤ tb j ∧ tb j ≤ 127
theorem nv_step {tb : Int → Int} {a t v : Int} (h0 : a ≤ t) (hv : t - a ≤ 2 → v = nv tb a t) : (t + 1) - a ≤ 2 → v * 10 + tb t - 48 = nv tb a (t + 1) := by
  intro h
  rw [hv (by omega)]
  unfold nv
  by_cases h1 : t = a
  · subst h1
    rw [if_pos rfl, if_neg (by omega), if_pos rfl]; omega
  · have h2 : t = a + 1 := by omega
    subst h2
    rw [if_neg h1, if_pos rfl, if_neg (by omega), if_neg (by omega), if_pos (by omega)]
theorem nv_bd {tb : Int → Int} {tl a t : Int} (h0 : a < t) (h2 : t - a ≤ 2) (hf : ∀ j, a ≤ j → j < t → fig (tb j)) : 0 ≤ nv tb a t ∧ nv tb a t ≤ 99 := by
  unfold nv
  rw [if_neg (by omega)]
  have f0 := hf a (by omega) (by omega)
  by_cases h1 : t = a + 1
  · rw [if_pos h1]; omega
  · rw [if_neg h1, if_pos (by omega)]
    have f1 := hf (a + 1) (by omega) (by omega)
    omega
theorem tkA_bd {tb : Int → Int} {tl i : Int} (h : 0 ≤ i ∧ i ≤ tl) : i ≤ tkA tb tl i ∧ tkA tb tl i ≤ tl := by
  have := sc_of (P := fun j => tb j = 32) tl i
  exact ⟨this.1, this.2.1 h.2⟩
theorem tkQ_bd {tb : Int → Int} {tl a : Int} (h : a < tl) : a + 1 ≤ tkQ tb tl a ∧ tkQ tb tl a ≤ tl := by
  have := sc_of (P := fun j => sgn (tb j)) tl (a + 1)
  exact ⟨this.1, this.2.1 (by omega)⟩
theorem tkL_bd {tb : Int → Int} {tl a : Int} (h : a ≤ tl) : a ≤ tkL tb tl a ∧ tkL tb tl a ≤ tl := by
  have := sc_of (P := fun j => ltr (tb j)) tl a
  exact ⟨this.1, this.2.1 (by omega)⟩
theorem tkN_bd {tb : Int → Int} {tl a : Int} (h : a ≤ tl) : a ≤ tkN tb tl a ∧ tkN tb tl a ≤ tl := by
  have := sc_of (P := fun j => fig (tb j)) tl a
  exact ⟨this.1, this.2.1 (by omega)⟩
abbrev nmw (tb : Int → Int) (a b : Int) (w : Nat) : Prop := b - a = jln w ∧ sc (fun j => tb (a + j) = jch w j) (jln w) 0 = jln w
