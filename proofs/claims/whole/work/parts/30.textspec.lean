/-! a text, token by token -/
abbrev okN (tb : Int → Int) (a b : Int) : Prop := nmw tb a b 0 ∨ nmw tb a b 1 ∨ nmw tb a b 2
abbrev okW (mk v : Int) : Prop := (if mk = 1 then 0 else 1) ≤ v ∧ v ≤ (if mk = 1 then 59 else 9)
abbrev okC (ti n a b : Int) : Prop := ti * (b - a - 2) ≤ 60 - n
def fT (tb : Int → Int) (a b v x mk ti n : Int) : Int := if x = 1 then (if okN tb a b then 0 else 2) else if x = 2 then (if okW mk v then 0 else 3) else if x = 4 then (if okC ti n a b then 0 else 5) else 0
def xT (tb : Int → Int) (a b x mk : Int) : Int := if x = 1 then (if nmw tb a b 1 then 4 else 2) else if x = 2 then (if mk = 1 then 3 else 4) else if x = 4 then 3 else 1
def mkT (tb : Int → Int) (a b x mk : Int) : Int := if x = 1 then bI (nmw tb a b 0) else mk
def tiT (v x mk ti : Int) : Int := if x = 1 then 1 else if x = 2 ∧ mk ≠ 1 then v else ti
def lnT (x ln : Int) : Int := if x = 3 then ln + 1 else ln
def tkT (x tk : Int) : Int := if x = 3 then 0 else tk + 1
def nT (a b x ti n : Int) : Int := if x = 4 then n + ti * (b - a - 2) else n
/-- signs behind a row, a part of the tape some times -/
def apF (f : Int → Int) (n : Int) (tb : Int → Int) (s len tot : Int) : Int → Int := fun j => if n ≤ j ∧ j < n + tot then tb (s + (j - n) % len) else f j
def rwT (tb : Int → Int) (a b x ti n : Int) (f : Int → Int) : Int → Int := if x = 4 then apF f n tb (a + 1) (b - a - 2) (ti * (b - a - 2)) else f
def maT (v x mk : Int) (ma : Int → Int) : Int → Int := if x = 2 ∧ mk = 1 then iu ma v 1 else ma
abbrev okP (ma f : Int → Int) (n i : Int) : Prop := ma i = 0 ∨ (i < n ∧ opn (f i % 128))
abbrev okM (ma f : Int → Int) (n : Int) : Prop := sc (fun i => okP ma f n i) 60 0 = 60
abbrev RS : Type := Int × Int × Int × Int × Int × Int × (Int → Int) × (Int → Int)
/-- how a text is read: fault, place, line, token, byte; signs, their bytes, what is to be marked -/
def run (tb : Int → Int) (tl : Int) : Nat → Int → Int → Int → Int → Int → Int → Int → (Int → Int) → (Int → Int) → RS
  | 0, _, _, _, _, ln, tk, n, f, ma => (2, tl, ln, tk, -4, n, f, ma)
  | m + 1, i, x, mg, ti, ln, tk, n, f, ma =>
    if tkF tb tl (tkA tb tl i) ≠ 0 then (tkF tb tl (tkA tb tl i), tkP tb tl (tkA tb tl i), ln, tk, (if tkK tb tl (tkA tb tl i) = 4 then tkQ tb tl (tkA tb tl i) - tkA tb tl i - 1 else -4), n, f, ma)
    else if tkK tb tl (tkA tb tl i) = 0 ∧ x = 1 then ((if okM ma f n then 0 else 6), tl, ln, tk, -4, n, f, ma)
    else if tkK tb tl (tkA tb tl i) ≠ x then (2, tkA tb tl i, ln, tk, -4, n, f, ma)
    else if fT tb (tkA tb tl i) (tkB tb tl (tkA tb tl i)) (nv tb (tkA tb tl i) (tkB tb tl (tkA tb tl i))) x mg ti n ≠ 0 then (fT tb (tkA tb tl i) (tkB tb tl (tkA tb tl i)) (nv tb (tkA tb tl i) (tkB tb tl (tkA tb tl i))) x mg ti n, tkA tb tl i, ln, tk, -4, n, f, ma)
    else run tb tl m (tkB tb tl (tkA tb tl i)) (xT tb (tkA tb tl i) (tkB tb tl (tkA tb tl i)) x mg) (mkT tb (tkA tb tl i) (tkB tb tl (tkA tb tl i)) x mg) (tiT (nv tb (tkA tb tl i) (tkB tb tl (tkA tb tl i))) x mg ti) (lnT x ln) (tkT x tk) (nT (tkA tb tl i) (tkB tb tl (tkA tb tl i)) x ti n) (rwT tb (tkA tb tl i) (tkB tb tl (tkA tb tl i)) x ti n f) (maT (nv tb (tkA tb tl i) (tkB tb tl (tkA tb tl i))) x mg ma)
abbrev mkF (ma f : Int → Int) : Int → Int := fun j => if 0 ≤ j ∧ j < 60 ∧ ma j ≠ 0 then f j % 128 + 128 else f j
theorem tkK_bd (tb : Int → Int) (tl a : Int) : 0 ≤ tkK tb tl a ∧ tkK tb tl a ≤ 4 := by unfold tkK; split <;> (try split) <;> (try split) <;> (try split) <;> omega
theorem tkF_bd (tb : Int → Int) (tl a : Int) : 0 ≤ tkF tb tl a ∧ tkF tb tl a ≤ 2 := by unfold tkF; split <;> (try split) <;> (try split) <;> (try split) <;> omega
theorem fT_bd (tb : Int → Int) (a b v x mk ti n : Int) : 0 ≤ fT tb a b v x mk ti n ∧ fT tb a b v x mk ti n ≤ 5 := by unfold fT; split <;> (try split) <;> (try split) <;> (try split) <;> omega
/-- a good token that is none of the end's -/
theorem tkB_bd {tb : Int → Int} {tl a : Int} (ha : 0 ≤ a ∧ a ≤ tl) (hF : tkF tb tl a = 0) (hK : tkK tb tl a ≠ 0) : a < tl ∧ a < tkB tb tl a ∧ tkB tb tl a ≤ tl := by
  have hlt : a < tl := by
    unfold tkK at hK
    by_cases h : tl ≤ a
    · rw [if_pos h] at hK; omega
    · omega
  have hl := tkL_bd (tb := tb) (tl := tl) (a := a) (by omega)
  have hn := tkN_bd (tb := tb) (tl := tl) (a := a) (by omega)
  have hq := tkQ_bd (tb := tb) (tl := tl) (a := a) hlt
  have hkb := tkK_bd tb tl a
  refine ⟨hlt, ?_⟩
  unfold tkB
  rw [if_neg hK]
  by_cases h1 : tkK tb tl a = 1
  · rw [if_pos h1]
    have : tkL tb tl a ≠ a := by
      intro e
      have hs := (sc_of (P := fun j => ltr (tb j)) tl a).2.2.2
      unfold tkK at h1
      rw [if_neg (by omega)] at h1
      by_cases hlt2 : ltr (tb a)
      · apply hs
        have e' : sc (fun j => ltr (tb j)) tl a = a := e
        rw [e']; exact ⟨hlt, hlt2⟩
      · rw [if_neg hlt2] at h1; split at h1 <;> (try split at h1) <;> omega
    omega
  · rw [if_neg h1]
    by_cases h2 : tkK tb tl a = 2
    · rw [if_pos h2]
      have : tkN tb tl a ≠ a := by
        intro e
        have hs := (sc_of (P := fun j => fig (tb j)) tl a).2.2.2
        unfold tkK at h2
        rw [if_neg (by omega)] at h2
        by_cases hl2 : ltr (tb a)
        · rw [if_pos hl2] at h2; omega
        · rw [if_neg hl2] at h2
          by_cases hf2 : fig (tb a)
          · apply hs
            have e' : sc (fun j => fig (tb j)) tl a = a := e
            rw [e']; exact ⟨hlt, hf2⟩
          · rw [if_neg hf2] at h2; split at h2 <;> omega
      omega
    · rw [if_neg h2]
      by_cases h4 : tkK tb tl a = 4
      · rw [if_pos h4]
        unfold tkF at hF
        rw [if_neg h2, if_pos h4] at hF
        by_cases hq2 : tkQ tb tl a < tl
        · omega
        · rw [if_neg hq2] at hF; omega
      · rw [if_neg h4]; omega
/-- a number's value -/
theorem nv_ok {tb : Int → Int} {tl a : Int} (ha : 0 ≤ a ∧ a ≤ tl) (hF : tkF tb tl a = 0) (hK : tkK tb tl a = 2) : 0 ≤ nv tb a (tkB tb tl a) ∧ nv tb a (tkB tb tl a) ≤ 99 := by
  have hb := tkB_bd ha hF (by omega)
  have e : tkB tb tl a = tkN tb tl a := by unfold tkB; rw [hK]; rfl
  rw [e] at hb ⊢
  refine nv_bd (tl := tl) hb.2.1 ?_ (fun j h1 h2 => (sc_of (P := fun j => fig (tb j)) tl a).2.2.1 j h1 h2)
  unfold tkF at hF
  rw [if_pos hK] at hF
  split at hF <;> omega
theorem tkB_q {tb : Int → Int} {tl a : Int} (ha : 0 ≤ a ∧ a ≤ tl) (hF : tkF tb tl a = 0) (hK : tkK tb tl a = 4) : a + 2 ≤ tkB tb tl a ∧ tkB tb tl a ≤ tl := by
  have hb := tkB_bd ha hF (by omega)
  have hq := tkQ_bd (tb := tb) (tl := tl) (a := a) hb.1
  have e : tkB tb tl a = tkQ tb tl a + 1 := by unfold tkB; rw [hK]; rfl
  omega
theorem mul_bd {a b A B : Int} (h1 : 0 ≤ a ∧ a ≤ A) (h2 : 0 ≤ b ∧ b ≤ B) : 0 ≤ a * b ∧ a * b ≤ A * B := ⟨Int.mul_nonneg h1.1 h2.1, Int.mul_le_mul h1.2 h2.2 h2.1 (by omega)⟩
theorem ap_mod {len t k : Int} (hl : 0 < len) (hk : 0 ≤ k ∧ k < len) : (t * len + k) % len = k := by
  rw [Int.add_comm, Int.add_mul_emod_self_right]
  exact Int.emod_eq_of_lt hk.1 hk.2
