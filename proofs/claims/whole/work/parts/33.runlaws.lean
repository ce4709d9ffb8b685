/-! how the reading goes on -/
section Run
variable {tb : Int → Int} {tl : Int} {m : Nat} {i x mg ti ln tk n : Int} {f ma : Int → Int}
theorem run_f1 (h : tkF tb tl (tkA tb tl i) ≠ 0) : run tb tl (m + 1) i x mg ti ln tk n f ma = (tkF tb tl (tkA tb tl i), tkP tb tl (tkA tb tl i), ln, tk, (if tkK tb tl (tkA tb tl i) = 4 then tkQ tb tl (tkA tb tl i) - tkA tb tl i - 1 else -4), n, f, ma) := by
  rw [run, if_pos h]
theorem run_end (h : tkF tb tl (tkA tb tl i) = 0) (hk : tkK tb tl (tkA tb tl i) = 0) (hx : x = 1) : run tb tl (m + 1) i x mg ti ln tk n f ma = ((if okM ma f n then 0 else 6), tl, ln, tk, -4, n, f, ma) := by
  rw [run, if_neg (fun z => z h), if_pos ⟨hk, hx⟩]
theorem run_ne (h : tkF tb tl (tkA tb tl i) = 0) (hk : tkK tb tl (tkA tb tl i) ≠ x) (h0 : ¬ (tkK tb tl (tkA tb tl i) = 0 ∧ x = 1)) : run tb tl (m + 1) i x mg ti ln tk n f ma = (2, tkA tb tl i, ln, tk, -4, n, f, ma) := by
  rw [run, if_neg (fun z => z h), if_neg h0, if_pos hk]
theorem run_bad (h : tkF tb tl (tkA tb tl i) = 0) (hk : tkK tb tl (tkA tb tl i) = x) (h0 : ¬ (tkK tb tl (tkA tb tl i) = 0 ∧ x = 1)) (ht : fT tb (tkA tb tl i) (tkB tb tl (tkA tb tl i)) (nv tb (tkA tb tl i) (tkB tb tl (tkA tb tl i))) x mg ti n ≠ 0) : run tb tl (m + 1) i x mg ti ln tk n f ma = (fT tb (tkA tb tl i) (tkB tb tl (tkA tb tl i)) (nv tb (tkA tb tl i) (tkB tb tl (tkA tb tl i))) x mg ti n, tkA tb tl i, ln, tk, -4, n, f, ma) := by
  rw [run, if_neg (fun z => z h), if_neg h0, if_neg (fun z => z hk), if_pos ht]
theorem run_go (h : tkF tb tl (tkA tb tl i) = 0) (hk : tkK tb tl (tkA tb tl i) = x) (h0 : ¬ (tkK tb tl (tkA tb tl i) = 0 ∧ x = 1)) (ht : fT tb (tkA tb tl i) (tkB tb tl (tkA tb tl i)) (nv tb (tkA tb tl i) (tkB tb tl (tkA tb tl i))) x mg ti n = 0) : run tb tl (m + 1) i x mg ti ln tk n f ma = run tb tl m (tkB tb tl (tkA tb tl i)) (xT tb (tkA tb tl i) (tkB tb tl (tkA tb tl i)) x mg) (mkT tb (tkA tb tl i) (tkB tb tl (tkA tb tl i)) x mg) (tiT (nv tb (tkA tb tl i) (tkB tb tl (tkA tb tl i))) x mg ti) (lnT x ln) (tkT x tk) (nT (tkA tb tl i) (tkB tb tl (tkA tb tl i)) x ti n) (rwT tb (tkA tb tl i) (tkB tb tl (tkA tb tl i)) x ti n f) (maT (nv tb (tkA tb tl i) (tkB tb tl (tkA tb tl i))) x mg ma) := by
  rw [run, if_neg (fun z => z h), if_neg h0, if_neg (fun z => z hk), if_neg (fun z => z ht)]
theorem fT_v {a b v v' : Int} (h : x = 2 → v = v') : fT tb a b v x mg ti n = fT tb a b v' x mg ti n := by
  by_cases h2 : x = 2
  · rw [h h2]
  · unfold fT; rw [if_neg h2, if_neg h2]
theorem tiT_v {v v' : Int} (h : x = 2 → v = v') : tiT v x mg ti = tiT v' x mg ti := by
  by_cases h2 : x = 2
  · rw [h h2]
  · unfold tiT
    have e : ¬ (x = 2 ∧ mg ≠ 1) := fun z => h2 z.1
    simp only [if_neg e]
theorem maT_v {v v' : Int} (h : x = 2 → v = v') : maT v x mg ma = maT v' x mg ma := by
  by_cases h2 : x = 2
  · rw [h h2]
  · unfold maT; rw [if_neg (fun z => h2 z.1), if_neg (fun z => h2 z.1)]
theorem xT_bd (tb : Int → Int) (a b x mg : Int) : 1 ≤ xT tb a b x mg ∧ xT tb a b x mg ≤ 4 := by unfold xT; split <;> (try split) <;> (try split) <;> (try split) <;> omega
theorem mkT_bd {a b : Int} (h : mg = 0 ∨ mg = 1) : mkT tb a b x mg = 0 ∨ mkT tb a b x mg = 1 := by
  unfold mkT; split
  · exact bI_bd _
  · exact h
theorem te_ok {a b v : Int} (hx : 1 ≤ x ∧ x ≤ 4) (ht : fT tb a b v x mg ti n = 0) (h4 : xT tb a b x mg = 4) : 1 ≤ tiT v x mg ti ∧ tiT v x mg ti ≤ 9 := by
  unfold xT at h4
  unfold tiT
  by_cases h1 : x = 1
  · rw [if_pos h1]; omega
  · rw [if_neg h1] at h4 ⊢
    by_cases h2 : x = 2
    · rw [if_pos h2] at h4
      by_cases hm : mg = 1
      · rw [if_pos hm] at h4; omega
      · rw [if_pos ⟨h2, hm⟩]
        unfold fT at ht
        rw [if_neg h1, if_pos h2] at ht
        by_cases hw : okW mg v
        · have := hw; unfold okW at this; rw [if_neg hm, if_neg hm] at this; exact this
        · rw [if_neg hw] at ht; omega
    · rw [if_neg h2] at h4; split at h4 <;> omega
theorem nT_ok {a b v : Int} (hn : 0 ≤ n ∧ n ≤ 60) (hq : x = 4 → a + 2 ≤ b ∧ 1 ≤ ti) (ht : fT tb a b v x mg ti n = 0) : 0 ≤ nT a b x ti n ∧ nT a b x ti n ≤ 60 := by
  unfold nT
  by_cases h4 : x = 4
  · rw [if_pos h4]
    unfold fT at ht
    rw [if_neg (by omega), if_neg (by omega), if_pos h4] at ht
    by_cases hc : okC ti n a b
    · have h1 : ti * (b - a - 2) ≤ 60 - n := hc
      have h2 : 0 ≤ ti * (b - a - 2) := Int.mul_nonneg (by have := hq h4; omega) (by have := hq h4; omega)
      omega
    · rw [if_neg hc] at ht; omega
  · rw [if_neg h4]; exact hn
theorem maT_ok {v : Int} (h : ∀ j, 0 ≤ j → j < 60 → ma j = 0 ∨ ma j = 1) : ∀ j, 0 ≤ j → j < 60 → maT v x mg ma j = 0 ∨ maT v x mg ma j = 1 := by
  intro j h0 h1
  unfold maT
  split
  · show (if j = v then (1 : Int) else ma j) = 0 ∨ (if j = v then (1 : Int) else ma j) = 1
    split
    · exact Or.inr rfl
    · exact h j h0 h1
  · exact h j h0 h1
end Run
