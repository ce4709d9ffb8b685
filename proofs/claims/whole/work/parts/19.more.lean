theorem nx_no (p : Int → Int) (Q : Int → Prop) [DecidablePred Q] {i : Int} (h : 0 ≤ i) (hp : p i ≤ i) : cA p Q (i + 1) = cB p Q i := by
  rw [cB_cA p Q h, bI_f (fun z => by omega)]; omega
theorem nx_yes (p : Int → Int) (Q : Int → Prop) [DecidablePred Q] {i : Int} (h : 0 ≤ i) (hp : i < p i) : cA p Q (i + 1) = cB p Q i + bI (Q i) := by
  rw [cB_cA p Q h, bI_iff (show (i < p i ∧ Q i) ↔ Q i from ⟨fun z => z.2, fun z => ⟨hp, z⟩⟩)]
theorem prt_not {kd : Int} {f : Int → Int} {n j : Int} (hn : 0 ≤ n) (h : ¬ isK (f j % 128) kd) : prt kd f n j = -4 := by
  by_cases q : prt kd f n j = -4
  · exact q
  · exact absurd (prt_of hn q).2.2.2.2.2.2.1 h
theorem smI_congr {g g' : Int → Int} {i : Int} (h : ∀ j : Int, 0 ≤ j → j < i → g j = g' j) : smI g i = smI g' i := sm_congr _ (fun j a b => h j a (by omega))
theorem mx_bd {g : Int → Int} {b : Int} (hb : 0 ≤ b) : ∀ k : Nat, (∀ j : Int, 0 ≤ j → j < k → g j ≤ b) → 0 ≤ mx g k ∧ mx g k ≤ b
  | 0, _ => by simp [mx]; exact hb
  | k + 1, h => by
    have ih := mx_bd hb k (fun j a c => h j a (by omega))
    have := h k (by omega) (by omega)
    rw [mx]; split <;> omega
theorem mn_bd {g : Int → Int} {i b : Int} (h0 : -b ≤ g i ∧ g i ≤ b) : ∀ k : Nat, (∀ j : Int, i ≤ j → j < i + k → -b ≤ g j ∧ g j ≤ b) → -b ≤ mn g i k ∧ mn g i k ≤ b
  | 0, _ => h0
  | k + 1, h => by
    have ih := mn_bd h0 k (fun j a c => h j a (by omega))
    have := h (i + k) (by omega) (by omega)
    rw [mn]; split <;> omega
theorem mxI_succ (g : Int → Int) {i : Int} (h : 0 ≤ i) : mx g (i + 1).toNat = if mx g i.toNat < g i then g i else mx g i.toNat := by
  rw [show (i + 1).toNat = i.toNat + 1 by omega, mx, show ((i.toNat : Nat) : Int) = i by omega]
theorem mnI_succ (g : Int → Int) (a : Int) {i : Int} (h : a ≤ i) : mn g a (i + 1 - a).toNat = if g i < mn g a (i - a).toNat then g i else mn g a (i - a).toNat := by
  rw [show (i + 1 - a).toNat = (i - a).toNat + 1 by omega, mn, show a + (((i - a).toNat : Nat) : Int) = i by omega]
theorem dnI_succ (P : Int → Prop) [DecidablePred P] {i : Int} (h : 0 ≤ i) : dn P (i + 1).toNat = if P i then i else dn P i.toNat := by
  rw [show (i + 1).toNat = i.toNat + 1 by omega, dn, show ((i.toNat : Nat) : Int) = i by omega]
theorem lgI_succ (f : Int → Int) (n : Int) {i : Int} (h : 0 ≤ i) : lgF f n (i + 1).toNat = if (lgF f n i.toNat).2 < wt f n i - i then (i, wt f n i - i) else lgF f n i.toNat := by
  rw [show (i + 1).toNat = i.toNat + 1 by omega, lgF, show ((i.toNat : Nat) : Int) = i by omega]
theorem wt_bd {f : Int → Int} {n i : Int} (h : i ≤ n) : i ≤ wt f n i ∧ wt f n i ≤ n := by
  have := sc_of (P := fun k => ¬ (brk (f k % 128) ∧ prt 3 f n k < i)) n i
  exact ⟨this.1, this.2.1 h⟩
theorem lg_bd {f : Int → Int} {n : Int} (hn : 0 ≤ n) : ∀ k : Nat, (k : Int) ≤ n → (0 ≤ (lgF f n k).1 ∧ (lgF f n k).1 ≤ n ∧ 0 ≤ (lgF f n k).2 ∧ (lgF f n k).2 ≤ n ∧ ((lgF f n k).2 = 0 ∨ (lgF f n k).2 = wt f n (lgF f n k).1 - (lgF f n k).1))
  | 0, _ => by simp [lgF]; exact hn
  | k + 1, h => by
    have ih := lg_bd (f := f) hn k (by omega)
    have := wt_bd (f := f) (n := n) (i := k) (by omega)
    rw [lgF]; split
    · exact ⟨by omega, by omega, by show 0 ≤ wt f n k - k; omega, by show wt f n k - k ≤ n; omega, Or.inr rfl⟩
    · exact ih
