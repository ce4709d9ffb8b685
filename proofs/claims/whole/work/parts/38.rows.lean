/-! what the edits answer, and the state behind them -/
theorem kv_row {s : KS} (h : KV0 s) {n : Int} {f : Int → Int} (hv : VR f n) : KV0 (s.row n f) := ⟨hv, h.2⟩
theorem VR.at {f : Int → Int} {n : Int} (h : VR f n) {j : Int} (a : 0 ≤ j ∧ j < n) : gd (f j) := h.2 j a.1 a.2
theorem gd_sgn {c : Int} (h : sgn c) : gd c := by
  have hb : 0 ≤ c ∧ c < 128 := by rcases h with ((h | h | h) | (h | h | h)) | h | h <;> omega
  have e : c % 128 = c := by omega
  exact ⟨by omega, by rw [e]; exact h, by omega⟩
theorem gd_trn {c : Int} (h : sgn c) : gd (trn c) := by
  refine gd_sgn ?_
  unfold trn
  repeat' split
  · exact Or.inl (Or.inr (Or.inl rfl))
  · exact Or.inl (Or.inl (Or.inl rfl))
  · exact Or.inl (Or.inr (Or.inr (Or.inl rfl)))
  · exact Or.inl (Or.inl (Or.inr (Or.inl rfl)))
  · exact Or.inl (Or.inr (Or.inr (Or.inr rfl)))
  · exact Or.inl (Or.inl (Or.inr (Or.inr rfl)))
  · exact h
theorem gd_mark {c x : Int} (h : gd c) (ho : opn (c % 128)) (hx : x = 0 ∨ x = 1) : gd (c % 128 + 128 * x) := by
  have e : (c % 128 + 128 * x) % 128 = c % 128 := by omega
  refine ⟨by omega, ?_, fun _ => ?_⟩
  · rw [e]; exact h.2.1
  · rw [e]; exact ho
theorem VR_iu {f : Int → Int} {n i c : Int} (h : VR f n) (hc : gd c) : VR (iu f i c) n := by
  refine ⟨h.1, fun j a b => ?_⟩
  simp only [iu]
  split
  · exact hc
  · exact h.2 j a b
theorem VR_ins {f : Int → Int} {n i c : Int} (h : VR f n) (hi : 0 ≤ i ∧ i ≤ n ∧ n < 60) (hc : gd c) : VR (iu (icp f f i (i + 1) (n - i)) i c) (n + 1) := by
  refine ⟨by have := h.1; omega, fun j a b => ?_⟩
  simp only [iu, icp]
  repeat' split
  all_goals first | exact hc | exact h.2 _ (by omega) (by omega)
theorem VR_drop {f : Int → Int} {n i m : Int} (h : VR f n) (hi : 0 ≤ i ∧ 1 ≤ m ∧ i + m ≤ n) : VR (icp f f (i + m) i (n - i - m)) (n - m) := by
  refine ⟨by have := h.1; omega, fun j a b => ?_⟩
  simp only [icp]
  repeat' split
  all_goals exact h.2 _ (by omega) (by omega)
theorem VR_move {f : Int → Int} {n i m p : Int} (h : VR f n) (hi : 0 ≤ i ∧ 1 ≤ m ∧ i + m ≤ n ∧ 0 ≤ p ∧ p ≤ n ∧ (p ≤ i ∨ i + m ≤ p)) : VR (if p ≤ i then sw f p i (i + m) else sw f i (i + m) p) n := by
  refine ⟨h.1, fun j a b => ?_⟩
  split <;> simp only [sw] <;> repeat' split
  all_goals exact h.2 _ (by omega) (by omega)
abbrev cpF (f : Int → Int) (n i m p : Int) : Int → Int := fun t => if t < p then f t else if t < p + m then f (i + (t - p)) else if t < n + m then f (t - m) else f t
theorem VR_copy {f : Int → Int} {n i m p : Int} (h : VR f n) (hi : 0 ≤ i ∧ 1 ≤ m ∧ i + m ≤ n ∧ 0 ≤ p ∧ p ≤ n ∧ n + m ≤ 60) : VR (cpF f n i m p) (n + m) := by
  refine ⟨by have := h.1; omega, fun j a b => ?_⟩
  simp only [cpF]
  repeat' split
  all_goals exact h.2 _ (by omega) (by omega)
abbrev tnF (f : Int → Int) (i m : Int) : Int → Int := fun t => if i ≤ t ∧ t < i + m then trn (f (i + (i + m) - 1 - t) % 128) else f t
theorem VR_turn {f : Int → Int} {n i m : Int} (h : VR f n) (hi : 0 ≤ i ∧ 1 ≤ m ∧ i + m ≤ n) : VR (tnF f i m) n := by
  refine ⟨h.1, fun j a b => ?_⟩
  simp only [tnF]
  split
  · exact gd_trn (h.2 _ (by omega) (by omega)).2.1
  · exact h.2 _ a b
def qFeed (s : KS) (c : Int) : Int × KS := if c < 0 ∨ 127 < c then (-1, s) else if 160 ≤ s.tl then (-3, s) else (s.tl + 1, s.tape (s.tl + 1) (iu s.tb s.tl c))
def qEnd (s : KS) (c : Int) : Int × KS := if c < 0 ∨ s.tl < c then (-1, s) else (s.tl, s.tape c s.tb)
def qPut (s : KS) (i c : Int) : Int × KS := if ¬ (0 ≤ i ∧ i < s.n) ∨ ¬ sgn c then (-1, s) else (s.f i % 128, (s.row s.n (iu s.f i c)).ed)
def qInsert (s : KS) (i c : Int) : Int × KS := if ¬ (0 ≤ i ∧ i ≤ s.n) ∨ ¬ sgn c then (-1, s) else if 60 ≤ s.n then (-3, s) else (s.n + 1, (s.row (s.n + 1) (iu (icp s.f s.f i (i + 1) (s.n - i)) i c)).ed)
abbrev part (s : KS) (i m : Int) : Prop := 0 ≤ i ∧ i < s.n ∧ 1 ≤ m ∧ m ≤ s.n - i
def qDrop (s : KS) (i m : Int) : Int × KS := if ¬ part s i m then (-1, s) else (s.n - m, (s.row (s.n - m) (icp s.f s.f (i + m) i (s.n - i - m))).ed)
def qMove (s : KS) (i m p : Int) : Int × KS := if ¬ (part s i m ∧ (0 ≤ p ∧ p ≤ s.n) ∧ (p ≤ i ∨ i + m ≤ p)) then (-1, s) else (1, (s.row s.n (if p ≤ i then sw s.f p i (i + m) else sw s.f i (i + m) p)).ed)
def qCopy (s : KS) (i m p : Int) : Int × KS := if ¬ (part s i m ∧ (0 ≤ p ∧ p ≤ s.n)) then (-1, s) else if 60 - s.n < m then (-3, s) else (s.n + m, (s.row (s.n + m) (cpF s.f s.n i m p)).ed)
def qTurn (s : KS) (i m : Int) : Int × KS := if ¬ part s i m then (-1, s) else (smI (fun j => bI (brk (rv s.f i (i + m) (i + j) % 128))) m, (s.row s.n (tnF s.f i m)).ed)
def qMark (s : KS) (i x : Int) : Int × KS := if ¬ ((0 ≤ i ∧ i < s.n) ∧ (0 ≤ x ∧ x ≤ 1) ∧ opn (s.f i % 128)) then (-1, s) else (bI (128 ≤ s.f i), (s.row s.n (iu s.f i (s.f i % 128 + 128 * x))).ed)

theorem TB_app {tl : Int} {tb : Int → Int} {c : Int} (h : TB tl tb) (hl : tl < 160) (hc : 0 ≤ c ∧ c ≤ 127) : TB (tl + 1) (iu tb tl c) := by
  refine ⟨by have := h.1; omega, fun j a b => ?_⟩
  simp only [iu]
  split
  · exact hc
  · exact h.2 j a (by omega)
theorem kv_tape {s : KS} (h : KV s) {tl : Int} {tb : Int → Int} (ht : TB tl tb) : KV (s.tape tl tb) := ⟨⟨h.1.1, h.1.2.1, h.1.2.2.1, h.1.2.2.2.1, h.1.2.2.2.2.1, ht, h.1.2.2.2.2.2.2⟩, h.2⟩
