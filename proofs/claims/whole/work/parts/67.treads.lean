/-! a text, read by the plain one: what its cells tell of the reading -/
theorem JM_post {l : Launch} {Γ : JG} {y : MethodName} {cc : ByteArray} {nL : Nat} {ret : Option FieldType} {fr lo mc ms : Nat} {ad : Nat → Nat} {N : Nat} {E : Nat → va_E} {av : List Value} {post post' : Option Value → (Nat → va_E) → Prop} (h : JM l Γ y cc nL ret fr lo mc ms ad N E av post) (hw : ∀ rv E', post rv E' → post' rv E') : JM l Γ y cc nL ret fr lo mc ms ad N E av post' := by
  intro p e h1 h2 h3 s m args below h4 h5 h6 h7
  obtain ⟨n, o, a1, a2, a3, ⟨⟨rv, E', hv, hp, hj⟩, hf⟩, hl⟩ := h p e h1 h2 h3 s m args below h4 h5 h6 h7
  exact ⟨n, o, a1, a2, a3, ⟨⟨rv, E', hv, hw _ _ hp, hj⟩, hf⟩, hl⟩
abbrev RG (g : Int → Int) (n : Int) (f : Int → Int) : Prop := (0 ≤ n ∧ n ≤ 60) ∧ g 243 = n ∧ ∀ j, 0 ≤ j → j < n → g (183 + j) = f j ∧ sgn (f j)
abbrev BL (r : RS) (b ba ln tk y : Int) : Prop := r.1 = b ∧ r.2.1 = ba ∧ r.2.2.1 = ln ∧ r.2.2.2.1 = tk ∧ r.2.2.2.2.1 = y
def RO (r : RS) (tb : Int → Int) (tl z0 x mg ti t h k v ln tk y : Int) (g ma : Int → Int) : Prop :=
  ∃ (fu : Nat) (i n : Int) (f : Int → Int), (0 ≤ i ∧ i ≤ tl ∧ z0 ≤ i) ∧ tl - i + 1 ≤ (fu : Int) ∧ tkF tb tl h = 0 ∧ h = tkA tb tl i ∧ k = tkK tb tl h ∧ t = tkB tb tl h ∧ (k = 2 → v = nv tb h t) ∧ y = -4 ∧ RG g n f ∧ r = run tb tl fu i x mg ti ln tk n f ma
def PO (r : RS) (tb : Int → Int) (tl z0 x mg ti t ln tk : Int) (g ma : Int → Int) : Prop :=
  ∃ (fu : Nat) (n : Int) (f : Int → Int), (0 ≤ t ∧ t ≤ tl ∧ z0 ≤ t) ∧ tl - t + 1 ≤ (fu : Int) ∧ RG g n f ∧ r = run tb tl fu t x mg ti ln tk n f ma
/-- a token stands read, or a fault -/
def TQ (r : RS) (tb : Int → Int) (tl z0 x mg ti b ba t h k v ln tk y : Int) (g ma : Int → Int) : Prop :=
  ((0 ≤ v ∧ v ≤ 99) ∧ (0 ≤ t ∧ t ≤ 400 ∧ 0 ≤ h ∧ h ≤ 400) ∧ (0 ≤ b ∧ b ≤ 5)) ∧ (b ≠ 0 → BL r b ba ln tk y) ∧ (b = 0 → RO r tb tl z0 x mg ti t h k v ln tk y g ma)
/-- a token is taken, the next one not yet read; or a fault -/
def PD (r : RS) (tb : Int → Int) (tl z0 x mg ti b ba t h v ln tk y : Int) (g ma : Int → Int) : Prop :=
  (0 ≤ b ∧ b ≤ 5) ∧ (b ≠ 0 → ((0 ≤ v ∧ v ≤ 99) ∧ (0 ≤ t ∧ t ≤ 400 ∧ 0 ≤ h ∧ h ≤ 400)) ∧ BL r b ba ln tk y) ∧ (b = 0 → PO r tb tl z0 x mg ti t ln tk g ma)
section Tq
variable {r : RS} {tb : Int → Int} {tl z0 x mg ti b ba t h k v ln tk y : Int} {g ma : Int → Int}
theorem PO_rd {b' ba' t' h' k' v' y' : Int} (hp : PO r tb tl z0 x mg ti t ln tk g ma) (hr : RDp tb tl t b' ba' t' h' k' v' y') : TQ r tb tl z0 x mg ti b' ba' t' h' k' v' ln tk y' g ma := by
  obtain ⟨fu, n, f, ht, hfu, hg, hr0⟩ := hp
  obtain ⟨⟨hv, hb⟩, h1, h2⟩ := hr
  have hbd := tkF_bd tb tl (tkA tb tl t)
  by_cases h0 : tkF tb tl (tkA tb tl t) = 0
  · obtain ⟨e1, e2, e3, e4, e5, e6⟩ := h1 h0
    subst e1 e2
    refine ⟨⟨hv, hb, by omega⟩, fun z => absurd rfl z, fun _ => ⟨fu, t, n, f, ht, hfu, h0, rfl, e3, e4, fun z => ?_, e6, hg, hr0⟩⟩
    rw [e4]; exact e5 (e3.symm.trans z)
  · obtain ⟨e1, e2, e3⟩ := h2 h0
    have hbb : 0 ≤ b' ∧ b' ≤ 5 := by omega
    refine ⟨⟨hv, hb, hbb⟩, fun _ => ?_, fun z => absurd (e1.symm.trans z) h0⟩
    obtain ⟨m, rfl⟩ : ∃ m, fu = m + 1 := ⟨fu - 1, by omega⟩
    rw [hr0, run_f1 h0]
    exact ⟨e1.symm, e2.symm, rfl, rfl, e3.symm⟩
theorem TQ_br {z0' x' mg' ti' : Int} {g' ma' : Int → Int} (hb : b ≠ 0) (hq : TQ r tb tl z0 x mg ti b ba t h k v ln tk y g ma) : PD r tb tl z0' x' mg' ti' b ba t h v ln tk y g' ma' :=
  ⟨hq.1.2.2, fun _ => ⟨⟨hq.1.1, hq.1.2.1⟩, hq.2.1 hb⟩, fun z => absurd z hb⟩
theorem TQ_sw {z0' x' mg' ti' : Int} {g' ma' : Int → Int} (hb : b ≠ 0) (hq : TQ r tb tl z0 x mg ti b ba t h k v ln tk y g ma) : TQ r tb tl z0' x' mg' ti' b ba t h k v ln tk y g' ma' :=
  ⟨hq.1, hq.2.1, fun z => absurd z hb⟩
theorem TQ_lo {z0' : Int} (hz : z0' ≤ z0) (hq : TQ r tb tl z0 x mg ti b ba t h k v ln tk y g ma) : TQ r tb tl z0' x mg ti b ba t h k v ln tk y g ma := by
  refine ⟨hq.1, hq.2.1, fun z => ?_⟩
  obtain ⟨fu, i, n, f, hi, hh⟩ := hq.2.2 z
  exact ⟨fu, i, n, f, by omega, hh⟩
theorem PD_lo {z0' : Int} (hz : z0' ≤ z0) (hq : PD r tb tl z0 x mg ti b ba t h v ln tk y g ma) : PD r tb tl z0' x mg ti b ba t h v ln tk y g ma := by
  refine ⟨hq.1, hq.2.1, fun z => ?_⟩
  obtain ⟨fu, n, f, hi, hh⟩ := hq.2.2 z
  exact ⟨fu, n, f, by omega, hh⟩
theorem TQ_b (hq : TQ r tb tl z0 x mg ti 0 ba t h k v ln tk y g ma) : (0 ≤ h ∧ h ≤ tl ∧ z0 ≤ h) ∧ (k ≠ 0 → h < t ∧ t ≤ tl) ∧ (k = 4 → h + 2 ≤ t) ∧ (0 ≤ k ∧ k ≤ 4) ∧ y = -4 ∧ (0 ≤ g 243 ∧ g 243 ≤ 60) := by
  obtain ⟨fu, i, n, f, hi, hfu, hF, e1, e2, e3, -, e6, hg, -⟩ := hq.2.2 rfl
  have ha := tkA_bd (tb := tb) (tl := tl) (i := i) (by omega)
  have hk := tkK_bd tb tl h
  refine ⟨by omega, fun z => ?_, fun z => ?_, by omega, e6, by rw [hg.2.1]; exact hg.1⟩
  · have := tkB_bd (tb := tb) (tl := tl) (a := h) (by omega) hF (by omega); omega
  · have := tkB_q (tb := tb) (tl := tl) (a := h) (by omega) hF (by omega); omega
theorem TQ_ne {z0' x' mg' ti' : Int} {g' ma' : Int → Int} (hq : TQ r tb tl z0 x mg ti 0 ba t h k v ln tk y g ma) (hk : k ≠ x) (h0 : ¬ (k = 0 ∧ x = 1)) : PD r tb tl z0' x' mg' ti' 2 h t h v ln tk y g' ma' := by
  obtain ⟨⟨hv, hb, -⟩, -, h2⟩ := hq
  obtain ⟨fu, i, n, f, hi, hfu, hF, e1, e2, e3, e5, e6, hg, hr⟩ := h2 rfl
  obtain ⟨m, rfl⟩ : ∃ m, fu = m + 1 := ⟨fu - 1, by omega⟩
  subst e1 e2
  refine ⟨by omega, fun _ => ⟨⟨hv, hb⟩, ?_⟩, fun z => absurd z (by decide)⟩
  rw [hr, run_ne hF hk h0]
  exact ⟨rfl, rfl, rfl, rfl, e6.symm⟩
theorem TQ_fT {n : Int} (hk : k = x) (e5 : k = 2 → v = nv tb h t) : fT tb h t (nv tb h t) x mg ti n = fT tb h t v x mg ti n := fT_v (fun z => (e5 (hk.trans z)).symm)
theorem TQ_bad {c z0' x' mg' ti' : Int} {g' ma' : Int → Int} (hq : TQ r tb tl z0 x mg ti 0 ba t h k v ln tk y g ma) (hk : k = x) (h0 : ¬ (k = 0 ∧ x = 1)) (hf : fT tb h t v x mg ti (g 243) = c) (hc : 1 ≤ c ∧ c ≤ 5) : PD r tb tl z0' x' mg' ti' c h t h v ln tk y g' ma' := by
  obtain ⟨⟨hv, hb, -⟩, -, h2⟩ := hq
  obtain ⟨fu, i, n, f, hi, hfu, hF, e1, e2, e3, e5, e6, hg, hr⟩ := h2 rfl
  obtain ⟨m, rfl⟩ : ∃ m, fu = m + 1 := ⟨fu - 1, by omega⟩
  rw [hg.2.1, ← TQ_fT hk e5] at hf
  subst e3 e1 e2
  refine ⟨by omega, fun _ => ⟨⟨hv, hb⟩, ?_⟩, fun z => by omega⟩
  rw [hr, run_bad hF hk h0 (by rw [hf]; omega)]
  exact ⟨hf, rfl, rfl, rfl, e6.symm⟩
theorem TQ_go {ba' h' v' y' : Int} {g' : Int → Int} (hq : TQ r tb tl z0 x mg ti 0 ba t h k v ln tk y g ma) (hk : k = x) (hx : 1 ≤ x ∧ x ≤ 4) (h0 : ¬ (k = 0 ∧ x = 1)) (ht : x = 4 → 1 ≤ ti) (hf : fT tb h t v x mg ti (g 243) = 0) (hn' : g' 243 = nT h t x ti (g 243)) (hj : ∀ j, 0 ≤ j → j < nT h t x ti (g 243) → g' (183 + j) = if x = 4 ∧ g 243 ≤ j then tb (h + 1 + (j - g 243) % (t - h - 2)) else g (183 + j)) : PD r tb tl (z0 + 1) (xT tb h t x mg) (mkT tb h t x mg) (tiT v x mg ti) 0 ba' t h' v' (lnT x ln) (tkT x tk) y' g' (maT v x mg ma) := by
  obtain ⟨⟨hv, hb, -⟩, -, h2⟩ := hq
  obtain ⟨fu, i, n, f, hi, hfu, hF, e1, e2, e3, e5, e6, hg, hr⟩ := h2 rfl
  obtain ⟨m, rfl⟩ : ∃ m, fu = m + 1 := ⟨fu - 1, by omega⟩
  have hf2 := hf
  rw [hg.2.1] at hf2 hn' hj
  have hf3 := hf2
  rw [← TQ_fT hk e5] at hf3
  have ha := tkA_bd (tb := tb) (tl := tl) (i := i) (by omega)
  have hbb := tkB_bd (tb := tb) (tl := tl) (a := h) (by omega) hF (by omega)
  have e5' : x = 2 → nv tb h t = v := fun z => (e5 (hk.trans z)).symm
  refine ⟨by omega, fun z => absurd rfl z, fun _ => ⟨m, nT h t x ti n, rwT tb h t x ti n f, by omega, by omega, ⟨?_, hn', fun j p q => ⟨?_, ?_⟩⟩, ?_⟩⟩
  · refine nT_ok hg.1 (fun z => ?_) hf2
    have hqq := tkB_q (tb := tb) (tl := tl) (a := h) (by omega) hF (by omega)
    have := ht z
    omega
  · rw [hj j p q]
    unfold rwT nT at *
    by_cases e : x = 4
    · rw [if_pos e] at q
      rw [if_pos e]
      show _ = (if _ then _ else _)
      by_cases hnj : n ≤ j
      · rw [if_pos ⟨e, hnj⟩, if_pos ⟨hnj, q⟩]
      · rw [if_neg (fun z => hnj z.2), if_neg (fun z => hnj z.1)]
        exact (hg.2.2 j p (by omega)).1
    · rw [if_neg e] at q
      rw [if_neg e, if_neg (fun z => e z.1)]
      exact (hg.2.2 j p q).1
  · have := rwT_sgn (tb := tb) (tl := tl) (a := h) (x := x) (ti := ti) (n := n) (f := f) (by omega) hF (by omega) hg.1.1 (fun j p q => (hg.2.2 j p q).2) j p (by rw [← e3]; exact q)
    rw [← e3] at this
    exact this
  · rw [hr]
    subst e1
    rw [run_go hF (by omega) (by omega) (by rw [← e3]; exact hf3), ← e3, tiT_v e5', maT_v e5']
theorem TQ_go1 {ba' h' v' y' : Int} (hq : TQ r tb tl z0 x mg ti 0 ba t h k v ln tk y g ma) (hk : k = x) (hx : 1 ≤ x ∧ x ≤ 3) (h0 : ¬ (k = 0 ∧ x = 1)) (hf : fT tb h t v x mg ti (g 243) = 0) : PD r tb tl (z0 + 1) (xT tb h t x mg) (mkT tb h t x mg) (tiT v x mg ti) 0 ba' t h' v' (lnT x ln) (tkT x tk) y' g (maT v x mg ma) := by
  have hn : nT h t x ti (g 243) = g 243 := by unfold nT; rw [if_neg (by omega)]
  refine TQ_go hq hk (by omega) h0 (by omega) hf hn.symm (fun j p q => ?_)
  rw [if_neg (by omega)]
end Tq
/-! the names, by the plain one's letters -/
abbrev wmN (n : Int) : Nat := if n = 0 then 1 else if n = 1 then 2 else 0
abbrev nmC (tb : Int → Int) (a b k : Int) : Int := if k ≠ 1 then -4 else if nmw tb a b 1 then 0 else if nmw tb a b 2 then 1 else if nmw tb a b 0 then 2 else -4
theorem en_ln {n : Int} (h : 0 ≤ n ∧ n < 3) : enF (n + 1) - enF n = jln (wmN n) ∧ (0 ≤ enF n ∧ enF n ≤ 6) ∧ (0 ≤ enF (n + 1) ∧ enF (n + 1) ≤ 10) ∧ enF n + jln (wmN n) ≤ 10 ∧ (3 ≤ jln (wmN n) ∧ jln (wmN n) ≤ 4) := by
  rcases (show n = 0 ∨ n = 1 ∨ n = 2 by omega) with rfl | rfl | rfl <;> decide
theorem le_ch {n k : Int} (h : 0 ≤ n ∧ n < 3) (hk : 0 ≤ k ∧ k < jln (wmN n)) : leF (enF n + k) = jch (wmN n) k ∧ (0 ≤ leF (enF n + k) ∧ leF (enF n + k) ≤ 127) := by
  have hl := (en_ln h).2.2.2.2
  rcases (show n = 0 ∨ n = 1 ∨ n = 2 by omega) with rfl | rfl | rfl
  · have e : jln (wmN 0) = 3 := by decide
    rcases (show k = 0 ∨ k = 1 ∨ k = 2 by omega) with rfl | rfl | rfl <;> decide
  · have e : jln (wmN 1) = 3 := by decide
    rcases (show k = 0 ∨ k = 1 ∨ k = 2 by omega) with rfl | rfl | rfl <;> decide
  · have e : jln (wmN 2) = 4 := by decide
    rcases (show k = 0 ∨ k = 1 ∨ k = 2 ∨ k = 3 by omega) with rfl | rfl | rfl | rfl <;> decide
theorem nmw_of {tb : Int → Int} {a b : Int} {w : Nat} (hl : b - a = jln w) (h : ∀ j, 0 ≤ j → j < jln w → tb (a + j) = jch w j) (hw : 0 ≤ jln w) : nmw tb a b w := ⟨hl, (sc_all hw).2 h⟩
theorem nmw_to {tb : Int → Int} {a b : Int} {w : Nat} (h : nmw tb a b w) (hw : 0 ≤ jln w) : ∀ j, 0 ≤ j → j < jln w → tb (a + j) = jch w j := (sc_all hw).1 h.2
theorem nmC_bd (tb : Int → Int) (a b k : Int) : nmC tb a b k = -4 ∨ (k = 1 ∧ ((nmC tb a b k = 0 ∧ nmw tb a b 1) ∨ (nmC tb a b k = 1 ∧ nmw tb a b 2 ∧ ¬ nmw tb a b 1) ∨ (nmC tb a b k = 2 ∧ nmw tb a b 0 ∧ ¬ nmw tb a b 1))) := by
  unfold nmC
  by_cases h1 : k ≠ 1
  · rw [if_pos h1]; exact Or.inl rfl
  · rw [if_neg h1]
    have hk : k = 1 := by omega
    by_cases h2 : nmw tb a b 1
    · rw [if_pos h2]; exact Or.inr ⟨hk, Or.inl ⟨rfl, h2⟩⟩
    · rw [if_neg h2]
      by_cases h3 : nmw tb a b 2
      · rw [if_pos h3]; exact Or.inr ⟨hk, Or.inr (Or.inl ⟨rfl, h3, h2⟩)⟩
      · rw [if_neg h3]
        by_cases h4 : nmw tb a b 0
        · rw [if_pos h4]; exact Or.inr ⟨hk, Or.inr (Or.inr ⟨rfl, h4, h2⟩)⟩
        · rw [if_neg h4]; exact Or.inl rfl
theorem nmC_no {tb : Int → Int} {a b k : Int} (hk : k = 1) (h : nmC tb a b k = -4) : ¬ okN tb a b := by
  intro z
  unfold nmC at h
  rw [if_neg (by omega)] at h
  by_cases h2 : nmw tb a b 1
  · rw [if_pos h2] at h; omega
  · rw [if_neg h2] at h
    by_cases h3 : nmw tb a b 2
    · rw [if_pos h3] at h; omega
    · rw [if_neg h3] at h
      by_cases h4 : nmw tb a b 0
      · rw [if_pos h4] at h; omega
      · rcases z with z | z | z
        · exact h4 z
        · exact h2 z
        · exact h3 z
/-- two names at once there are not -/
theorem nmw_20 {tb : Int → Int} {a b : Int} (h : nmw tb a b 2) : ¬ nmw tb a b 0 := by
  intro z
  have h1 := h.1; have h2 := z.1
  have e1 : jln 2 = 3 := by decide
  have e2 : jln 0 = 4 := by decide
  omega
