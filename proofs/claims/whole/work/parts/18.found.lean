/-! searches; what is found of a row -/
def scn (P : Int → Prop) [DecidablePred P] : Nat → Int → Int
  | 0, i => i
  | k + 1, i => if P i then scn P k (i + 1) else i
/-- from i on, below e: the first place that P leaves out (or e) -/
abbrev sc (P : Int → Prop) [DecidablePred P] (e i : Int) : Int := scn P (e - i).toNat i
theorem sc_stop {P : Int → Prop} [DecidablePred P] {e i : Int} (h : ¬ (i < e ∧ P i)) : sc P e i = i := by
  show scn P (e - i).toNat i = i
  cases hk : (e - i).toNat with
  | zero => rfl
  | succ k => rw [scn, if_neg (fun z => h ⟨by omega, z⟩)]
theorem sc_go {P : Int → Prop} [DecidablePred P] {e i : Int} (h : i < e) (hP : P i) : sc P e (i + 1) = sc P e i := by
  show scn P (e - (i + 1)).toNat (i + 1) = scn P (e - i).toNat i
  rw [show (e - i).toNat = (e - (i + 1)).toNat + 1 by omega, scn, if_pos hP]
theorem sc_bd {P : Int → Prop} [DecidablePred P] : ∀ (k : Nat) (e i : Int), (e - i).toNat = k → (i ≤ sc P e i ∧ (i ≤ e → sc P e i ≤ e) ∧ (∀ t, i ≤ t → t < sc P e i → P t) ∧ ¬ (sc P e i < e ∧ P (sc P e i)))
  | 0, e, i, hk => by
    rw [sc_stop (by omega)]
    exact ⟨by omega, fun h => h, fun t a b => by omega, by omega⟩
  | k + 1, e, i, hk => by
    by_cases hP : P i
    · have ih := sc_bd (P := P) k e (i + 1) (by omega)
      rw [sc_go (by omega) hP] at ih
      refine ⟨by omega, fun _ => ih.2.1 (by omega), fun t a b => ?_, ih.2.2.2⟩
      by_cases ht : t = i
      · subst ht; exact hP
      · exact ih.2.2.1 t (by omega) b
    · rw [sc_stop (fun z => hP z.2)]
      exact ⟨by omega, fun h => h, fun t a b => by omega, fun z => hP z.2⟩
theorem sc_of {P : Int → Prop} [DecidablePred P] (e i : Int) : i ≤ sc P e i ∧ (i ≤ e → sc P e i ≤ e) ∧ (∀ t, i ≤ t → t < sc P e i → P t) ∧ ¬ (sc P e i < e ∧ P (sc P e i)) := sc_bd _ e i rfl
theorem sc_is {P : Int → Prop} [DecidablePred P] {e i r : Int} (h1 : i ≤ r) (h2 : ∀ t, i ≤ t → t < r → t < e ∧ P t) (h3 : ¬ (r < e ∧ P r)) : sc P e i = r := by
  obtain ⟨a, -, c, d⟩ := sc_of (P := P) e i
  rcases Int.lt_trichotomy (sc P e i) r with h | h | h
  · exact absurd (h2 _ a h) d
  · exact h
  · refine absurd ⟨?_, c r h1 h⟩ h3
    by_cases hr : r < e
    · exact hr
    · have := (sc_of (P := P) e i).2.1
      by_cases hie : i ≤ e
      · have := this hie; omega
      · rw [sc_stop (by omega)] at h; omega
theorem sc_congr {P Q : Int → Prop} [DecidablePred P] [DecidablePred Q] {e i : Int} (h : ∀ t, i ≤ t → t < e → (P t ↔ Q t)) : sc P e i = sc Q e i := by
  obtain ⟨a, b, c, d⟩ := sc_of (P := Q) e i
  by_cases hie : i ≤ e
  · refine sc_is a (fun t h1 h2 => ⟨by have := b hie; omega, (h t h1 (by have := b hie; omega)).mpr (c t h1 h2)⟩) (fun z => d ⟨z.1, (h _ a z.1).mp z.2⟩)
  · rw [sc_stop (by omega), sc_stop (by omega)]
/-- below k: the last place that P has, or none -/
def dn (P : Int → Prop) [DecidablePred P] : Nat → Int
  | 0 => -4
  | k + 1 => if P (k : Int) then (k : Int) else dn P k
theorem dn_congr {P Q : Int → Prop} [DecidablePred P] [DecidablePred Q] : ∀ k : Nat, (∀ t : Int, 0 ≤ t → t < k → (P t ↔ Q t)) → dn P k = dn Q k
  | 0, _ => rfl
  | k + 1, h => by
    rw [dn, dn, dn_congr k (fun t a b => h t a (by omega))]
    have := h k (by omega) (by omega)
    by_cases hP : P (k : Int)
    · rw [if_pos hP, if_pos (this.mp hP)]
    · rw [if_neg hP, if_neg (fun z => hP (this.mpr z))]
theorem dn_bd {P : Int → Prop} [DecidablePred P] : ∀ k : Nat, dn P k = -4 ∨ (0 ≤ dn P k ∧ dn P k < k)
  | 0 => Or.inl rfl
  | k + 1 => by
    rw [dn]
    have := dn_bd (P := P) k
    split <;> omega
def mx (g : Int → Int) : Nat → Int
  | 0 => 0
  | k + 1 => if mx g k < g (k : Int) then g (k : Int) else mx g k
def mn (g : Int → Int) (i : Int) : Nat → Int
  | 0 => g i
  | k + 1 => if g (i + (k : Int)) < mn g i k then g (i + (k : Int)) else mn g i k
theorem mx_congr {g g' : Int → Int} : ∀ (k : Nat), (∀ j : Int, 0 ≤ j → j < k → g j = g' j) → mx g k = mx g' k
  | 0, _ => rfl
  | k + 1, h => by rw [mx, mx, mx_congr k (fun j h0 h1 => h j h0 (by omega)), h k (by omega) (by omega)]
theorem mn_congr {g g' : Int → Int} {i : Int} (h0 : g i = g' i) : ∀ (k : Nat), (∀ j : Int, i ≤ j → j < i + k → g j = g' j) → mn g i k = mn g' i k
  | 0, _ => h0
  | k + 1, h => by rw [mn, mn, mn_congr h0 k (fun j a b => h j a (by omega)), h (i + k) (by omega) (by omega)]
/-- a row of signs as it may be -/
def VR (f : Int → Int) (n : Int) : Prop := (0 ≤ n ∧ n ≤ 60) ∧ ∀ j, 0 ≤ j → j < n → ((0 ≤ f j ∧ f j < 256) ∧ sgn (f j % 128) ∧ (128 ≤ f j → opn (f j % 128)))
def dep (f : Int → Int) (j : Int) : Int := smI (fun j => bI (opn (f j % 128)) - bI (clo (f j % 128))) j
def lin (f : Int → Int) (j : Int) : Int := smI (fun j => bI (f j % 128 = 47)) j
def alF (f : Int → Int) (n j : Int) : Int := if brk (f j % 128) then prt (knd (f j % 128)) f n j else -4
abbrev fo (f : Int → Int) (n k : Int) : Prop := k < prt 3 f n k ∧ 128 ≤ f k ∧ lin f k < lin f (prt 3 f n k)
def lvl (f : Int → Int) (n i : Int) : Int := cB (prt 3 f n) (fun _ => True) i
def hidN (f : Int → Int) (n i : Int) : Int := cB (prt 3 f n) (fun k => fo f n k) i
abbrev hid (f : Int → Int) (n i : Int) : Prop := 0 < hidN f n i
abbrev bre (f : Int → Int) (n i : Int) : Prop := brk (f i % 128) ∧ prt 3 f n i = -4
abbrev cla (f : Int → Int) (n i : Int) : Prop := 0 ≤ prt 3 f n i ∧ knd (f i % 128) ≠ knd (f (prt 3 f n i) % 128)
abbrev bel (f : Int → Int) (n w i : Int) : Prop := (w = 2 ∧ i < prt 3 f n i) ∨ (w = 3 ∧ bre f n i) ∨ (w = 4 ∧ i < prt 3 f n i ∧ cla f n i) ∨ (w = 5 ∧ fo f n i) ∨ (w = 6 ∧ hid f n i) ∨ (w = 7 ∧ 128 ≤ f i)
abbrev arP (f : Int → Int) (n kd i k : Int) : Prop := isK (f k % 128) kd ∧ i < (if kd = 3 then prt 3 f n k else alF f n k)
def arF (f : Int → Int) (n i kd : Int) : Int := dn (fun k => arP f n kd i k) i.toNat
def wt (f : Int → Int) (n i : Int) : Int := sc (fun k => ¬ (brk (f k % 128) ∧ prt 3 f n k < i)) n i
def lgF (f : Int → Int) (n : Int) : Nat → Int × Int
  | 0 => (0, 0)
  | k + 1 => if (lgF f n k).2 < wt f n (k : Int) - (k : Int) then ((k : Int), wt f n (k : Int) - (k : Int)) else lgF f n k
def nbF (f : Int → Int) (n i : Int) : Int := if sc (fun k => ¬ bre f n k) n i < n then sc (fun k => ¬ bre f n k) n i else -4
def lbF (f : Int → Int) (n i : Int) : Int := dn (fun k => bre f n k) i.toNat
abbrev snP (f : Int → Int) (n k i : Int) : Prop := ¬ hid f n i ∧ smI (fun j => bI (¬ hid f n j)) i = k
def snF (f : Int → Int) (n k : Int) : Int := if sc (fun i => ¬ snP f n k i) n 0 < n then sc (fun i => ¬ snP f n k i) n 0 else -4
def SV (f : Int → Int) (n : Int) (pa al de sl le hi : Int → Int) : Prop :=
  (∀ j, 0 ≤ j → j < n → pa j = prt 3 f n j) ∧ (∀ j, 0 ≤ j → j < n → al j = alF f n j) ∧ (∀ j, 0 ≤ j → j ≤ n → de j = dep f j) ∧ (∀ j, 0 ≤ j → j ≤ n → sl j = lin f j) ∧ (∀ j, 0 ≤ j → j < n → le j = lvl f n j) ∧ (∀ j, 0 ≤ j → j < n → hi j = bI (hid f n j))
theorem lin_bd (f : Int → Int) {j : Int} (h : 0 ≤ j) : 0 ≤ lin f j ∧ lin f j ≤ j := smB_bd (fun _ => bI_bd _) h
theorem dep_bd (f : Int → Int) {j : Int} (h : 0 ≤ j) : -j ≤ dep f j ∧ dep f j ≤ j := by
  have := sm_bd (g := fun j => bI (opn (f j % 128)) - bI (clo (f j % 128))) (lo := -1) (hi := 1) (fun j => by have := bI_bd (opn (f j % 128)); have := bI_bd (clo (f j % 128)); omega) j.toNat
  have e : dep f j = sm (fun j => bI (opn (f j % 128)) - bI (clo (f j % 128))) j.toNat := rfl
  omega
theorem cAB_bd (p : Int → Int) (Q : Int → Prop) [DecidablePred Q] {i : Int} (h : 0 ≤ i) : (0 ≤ cA p Q i ∧ cA p Q i ≤ i) ∧ (0 ≤ cB p Q i ∧ cB p Q i ≤ i) := ⟨smB_bd (fun _ => bI_bd _) h, smB_bd (fun _ => bI_bd _) h⟩
theorem prt_inv {f : Int → Int} {n i : Int} (hn : 0 ≤ n) (hi : 0 ≤ i) : ∀ k, 0 ≤ k → k < i → (prt 3 f n k = i ↔ k = prt 3 f n i) := by
  intro k h0 h1
  constructor
  · intro h
    have := (prt_of (kd := 3) (f := f) (n := n) (j := k) hn (by omega)).2.2.2.2.2.1
    rw [h] at this; exact this.symm
  · intro h
    have := (prt_of (kd := 3) (f := f) (n := n) (j := i) hn (by omega)).2.2.2.2.2.1
    rw [← h] at this; exact this
theorem lv_in {f : Int → Int} {n i : Int} (Q : Int → Prop) [DecidablePred Q] (hn : 0 ≤ n) (hi : 0 ≤ i) (h : 0 ≤ prt 3 f n i ∧ prt 3 f n i < i) : cA (prt 3 f n) Q i - bI (Q (prt 3 f n i)) = cB (prt 3 f n) Q i := by
  rw [cA_cB (prt 3 f n) Q hi (prt_inv hn hi)]
  unfold bI
  by_cases hQ : Q (prt 3 f n i)
  · rw [if_pos ⟨h.1, h.2, hQ⟩, if_pos hQ]; omega
  · rw [if_neg (fun z => hQ z.2.2), if_neg hQ]; omega
theorem lv_out {f : Int → Int} {n i : Int} (Q : Int → Prop) [DecidablePred Q] (hn : 0 ≤ n) (hi : 0 ≤ i) (h : ¬ (0 ≤ prt 3 f n i ∧ prt 3 f n i < i)) : cA (prt 3 f n) Q i = cB (prt 3 f n) Q i := by
  rw [cA_cB (prt 3 f n) Q hi (prt_inv hn hi), if_neg (fun z => h ⟨z.1, z.2.1⟩)]; omega
/-- the heap of one pass, as the arrays hold it -/
def PR (kd : Int) (f : Int → Int) (n : Int) (g0 : Int → Int) (i top : Int) (h g : Int → Int) : Prop :=
  top = (psI kd f i).1 ∧ (∀ t, 0 ≤ t → t < top → h t = (psI kd f i).2.1 t) ∧ (∀ j, 0 ≤ j → j < n → g j = if isK (f j % 128) kd then (psI kd f i).2.2 j else g0 j)
theorem ps_skip {kd : Int} {f : Int → Int} {i : Int} (hi : 0 ≤ i) (h : ¬ isK (f i % 128) kd) : psI kd f (i + 1) = psI kd f i := by
  rw [psI_succ kd f hi]; unfold pstep; rw [if_neg h]
theorem ps_push {kd : Int} {f : Int → Int} {i : Int} (hi : 0 ≤ i) (h : isK (f i % 128) kd) (ho : opn (f i % 128)) : psI kd f (i + 1) = ((psI kd f i).1 + 1, iu (psI kd f i).2.1 (psI kd f i).1 i, (psI kd f i).2.2) := by
  rw [psI_succ kd f hi]; unfold pstep; rw [if_pos h, if_pos ho]
theorem ps_pop {kd : Int} {f : Int → Int} {i : Int} (hi : 0 ≤ i) (h : isK (f i % 128) kd) (ho : ¬ opn (f i % 128)) (ht : 0 < (psI kd f i).1) : psI kd f (i + 1) = ((psI kd f i).1 - 1, (psI kd f i).2.1, iu (iu (psI kd f i).2.2 i ((psI kd f i).2.1 ((psI kd f i).1 - 1))) ((psI kd f i).2.1 ((psI kd f i).1 - 1)) i) := by
  rw [psI_succ kd f hi]; unfold pstep; rw [if_pos h, if_neg ho, if_pos ht]
theorem ps_none {kd : Int} {f : Int → Int} {i : Int} (hi : 0 ≤ i) (h : isK (f i % 128) kd) (ho : ¬ opn (f i % 128)) (ht : ¬ 0 < (psI kd f i).1) : psI kd f (i + 1) = psI kd f i := by
  rw [psI_succ kd f hi]; unfold pstep; rw [if_pos h, if_neg ho, if_neg ht]
theorem PR_0 {kd : Int} {f : Int → Int} {n : Int} {g0 h : Int → Int} (hg : ∀ j, 0 ≤ j → j < n → isK (f j % 128) kd → g0 j = -4) : PR kd f n g0 0 0 h g0 := by
  refine ⟨rfl, fun t a b => by omega, fun j a b => ?_⟩
  by_cases hk : isK (f j % 128) kd
  · rw [if_pos hk]; exact hg j a b hk
  · rw [if_neg hk]
theorem PR_top {kd : Int} {f : Int → Int} {n : Int} {g0 : Int → Int} {i top : Int} {h g : Int → Int} (hp : PR kd f n g0 i top h g) (hi : 0 ≤ i) : 0 ≤ top ∧ top ≤ i := by
  rw [hp.1]; exact (PI_I kd f hi).1
theorem PR_hp {kd : Int} {f : Int → Int} {n : Int} {g0 : Int → Int} {i top : Int} {h g : Int → Int} (hp : PR kd f n g0 i top h g) (hi : 0 ≤ i) (ht : 0 < top) : 0 ≤ h (top - 1) ∧ h (top - 1) < i := by
  have h1 := (PI_I kd f hi).2.1 (top - 1) (by omega) (by rw [← hp.1]; omega)
  rw [← hp.2.1 (top - 1) (by omega) (by omega)] at h1
  exact ⟨h1.1, h1.2.1⟩
theorem PR_skip {kd : Int} {f : Int → Int} {n : Int} {g0 : Int → Int} {i top : Int} {h g : Int → Int} (hp : PR kd f n g0 i top h g) (hi : 0 ≤ i) (hk : ¬ isK (f i % 128) kd) : PR kd f n g0 (i + 1) top h g := by
  unfold PR; rw [ps_skip hi hk]; exact hp
theorem PR_none {kd : Int} {f : Int → Int} {n : Int} {g0 : Int → Int} {i top : Int} {h g : Int → Int} (hp : PR kd f n g0 i top h g) (hi : 0 ≤ i) (hk : isK (f i % 128) kd) (ho : ¬ opn (f i % 128)) (ht : top ≤ 0) : PR kd f n g0 (i + 1) top h g := by
  unfold PR; rw [ps_none hi hk ho (by rw [← hp.1]; omega)]; exact hp
theorem PR_push {kd : Int} {f : Int → Int} {n : Int} {g0 : Int → Int} {i top : Int} {h g : Int → Int} (hp : PR kd f n g0 i top h g) (hi : 0 ≤ i) (hk : isK (f i % 128) kd) (ho : opn (f i % 128)) : PR kd f n g0 (i + 1) (top + 1) (iu h top i) g := by
  unfold PR; rw [ps_push hi hk ho]
  obtain ⟨h1, h2, h3⟩ := hp
  refine ⟨by rw [h1], fun t a b => ?_, h3⟩
  simp only [iu]
  by_cases ht : t = top
  · rw [if_pos ht, if_pos (by rw [← h1]; exact ht)]
  · rw [if_neg ht, if_neg (by rw [← h1]; exact ht)]
    exact h2 t a (by omega)
theorem PR_pop {kd : Int} {f : Int → Int} {n : Int} {g0 : Int → Int} {i top : Int} {h g : Int → Int} (hp : PR kd f n g0 i top h g) (hi : 0 ≤ i) (hk : isK (f i % 128) kd) (ho : ¬ opn (f i % 128)) (ht : 0 < top) : PR kd f n g0 (i + 1) (top - 1) h (iu (iu g i (h (top - 1))) (h (top - 1)) i) := by
  unfold PR; rw [ps_pop hi hk ho (by rw [← hp.1]; exact ht)]
  obtain ⟨h1, h2, h3⟩ := hp
  obtain ⟨o1, o2, o3, o4, o5⟩ := (PI_I kd f hi).2.1 (top - 1) (by omega) (by rw [← h1]; omega)
  have e := h2 (top - 1) (by omega) (by omega)
  rw [← h1, e]
  refine ⟨rfl, fun t a b => h2 t a (by omega), fun j a b => ?_⟩
  generalize (psI kd f i).2.1 (top - 1) = o at *
  show (if j = o then i else if j = i then o else g j) = if isK (f j % 128) kd then (if j = o then i else if j = i then o else (psI kd f i).2.2 j) else g0 j
  by_cases hjo : j = o
  · subst hjo
    rw [if_pos rfl, if_pos o4, if_pos rfl]
  · rw [if_neg hjo, if_neg hjo]
    by_cases hji : j = i
    · subst hji
      rw [if_pos rfl, if_pos hk, if_pos rfl]
    · rw [if_neg hji, if_neg hji]
      exact h3 j a b
