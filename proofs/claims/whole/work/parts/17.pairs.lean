/-! brackets that belong together: the heap, and what follows from it -/
abbrev isK (c kd : Int) : Prop := brk c ∧ (kd = 3 ∨ knd c = kd)
def pstep (kd c i : Int) (s : Int × (Int → Int) × (Int → Int)) : Int × (Int → Int) × (Int → Int) :=
  if isK c kd then (if opn c then (s.1 + 1, iu s.2.1 s.1 i, s.2.2) else if 0 < s.1 then (s.1 - 1, s.2.1, iu (iu s.2.2 i (s.2.1 (s.1 - 1))) (s.2.1 (s.1 - 1)) i) else s) else s
def pst (kd : Int) (f : Int → Int) : Nat → Int × (Int → Int) × (Int → Int)
  | 0 => (0, fun _ => 0, fun _ => -4)
  | k + 1 => pstep kd (f (k : Int) % 128) (k : Int) (pst kd f k)
abbrev psI (kd : Int) (f : Int → Int) (i : Int) : Int × (Int → Int) × (Int → Int) := pst kd f i.toNat
theorem psI_succ (kd : Int) (f : Int → Int) {i : Int} (h : 0 ≤ i) : psI kd f (i + 1) = pstep kd (f i % 128) i (psI kd f i) := by
  show pst kd f (i + 1).toNat = _
  rw [show (i + 1).toNat = i.toNat + 1 by omega, pst, show ((i.toNat : Nat) : Int) = i by omega]
/-- the partner, by brackets of a kind (3: all) -/
abbrev prt (kd : Int) (f : Int → Int) (n : Int) : Int → Int := (psI kd f n).2.2
theorem pst_congr {kd : Int} {f f' : Int → Int} : ∀ (k : Nat), (∀ j : Int, 0 ≤ j → j < k → f j % 128 = f' j % 128) → pst kd f k = pst kd f' k
  | 0, _ => rfl
  | k + 1, h => by rw [pst, pst, pst_congr k (fun j h0 h1 => h j h0 (by omega)), h k (by omega) (by omega)]
def PI (kd : Int) (c : Int → Int) (i : Int) (top : Int) (hp to : Int → Int) : Prop :=
  (0 ≤ top ∧ top ≤ i) ∧
  (∀ t, 0 ≤ t → t < top → (0 ≤ hp t ∧ hp t < i ∧ to (hp t) = -4 ∧ isK (c (hp t)) kd ∧ opn (c (hp t)))) ∧
  (∀ t u, 0 ≤ t → t < u → u < top → hp t < hp u) ∧
  (∀ j, to j ≠ -4 → (0 ≤ j ∧ j < i ∧ 0 ≤ to j ∧ to j < i ∧ to j ≠ j ∧ to (to j) = j ∧ isK (c j) kd ∧ ((j < to j ∧ opn (c j)) ∨ (to j < j ∧ clo (c j))))) ∧
  (∀ j k, to j ≠ -4 → j < k → k < to j → isK (c k) kd → (to k ≠ -4 ∧ j < to k ∧ to k < to j)) ∧
  (∀ t k, 0 ≤ t → t < top → hp t < k → k < i → isK (c k) kd → ((to k ≠ -4 ∧ hp t < to k) ∨ (∃ u, t < u ∧ u < top ∧ hp u = k)))
theorem PI_0 (kd : Int) (c hp : Int → Int) : PI kd c 0 0 hp (fun _ => -4) := by
  refine ⟨by omega, fun t h1 h2 => by omega, fun t u h1 h2 h3 => by omega, fun j h => absurd rfl h, fun j k h => absurd rfl h, fun t k h1 h2 => by omega⟩
theorem PI_skip {kd : Int} {c : Int → Int} {i top : Int} {hp to : Int → Int} (h : PI kd c i top hp to) (hn : ¬ isK (c i) kd ∨ top = 0) : PI kd c (i + 1) top hp to := by
  obtain ⟨h1, h2, h3, h4, h5, h6⟩ := h
  refine ⟨by omega, fun t a b => ?_, h3, fun j hj => ?_, h5, fun t k a b g1 g2 g3 => ?_⟩
  · obtain ⟨q1, q2, q3⟩ := h2 t a b
    exact ⟨q1, by omega, q3⟩
  · obtain ⟨q1, q2, q3, q4, q5⟩ := h4 j hj
    exact ⟨q1, by omega, q3, by omega, q5⟩
  · by_cases hk : k = i
    · subst hk
      rcases hn with hn | hn
      · exact absurd g3 hn
      · omega
    · exact h6 t k a b g1 (by omega) g3
theorem PI_push {kd : Int} {c : Int → Int} {i top : Int} {hp to : Int → Int} (h : PI kd c i top hp to) (hi : 0 ≤ i) (hk : isK (c i) kd) (ho : opn (c i)) : PI kd c (i + 1) (top + 1) (iu hp top i) to := by
  obtain ⟨h1, h2, h3, h4, h5, h6⟩ := h
  have hti : to i = -4 := by
    by_cases q : to i = -4
    · exact q
    · have := (h4 i q).2.1; omega
  refine ⟨by omega, fun t a b => ?_, fun t u a b g => ?_, fun j hj => ?_, h5, fun t k a b g1 g2 g3 => ?_⟩
  · by_cases ht : t = top
    · subst ht
      simp only [iu, if_true]
      exact ⟨hi, by omega, hti, hk, ho⟩
    · simp only [iu, if_neg ht]
      obtain ⟨q1, q2, q3⟩ := h2 t a (by omega)
      exact ⟨q1, by omega, q3⟩
  · have ht : t ≠ top := by omega
    simp only [iu, if_neg ht]
    by_cases hu : u = top
    · subst hu
      rw [if_pos rfl]
      exact (h2 t a (by omega)).2.1
    · rw [if_neg hu]
      exact h3 t u a b (by omega)
  · obtain ⟨q1, q2, q3, q4, q5⟩ := h4 j hj
    exact ⟨q1, by omega, q3, by omega, q5⟩
  · by_cases ht : t = top
    · subst ht
      simp only [iu, if_true] at g1
      omega
    · simp only [iu, if_neg ht] at g1 ⊢
      by_cases hki : k = i
      · subst hki
        exact Or.inr ⟨top, by omega, by omega, by simp⟩
      · rcases h6 t k a (by omega) g1 (by omega) g3 with q | ⟨u, u1, u2, u3⟩
        · exact Or.inl q
        · refine Or.inr ⟨u, u1, by omega, ?_⟩
          rw [if_neg (by omega)]
          exact u3
theorem PI_pop {kd : Int} {c : Int → Int} {i top : Int} {hp to : Int → Int} (h : PI kd c i top hp to) (hi : 0 ≤ i) (hk : isK (c i) kd) (ho : clo (c i)) (ht : 0 < top) : PI kd c (i + 1) (top - 1) hp (iu (iu to i (hp (top - 1))) (hp (top - 1)) i) := by
  obtain ⟨h1, h2, h3, h4, h5, h6⟩ := h
  obtain ⟨o1, o2, o3, o4, o5⟩ := h2 (top - 1) (by omega) (by omega)
  have hsn := h6 (top - 1)
  generalize hpo : hp (top - 1) = o at o1 o2 o3 o4 o5 hsn ⊢
  have hti : to i = -4 := by
    by_cases q : to i = -4
    · exact q
    · have := (h4 i q).2.1; omega
  have eo : iu (iu to i o) o i o = i := by simp
  have ei : iu (iu to i o) o i i = o := by
    have hio : ¬ i = o := by omega
    show (if i = o then i else if i = i then o else to i) = o
    rw [if_neg hio, if_pos rfl]
  have en : ∀ j, j ≠ o → j ≠ i → iu (iu to i o) o i j = to j := fun j a b => by
    show (if j = o then i else if j = i then o else to j) = to j
    rw [if_neg a, if_neg b]
  have hlt : ∀ t, 0 ≤ t → t < top - 1 → hp t < o := fun t a b => by
    rw [← hpo]; exact h3 t (top - 1) a b (by omega)
  have hno : ∀ j, to j ≠ -4 → j ≠ o ∧ j ≠ i ∧ to j ≠ o ∧ to j ≠ i := fun j hj => by
    obtain ⟨q1, q2, q3, q4, q5, q6, -⟩ := h4 j hj
    refine ⟨fun e => hj (by rw [e]; exact o3), fun e => by omega, fun e => ?_, fun e => by omega⟩
    rw [e, o3] at q6
    omega
  generalize iu (iu to i o) o i = to' at eo ei en ⊢
  refine ⟨by omega, fun t a b => ?_, fun t u a b g => h3 t u a b (by omega), fun j hj => ?_, fun j k hj a b g => ?_, fun t k a b g1 g2 g3 => ?_⟩
  · obtain ⟨q1, q2, q3, q4⟩ := h2 t a (by omega)
    have := hlt t a b
    refine ⟨q1, by omega, ?_, q4⟩
    rw [en (hp t) (by omega) (by omega)]
    exact q3
  · by_cases hjo : j = o
    · subst hjo
      rw [eo, ei]
      exact ⟨o1, by omega, hi, by omega, by omega, rfl, o4, Or.inl ⟨o2, o5⟩⟩
    · by_cases hji : j = i
      · subst hji
        rw [ei, eo]
        exact ⟨hi, by omega, o1, by omega, by omega, rfl, hk, Or.inr ⟨o2, ho⟩⟩
      · rw [en j hjo hji] at hj ⊢
        obtain ⟨q1, q2, q3, q4, q5, q6, q7⟩ := h4 j hj
        obtain ⟨-, -, r1, r2⟩ := hno j hj
        rw [en (to j) r1 r2]
        exact ⟨q1, by omega, q3, by omega, q5, q6, q7⟩
  · by_cases hjo : j = o
    · subst hjo
      rw [eo] at b
      rcases hsn k (by omega) (by omega) a b g with ⟨q1, q2⟩ | ⟨u, u1, u2, -⟩
      · obtain ⟨r1, r2, -⟩ := hno k q1
        have := (h4 k q1).2.2.2.1
        rw [en k r1 r2, eo]
        exact ⟨q1, q2, this⟩
      · omega
    · by_cases hji : j = i
      · subst hji
        rw [ei] at b
        omega
      · rw [en j hjo hji] at hj b
        have hq := h5 j k hj a b g
        obtain ⟨r1, r2, -⟩ := hno k hq.1
        rw [en k r1 r2, en j hjo hji]
        exact hq
  · by_cases hki : k = i
    · subst hki
      rw [ei]
      have := hlt t a b
      exact Or.inl ⟨by omega, this⟩
    · by_cases hko : k = o
      · subst hko
        rw [eo]
        exact Or.inl ⟨by omega, by omega⟩
      · rw [en k hko hki]
        rcases h6 t k a (by omega) g1 (by omega) g3 with q | ⟨u, u1, u2, u3⟩
        · exact Or.inl q
        · refine Or.inr ⟨u, u1, ?_, u3⟩
          by_cases hu : u = top - 1
          · rw [hu, hpo] at u3
            omega
          · omega
theorem PI_at (kd : Int) (f : Int → Int) : ∀ k : Nat, PI kd (fun j => f j % 128) k (pst kd f k).1 (pst kd f k).2.1 (pst kd f k).2.2
  | 0 => PI_0 kd _ _
  | k + 1 => by
    have ih := PI_at kd f k
    rw [pst]
    unfold pstep
    have e : ((k + 1 : Nat) : Int) = (k : Int) + 1 := by omega
    rw [e]
    by_cases h1 : isK (f (k : Int) % 128) kd
    · rw [if_pos h1]
      by_cases h2 : opn (f (k : Int) % 128)
      · rw [if_pos h2]
        exact PI_push ih (by omega) h1 h2
      · rw [if_neg h2]
        by_cases h3 : 0 < (pst kd f k).1
        · rw [if_pos h3]
          exact PI_pop ih (by omega) h1 (h1.1.resolve_left h2) h3
        · rw [if_neg h3]
          exact PI_skip ih (Or.inr (by have := ih.1; omega))
    · rw [if_neg h1]
      exact PI_skip ih (Or.inl h1)
theorem PI_I (kd : Int) (f : Int → Int) {i : Int} (h : 0 ≤ i) : PI kd (fun j => f j % 128) i (psI kd f i).1 (psI kd f i).2.1 (psI kd f i).2.2 := by
  have := PI_at kd f i.toNat
  rwa [show ((i.toNat : Nat) : Int) = i by omega] at this
/-- what is known of a partner -/
theorem prt_of {kd : Int} {f : Int → Int} {n j : Int} (hn : 0 ≤ n) (h : prt kd f n j ≠ -4) : 0 ≤ j ∧ j < n ∧ 0 ≤ prt kd f n j ∧ prt kd f n j < n ∧ prt kd f n j ≠ j ∧ prt kd f n (prt kd f n j) = j ∧ isK (f j % 128) kd ∧ ((j < prt kd f n j ∧ opn (f j % 128)) ∨ (prt kd f n j < j ∧ clo (f j % 128))) := (PI_I kd f hn).2.2.2.1 j h
theorem prt_bd {kd : Int} {f : Int → Int} {n : Int} (hn : 0 ≤ n) (j : Int) : prt kd f n j = -4 ∨ (0 ≤ prt kd f n j ∧ prt kd f n j < n) := by
  by_cases h : prt kd f n j = -4
  · exact Or.inl h
  · have := prt_of hn h
    exact Or.inr ⟨this.2.2.1, this.2.2.2.1⟩
theorem prt_nest {kd : Int} {f : Int → Int} {n j k : Int} (hn : 0 ≤ n) (h : prt kd f n j ≠ -4) (h1 : j < k) (h2 : k < prt kd f n j) (hk : isK (f k % 128) kd) : prt kd f n k ≠ -4 ∧ j < prt kd f n k ∧ prt kd f n k < prt kd f n j := (PI_I kd f hn).2.2.2.2.1 j k h h1 h2 hk
/-- counts of those that lie around -/
abbrev cA (p : Int → Int) (Q : Int → Prop) [DecidablePred Q] (i : Int) : Int := smI (fun k => bI (i ≤ p k ∧ Q k)) i
abbrev cB (p : Int → Int) (Q : Int → Prop) [DecidablePred Q] (i : Int) : Int := smI (fun k => bI (i < p k ∧ Q k)) i
theorem sm_one (p : Int) (w : Int) : ∀ k : Nat, sm (fun j => if j = p then w else 0) k = if 0 ≤ p ∧ p < k then w else 0
  | 0 => by rw [if_neg (by omega)]; rfl
  | k + 1 => by
    rw [sm, sm_one p w k]
    by_cases h : (k : Int) = p
    · rw [if_neg (by omega), if_pos h, if_pos (by omega)]; omega
    · rw [if_neg h]
      by_cases h2 : 0 ≤ p ∧ p < k
      · rw [if_pos h2, if_pos (by omega)]; omega
      · rw [if_neg h2, if_neg (by omega)]; omega
theorem sm_add (g g' : Int → Int) : ∀ k : Nat, sm (fun j => g j + g' j) k = sm g k + sm g' k
  | 0 => rfl
  | k + 1 => by rw [sm, sm, sm, sm_add g g' k]; omega
theorem cB_cA (p : Int → Int) (Q : Int → Prop) [DecidablePred Q] {i : Int} (h : 0 ≤ i) : cA p Q (i + 1) = cB p Q i + bI (i < p i ∧ Q i) := by
  show smI _ (i + 1) = _
  rw [smI_succ _ h]
  congr 1
theorem cA_cB (p : Int → Int) (Q : Int → Prop) [DecidablePred Q] {i : Int} (h : 0 ≤ i) (inv : ∀ k, 0 ≤ k → k < i → (p k = i ↔ k = p i)) : cA p Q i = cB p Q i + (if 0 ≤ p i ∧ p i < i ∧ Q (p i) then 1 else 0) := by
  have e : cA p Q i = sm (fun k => bI (i < p k ∧ Q k) + (if k = p i then bI (Q (p i)) else 0)) i.toNat := by
    refine sm_congr _ (fun k h0 h1 => ?_)
    have hi := inv k h0 (by omega)
    by_cases hk : k = p i
    · rw [if_pos hk]
      have hp := hi.mpr hk
      unfold bI
      rw [← hk, hp]
      by_cases hQ : Q k
      · rw [if_pos ⟨by omega, hQ⟩, if_neg (by omega), if_pos hQ]; rfl
      · rw [if_neg (fun z => hQ z.2), if_neg (fun z => hQ z.2), if_neg hQ]; rfl
    · rw [if_neg hk]
      have hp : p k ≠ i := fun z => hk (hi.mp z)
      rw [bI_iff (show (i ≤ p k ∧ Q k) ↔ (i < p k ∧ Q k) by constructor <;> (rintro ⟨a, b⟩; exact ⟨by omega, b⟩))]
      omega
  rw [e, sm_add, sm_one]
  congr 1
  unfold bI
  by_cases h1 : 0 ≤ p i ∧ p i < i
  · by_cases hQ : Q (p i)
    · rw [if_pos (by omega), if_pos hQ, if_pos ⟨h1.1, h1.2, hQ⟩]
    · rw [if_pos (by omega), if_neg hQ, if_neg (fun z => hQ z.2.2)]
  · rw [if_neg (by omega), if_neg (fun z => h1 ⟨z.1, z.2.1⟩)]
theorem sm_pos {g : Int → Int} (hg : ∀ j, g j = 0 ∨ g j = 1) : ∀ k : Nat, (0 < sm g k ↔ ∃ j : Int, 0 ≤ j ∧ j < k ∧ g j = 1)
  | 0 => by
    constructor
    · intro h; simp [sm] at h
    · rintro ⟨j, h1, h2, -⟩; omega
  | k + 1 => by
    have ih := sm_pos hg k
    have h0 := (sm_bd (g := g) (lo := 0) (hi := 1) (fun j => by have := hg j; omega) k).1
    rw [sm]
    constructor
    · intro h
      rcases hg k with q | q
      · obtain ⟨j, a, b, c⟩ := ih.mp (by omega)
        exact ⟨j, a, by omega, c⟩
      · exact ⟨k, by omega, by omega, q⟩
    · rintro ⟨j, a, b, c⟩
      by_cases hj : j = k
      · subst hj
        rw [c]; omega
      · have := ih.mpr ⟨j, a, by omega, c⟩
        have := hg k
        omega
