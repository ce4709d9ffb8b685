/-! the plain one's rows go and come -/
abbrev coF (g : Int → Int) (a b m : Int) : Int → Int := fun j => if b ≤ j ∧ j < b + m then g (a + (j - b)) else g j
abbrev kiF (g h : Int → Int) (k m : Int) : Int → Int := fun j => if 61 * k ≤ j ∧ j < 61 * k + m then g (j - 61 * k) else h j
abbrev cfF (g h : Int → Int) (k m : Int) : Int → Int := fun j => if 0 ≤ j ∧ j < m then h (61 * k + j) else g j
abbrev shF (u : Int → Int) (m : Int) : Int → Int := fun j => if 0 ≤ j ∧ j < m then u (j + 61) else u j
abbrev ciF (g : Int → Int) (n p c : Int) : Int → Int := fun j => if j = 60 then n + 1 else if j = p then c else if p < j ∧ j ≤ n then g (j - 1) else g j
abbrev goF (g : Int → Int) (n i m : Int) : Int → Int := fun j => if j = 60 then n - m else if i ≤ j ∧ j < n - m then g (j + m) else g j
abbrev liF (g o : Int → Int) (i m : Int) : Int → Int := fun j => if 0 ≤ j ∧ j < m then g (i + j) else o j
abbrev ldF (g o : Int → Int) (n m p : Int) : Int → Int := fun j => if j = 60 then n + m else if p ≤ j ∧ j < p + m then o (j - p) else if p + m ≤ j ∧ j < n + m then g (j - m) else g j
set_option maxRecDepth 100000 in
set_option maxHeartbeats 4000000 in
theorem c_X10_many60 {l : Launch} {Γ : JG} {ad : Nat → Nat} {E : Nat → va_E} {m0 m1 m2 m3 m4 m5 m6 m7 m8 m9 m10 m11 m12 m13 m14 : Int} {g : Int → Int} (hM : E 78 = .inr (9, [.ref (ad 79), .ref (ad 80), .int (jI m0), .int (jI m1), .int (jI m2), .int (jI m3), .int (jI m4), .int (jI m5), .int (jI m6), .int (jI m7), .int (jI m8), .int (jI m9), .int (jI m10), .int (jI m11), .ref (ad 81), .ref (ad 82), .ref (ad 83), .ref (ad 84), .ref (ad 85), .ref (ad 86), .ref (ad 87), .ref (ad 88), .ref (ad 89), .int (jI m12), .int (jI m13), .ref (ad 90), .ref (ad 91), .ref (ad 92), .ref (ad 93), .ref (ad 94), .int (jI m14)])) (hS : E 79 = aI Γ 305 g) : JM l Γ yX10_many cX10_many 1 (some .int) 0 0 0 0 ad 95 E [.ref (ad 78)] (pP (g 60) E) := by
  refine JM_intro (own := RX10) [some (.ref (ad 78))] rfl rfl rfl (Nat.le_of_ble_eq_true rfl) ?_
  intro Ω X R hin
  refine J_aload_n (q := 1) X dX10_many_0 rfl rfl ?_
  refine J_get (q := 4) X dX10_many_1 fX10_7 hM (by omega) rfl rfl ?_
  refine J_bipush (q := 6) X dX10_many_4 rfl (by decide) ?_
  refine J_iald (q := 7) X dX10_many_6 hS (by omega) (by omega) (by decide) rfl ?_
  refine J_iret X R dX10_many_7 ?_
  exact ⟨rfl, rfl⟩

set_option maxRecDepth 100000 in
set_option maxHeartbeats 4000000 in
theorem c_X10_copies {l : Launch} {Γ : JG} {ad : Nat → Nat} {E : Nat → va_E} {m0 m1 m2 m3 m4 m5 m6 m7 m8 m9 m10 m11 m12 m13 m14 : Int} {g : Int → Int} {a b : Int}  (hM : E 78 = .inr (9, [.ref (ad 79), .ref (ad 80), .int (jI m0), .int (jI m1), .int (jI m2), .int (jI m3), .int (jI m4), .int (jI m5), .int (jI m6), .int (jI m7), .int (jI m8), .int (jI m9), .int (jI m10), .int (jI m11), .ref (ad 81), .ref (ad 82), .ref (ad 83), .ref (ad 84), .ref (ad 85), .ref (ad 86), .ref (ad 87), .ref (ad 88), .ref (ad 89), .int (jI m12), .int (jI m13), .ref (ad 90), .ref (ad 91), .ref (ad 92), .ref (ad 93), .ref (ad 94), .int (jI m14)])) (hS : E 79 = aI Γ 305 g) (hab : 0 ≤ a ∧ a + 61 ≤ 305 ∧ 0 ≤ b ∧ b + 61 ≤ 305 ∧ (a + 61 ≤ b ∨ b + 61 ≤ a)) : JM l Γ yX10_copies cX10_copies 4 none 0 0 0 0 ad 95 E [.ref (ad 78), .int (jI a), .int (jI b)] (pV (fun E' => E' 79 = aI Γ 305 (coF g a b 61) ∧ ∀ j : Nat, j ≠ 79 → E' j = E j)) := by
  refine JM_intro (own := RX10) [some (.ref (ad 78)), some (.int (jI a)), some (.int (jI b)), none] rfl rfl rfl (Nat.le_of_ble_eq_true rfl) ?_
  intro Ω X R hin
  obtain ⟨E0, hE0⟩ : ∃ E0 : Nat → va_E, E0 = E := ⟨_, rfl⟩
  have hF : ∀ j : Nat, j ≠ 79 → E j = E0 j := fun _ _ => by rw [hE0]
  refine J_iconst (q := 1) X dX10_copies_0 rfl ?_
  refine J_istore_n (q := 2) X dX10_copies_1 (by decide) rfl rfl ?_
  have lp2 : ∀ (mm : Nat) (t : Int) (gg : Int → Int) (E : Nat → va_E) (ht : 0 ≤ t ∧ t ≤ 61) (hgg : ∀ j : Int, gg j = (coF g a b t) j) (hM : E 78 = .inr (9, [.ref (ad 79), .ref (ad 80), .int (jI m0), .int (jI m1), .int (jI m2), .int (jI m3), .int (jI m4), .int (jI m5), .int (jI m6), .int (jI m7), .int (jI m8), .int (jI m9), .int (jI m10), .int (jI m11), .ref (ad 81), .ref (ad 82), .ref (ad 83), .ref (ad 84), .ref (ad 85), .ref (ad 86), .ref (ad 87), .ref (ad 88), .ref (ad 89), .int (jI m12), .int (jI m13), .ref (ad 90), .ref (ad 91), .ref (ad 92), .ref (ad 93), .ref (ad 94), .int (jI m14)])) (hS : E 79 = aI Γ 305 gg) (hF : ∀ j : Nat, j ≠ 79 → E j = E0 j) (hmm : 61 - t + 1 ≤ (mm : Int)), J l Γ Ω 4 ad 95 0 0 E 2 [some (.ref (ad 78)), some (.int (jI a)), some (.int (jI b)), some (.int (jI t))] [] := by
    intro mm
    induction mm with
    | zero => intro t gg E ht hgg hM hS hF hmm; exfalso; omega
    | succ mm ih2 =>
      intro t gg E ht hgg hM hS hF hmm
      refine J_iload_n (q := 3) X dX10_copies_2 rfl rfl ?_
      refine J_bipush (q := 5) X dX10_copies_3 rfl (by decide) ?_
      refine J_icmp_ge (q := 8) (tgt := 30) X dX10_copies_5 (by decide) rfl (by omega) (by omega) (fun cq5 => ?_) (fun cq5 => ?_)
      · refine J_vret X R dX10_copies_30 ?_
        rw [hE0] at hF
        have et : t = 61 := by omega
        subst et
        obtain rfl : gg = coF g a b 61 := funext hgg
        exact ⟨rfl, hS, hF⟩
      · refine J_aload_n (q := 9) X dX10_copies_8 rfl rfl ?_
        refine J_get (q := 12) X dX10_copies_9 fX10_7 hM (by omega) rfl rfl ?_
        refine J_iload_n (q := 13) X dX10_copies_12 rfl rfl ?_
        refine J_iload_n (q := 14) X dX10_copies_13 rfl rfl ?_
        refine J_iadd (q := 15) X dX10_copies_14 rfl ?_
        refine J_aload_n (q := 16) X dX10_copies_15 rfl rfl ?_
        refine J_get (q := 19) X dX10_copies_16 fX10_7 hM (by omega) rfl rfl ?_
        refine J_iload_n (q := 20) X dX10_copies_19 rfl rfl ?_
        refine J_iload_n (q := 21) X dX10_copies_20 rfl rfl ?_
        refine J_iadd (q := 22) X dX10_copies_21 rfl ?_
        refine J_iald (q := 23) X dX10_copies_22 hS (by omega) (by omega) (by decide) rfl ?_
        refine J_iast (q := 24) X dX10_copies_23 hS (by omega) (by omega) (by decide) rfl (fun Ew23 hkq23 hsq23 => ?_)
        replace hS := hkq23
        replace hM := (hsq23 78 (by omega)).trans hM
        replace hF : ∀ j : Nat, j ≠ 79 → Ew23 j = E0 j := fun j hj => (hsq23 j (by omega)).trans (hF j hj)
        refine J_iinc (q := 27) X dX10_copies_24 rfl (by decide) rfl rfl ?_
        refine J_goto (q := 2) X dX10_copies_27 (by decide) ?_
        refine ih2 _ _ _ (by omega) (fun j => ?_) hM hS hF (by omega)
        simp only [iu, hgg, coF]
        repeat' split
        all_goals first | rfl | (exfalso; omega) | (congr 1; omega)
  refine lp2 2000 _ _ _ (by omega) (fun j => ?_) hM hS hF (by omega)
  simp only [coF]
  repeat' split
  all_goals first | rfl | (exfalso; omega) | (congr 1; omega)

set_option maxRecDepth 100000 in
set_option maxHeartbeats 4000000 in
theorem c_X10_keepsIn {l : Launch} {Γ : JG} {ad : Nat → Nat} {E : Nat → va_E} {m0 m1 m2 m3 m4 m5 m6 m7 m8 m9 m10 m11 m12 m13 m14 : Int} {g : Int → Int} {k : Int} {q : Nat} {h : Int → Int} (hM : E 78 = .inr (9, [.ref (ad 79), .ref (ad 80), .int (jI m0), .int (jI m1), .int (jI m2), .int (jI m3), .int (jI m4), .int (jI m5), .int (jI m6), .int (jI m7), .int (jI m8), .int (jI m9), .int (jI m10), .int (jI m11), .ref (ad 81), .ref (ad 82), .ref (ad 83), .ref (ad 84), .ref (ad 85), .ref (ad 86), .ref (ad 87), .ref (ad 88), .ref (ad 89), .int (jI m12), .int (jI m13), .ref (ad 90), .ref (ad 91), .ref (ad 92), .ref (ad 93), .ref (ad 94), .int (jI m14)])) (hS : E 79 = aI Γ 305 g) (hQ : E q = aI Γ 1220 h) (hk : 0 ≤ k ∧ k < 20) (hq : q = 88 ∨ q = 89) : JM l Γ yX10_keepsIn cX10_keepsIn 4 none 0 0 0 0 ad 95 E [.ref (ad 78), .ref (ad q), .int (jI k)] (pV (fun E' => E' q = aI Γ 1220 (kiF g h k 61) ∧ ∀ j : Nat, j ≠ q → E' j = E j)) := by
  refine JM_intro (own := RX10) [some (.ref (ad 78)), some (.ref (ad q)), some (.int (jI k)), none] rfl rfl rfl (Nat.le_of_ble_eq_true rfl) ?_
  intro Ω X R hin
  obtain ⟨E0, hE0⟩ : ∃ E0 : Nat → va_E, E0 = E := ⟨_, rfl⟩
  have hF : ∀ j : Nat, j ≠ q → E j = E0 j := fun _ _ => by rw [hE0]
  refine J_iconst (q := 1) X dX10_keepsIn_0 rfl ?_
  refine J_istore_n (q := 2) X dX10_keepsIn_1 (by decide) rfl rfl ?_
  have lp2 : ∀ (mm : Nat) (t : Int) (gg : Int → Int) (E : Nat → va_E) (ht : 0 ≤ t ∧ t ≤ 61) (hgg : ∀ j : Int, gg j = (kiF g h k t) j) (hM : E 78 = .inr (9, [.ref (ad 79), .ref (ad 80), .int (jI m0), .int (jI m1), .int (jI m2), .int (jI m3), .int (jI m4), .int (jI m5), .int (jI m6), .int (jI m7), .int (jI m8), .int (jI m9), .int (jI m10), .int (jI m11), .ref (ad 81), .ref (ad 82), .ref (ad 83), .ref (ad 84), .ref (ad 85), .ref (ad 86), .ref (ad 87), .ref (ad 88), .ref (ad 89), .int (jI m12), .int (jI m13), .ref (ad 90), .ref (ad 91), .ref (ad 92), .ref (ad 93), .ref (ad 94), .int (jI m14)])) (hS : E 79 = aI Γ 305 g) (hQ : E q = aI Γ 1220 (gg)) (hF : ∀ j : Nat, j ≠ q → E j = E0 j) (hmm : 61 - t + 1 ≤ (mm : Int)), J l Γ Ω 4 ad 95 0 0 E 2 [some (.ref (ad 78)), some (.ref (ad q)), some (.int (jI k)), some (.int (jI t))] [] := by
    intro mm
    induction mm with
    | zero => intro t gg E ht hgg hM hS hQ hF hmm; exfalso; omega
    | succ mm ih2 =>
      intro t gg E ht hgg hM hS hQ hF hmm
      refine J_iload_n (q := 3) X dX10_keepsIn_2 rfl rfl ?_
      refine J_bipush (q := 5) X dX10_keepsIn_3 rfl (by decide) ?_
      refine J_icmp_ge (q := 8) (tgt := 28) X dX10_keepsIn_5 (by decide) rfl (by omega) (by omega) (fun cq5 => ?_) (fun cq5 => ?_)
      · refine J_vret X R dX10_keepsIn_28 ?_
        rw [hE0] at hF
        have et : t = 61 := by omega
        subst et
        obtain rfl : gg = kiF g h k 61 := funext hgg
        exact ⟨rfl, hQ, hF⟩
      · refine J_aload_n (q := 9) X dX10_keepsIn_8 rfl rfl ?_
        refine J_bipush (q := 11) X dX10_keepsIn_9 rfl (by decide) ?_
        refine J_iload_n (q := 12) X dX10_keepsIn_11 rfl rfl ?_
        refine J_imul (q := 13) X dX10_keepsIn_12 rfl ?_
        refine J_iload_n (q := 14) X dX10_keepsIn_13 rfl rfl ?_
        refine J_iadd (q := 15) X dX10_keepsIn_14 rfl ?_
        refine J_aload_n (q := 16) X dX10_keepsIn_15 rfl rfl ?_
        refine J_get (q := 19) X dX10_keepsIn_16 fX10_7 hM (by omega) rfl rfl ?_
        refine J_iload_n (q := 20) X dX10_keepsIn_19 rfl rfl ?_
        refine J_iald (q := 21) X dX10_keepsIn_20 hS (by omega) (by omega) (by decide) rfl ?_
        refine J_iast (q := 22) X dX10_keepsIn_21 hQ (by omega) (by omega) (by decide) rfl (fun Ew21 hkq21 hsq21 => ?_)
        replace hQ := hkq21
        replace hM := (hsq21 78 (by omega)).trans hM
        replace hS := (hsq21 79 (by omega)).trans hS
        replace hF : ∀ j : Nat, j ≠ q → Ew21 j = E0 j := fun j hj => (hsq21 j (by omega)).trans (hF j hj)
        refine J_iinc (q := 25) X dX10_keepsIn_22 rfl (by decide) rfl rfl ?_
        refine J_goto (q := 2) X dX10_keepsIn_25 (by decide) ?_
        refine ih2 _ _ _ (by omega) (fun j => ?_) hM hS hQ hF (by omega)
        simp only [iu, hgg, kiF]
        repeat' split
        all_goals first | rfl | (exfalso; omega) | (congr 1; omega)
  refine lp2 2000 _ _ _ (by omega) (fun j => ?_) hM hS hQ hF (by omega)
  simp only [kiF]
  repeat' split
  all_goals first | rfl | (exfalso; omega) | (congr 1; omega)

set_option maxRecDepth 100000 in
set_option maxHeartbeats 4000000 in
theorem c_X10_comesFrom {l : Launch} {Γ : JG} {ad : Nat → Nat} {E : Nat → va_E} {m0 m1 m2 m3 m4 m5 m6 m7 m8 m9 m10 m11 m12 m13 m14 : Int} {g : Int → Int} {k : Int} {q : Nat} {h : Int → Int} (hM : E 78 = .inr (9, [.ref (ad 79), .ref (ad 80), .int (jI m0), .int (jI m1), .int (jI m2), .int (jI m3), .int (jI m4), .int (jI m5), .int (jI m6), .int (jI m7), .int (jI m8), .int (jI m9), .int (jI m10), .int (jI m11), .ref (ad 81), .ref (ad 82), .ref (ad 83), .ref (ad 84), .ref (ad 85), .ref (ad 86), .ref (ad 87), .ref (ad 88), .ref (ad 89), .int (jI m12), .int (jI m13), .ref (ad 90), .ref (ad 91), .ref (ad 92), .ref (ad 93), .ref (ad 94), .int (jI m14)])) (hS : E 79 = aI Γ 305 g) (hQ : E q = aI Γ 1220 h) (hk : 0 ≤ k ∧ k < 20) (hq : q = 88 ∨ q = 89) : JM l Γ yX10_comesFrom cX10_comesFrom 4 none 0 0 0 0 ad 95 E [.ref (ad 78), .ref (ad q), .int (jI k)] (pV (fun E' => E' 79 = aI Γ 305 (cfF g h k 61) ∧ ∀ j : Nat, j ≠ 79 → E' j = E j)) := by
  refine JM_intro (own := RX10) [some (.ref (ad 78)), some (.ref (ad q)), some (.int (jI k)), none] rfl rfl rfl (Nat.le_of_ble_eq_true rfl) ?_
  intro Ω X R hin
  obtain ⟨E0, hE0⟩ : ∃ E0 : Nat → va_E, E0 = E := ⟨_, rfl⟩
  have hF : ∀ j : Nat, j ≠ 79 → E j = E0 j := fun _ _ => by rw [hE0]
  refine J_iconst (q := 1) X dX10_comesFrom_0 rfl ?_
  refine J_istore_n (q := 2) X dX10_comesFrom_1 (by decide) rfl rfl ?_
  have lp2 : ∀ (mm : Nat) (t : Int) (gg : Int → Int) (E : Nat → va_E) (ht : 0 ≤ t ∧ t ≤ 61) (hgg : ∀ j : Int, gg j = (cfF g h k t) j) (hM : E 78 = .inr (9, [.ref (ad 79), .ref (ad 80), .int (jI m0), .int (jI m1), .int (jI m2), .int (jI m3), .int (jI m4), .int (jI m5), .int (jI m6), .int (jI m7), .int (jI m8), .int (jI m9), .int (jI m10), .int (jI m11), .ref (ad 81), .ref (ad 82), .ref (ad 83), .ref (ad 84), .ref (ad 85), .ref (ad 86), .ref (ad 87), .ref (ad 88), .ref (ad 89), .int (jI m12), .int (jI m13), .ref (ad 90), .ref (ad 91), .ref (ad 92), .ref (ad 93), .ref (ad 94), .int (jI m14)])) (hS : E 79 = aI Γ 305 gg) (hQ : E q = aI Γ 1220 (h)) (hF : ∀ j : Nat, j ≠ 79 → E j = E0 j) (hmm : 61 - t + 1 ≤ (mm : Int)), J l Γ Ω 4 ad 95 0 0 E 2 [some (.ref (ad 78)), some (.ref (ad q)), some (.int (jI k)), some (.int (jI t))] [] := by
    intro mm
    induction mm with
    | zero => intro t gg E ht hgg hM hS hQ hF hmm; exfalso; omega
    | succ mm ih2 =>
      intro t gg E ht hgg hM hS hQ hF hmm
      refine J_iload_n (q := 3) X dX10_comesFrom_2 rfl rfl ?_
      refine J_bipush (q := 5) X dX10_comesFrom_3 rfl (by decide) ?_
      refine J_icmp_ge (q := 8) (tgt := 28) X dX10_comesFrom_5 (by decide) rfl (by omega) (by omega) (fun cq5 => ?_) (fun cq5 => ?_)
      · refine J_vret X R dX10_comesFrom_28 ?_
        rw [hE0] at hF
        have et : t = 61 := by omega
        subst et
        obtain rfl : gg = cfF g h k 61 := funext hgg
        exact ⟨rfl, hS, hF⟩
      · refine J_aload_n (q := 9) X dX10_comesFrom_8 rfl rfl ?_
        refine J_get (q := 12) X dX10_comesFrom_9 fX10_7 hM (by omega) rfl rfl ?_
        refine J_iload_n (q := 13) X dX10_comesFrom_12 rfl rfl ?_
        refine J_aload_n (q := 14) X dX10_comesFrom_13 rfl rfl ?_
        refine J_bipush (q := 16) X dX10_comesFrom_14 rfl (by decide) ?_
        refine J_iload_n (q := 17) X dX10_comesFrom_16 rfl rfl ?_
        refine J_imul (q := 18) X dX10_comesFrom_17 rfl ?_
        refine J_iload_n (q := 19) X dX10_comesFrom_18 rfl rfl ?_
        refine J_iadd (q := 20) X dX10_comesFrom_19 rfl ?_
        refine J_iald (q := 21) X dX10_comesFrom_20 hQ (by omega) (by omega) (by decide) rfl ?_
        refine J_iast (q := 22) X dX10_comesFrom_21 hS (by omega) (by omega) (by decide) rfl (fun Ew21 hkq21 hsq21 => ?_)
        replace hS := hkq21
        replace hM := (hsq21 78 (by omega)).trans hM
        replace hQ := (hsq21 q (by omega)).trans hQ
        replace hF : ∀ j : Nat, j ≠ 79 → Ew21 j = E0 j := fun j hj => (hsq21 j (by omega)).trans (hF j hj)
        refine J_iinc (q := 25) X dX10_comesFrom_22 rfl (by decide) rfl rfl ?_
        refine J_goto (q := 2) X dX10_comesFrom_25 (by decide) ?_
        refine ih2 _ _ _ (by omega) (fun j => ?_) hM hS hQ hF (by omega)
        simp only [iu, hgg, cfF]
        repeat' split
        all_goals first | rfl | (exfalso; omega) | (congr 1; omega)
  refine lp2 2000 _ _ _ (by omega) (fun j => ?_) hM hS hQ hF (by omega)
  simp only [cfF]
  repeat' split
  all_goals first | rfl | (exfalso; omega) | (congr 1; omega)

set_option maxRecDepth 100000 in
set_option maxHeartbeats 4000000 in
theorem c_X10_remembers {l : Launch} {Γ : JG} {ad : Nat → Nat} {E : Nat → va_E} {m0 m1 m2 m3 m4 m5 m6 m7 m8 m9 m10 m11 m12 m13 m14 : Int} {g un : Int → Int}  (hM : E 78 = .inr (9, [.ref (ad 79), .ref (ad 80), .int (jI m0), .int (jI m1), .int (jI m2), .int (jI m3), .int (jI m4), .int (jI m5), .int (jI m6), .int (jI m7), .int (jI m8), .int (jI m9), .int (jI m10), .int (jI m11), .ref (ad 81), .ref (ad 82), .ref (ad 83), .ref (ad 84), .ref (ad 85), .ref (ad 86), .ref (ad 87), .ref (ad 88), .ref (ad 89), .int (jI m12), .int (jI m13), .ref (ad 90), .ref (ad 91), .ref (ad 92), .ref (ad 93), .ref (ad 94), .int (jI m14)])) (hS : E 79 = aI Γ 305 g) (hUn : E 88 = aI Γ 1220 un) (hu : 0 ≤ m12 ∧ m12 ≤ 20) : JM l Γ yX10_remembers cX10_remembers 2 none 1 23 0 0 ad 95 E [.ref (ad 78)] (pV (fun E' => ∃ un' : Int → Int, E' 78 = .inr (9, [.ref (ad 79), .ref (ad 80), .int (jI m0), .int (jI m1), .int (jI m2), .int (jI m3), .int (jI m4), .int (jI m5), .int (jI m6), .int (jI m7), .int (jI m8), .int (jI m9), .int (jI m10), .int (jI m11), .ref (ad 81), .ref (ad 82), .ref (ad 83), .ref (ad 84), .ref (ad 85), .ref (ad 86), .ref (ad 87), .ref (ad 88), .ref (ad 89), .int (jI (if m12 = 20 then 20 else m12 + 1)), .int (jI m13), .ref (ad 90), .ref (ad 91), .ref (ad 92), .ref (ad 93), .ref (ad 94), .int (jI m14)]) ∧ E' 88 = aI Γ 1220 un' ∧ (∀ j, 0 ≤ j → j < 61 → un' (61 * ((if m12 = 20 then 20 else m12 + 1) - 1) + j) = g j) ∧ (∀ j, 0 ≤ j → j < 61 * ((if m12 = 20 then 20 else m12 + 1) - 1) → un' j = if m12 = 20 then un (j + 61) else un j) ∧ ∀ j : Nat, j ≠ 78 ∧ j ≠ 88 → E' j = E j)) := by
  refine JM_intro (own := RX10) [some (.ref (ad 78)), none] rfl rfl rfl (Nat.le_of_ble_eq_true rfl) ?_
  intro Ω X R hin
  obtain ⟨E0, hE0⟩ : ∃ E0 : Nat → va_E, E0 = E := ⟨_, rfl⟩
  have hF : ∀ j : Nat, j ≠ 78 ∧ j ≠ 88 → E j = E0 j := fun _ _ => by rw [hE0]
  refine J_aload_n (q := 1) X dX10_remembers_0 rfl rfl ?_
  refine J_get (q := 4) X dX10_remembers_1 fX10_159 hM (by omega) rfl rfl ?_
  refine J_bipush (q := 6) X dX10_remembers_4 rfl (by decide) ?_
  refine J_icmp_ne (q := 9) (tgt := 49) X dX10_remembers_6 (by decide) rfl (by omega) (by omega) (fun cq6 => ?_) (fun cq6 => ?_)
  · refine J_aload_n (q := 50) X dX10_remembers_49 rfl rfl ?_
    refine J_aload_n (q := 51) X dX10_remembers_50 rfl rfl ?_
    refine J_get (q := 54) X dX10_remembers_51 fX10_37 hM (by omega) rfl rfl ?_
    refine J_aload_n (q := 55) X dX10_remembers_54 rfl rfl ?_
    refine J_get (q := 58) X dX10_remembers_55 fX10_159 hM (by omega) rfl rfl ?_
    refine J_callV (q := 61) (jrV X mX10_233 dX10_remembers_58 (c_X10_keepsIn hM hS hUn (by omega) (Or.inl rfl)) hM (by omega) rfl rfl rfl rfl (Nat.le_of_ble_eq_true rfl) (by decide)) rfl (fun Ew58 hpq58 => ?_)
    obtain ⟨kUn, hsq58⟩ := hpq58
    replace hUn := kUn
    replace hM := (hsq58 78 (by omega)).trans hM
    replace hS := (hsq58 79 (by omega)).trans hS
    replace hF : ∀ j : Nat, j ≠ 78 ∧ j ≠ 88 → Ew58 j = E0 j := fun j hj => (hsq58 j (by omega)).trans (hF j hj)
    refine J_aload_n (q := 62) X dX10_remembers_61 rfl rfl ?_
    refine J_dup (q := 63) X dX10_remembers_62 rfl rfl ?_
    refine J_get (q := 66) X dX10_remembers_63 fX10_159 hM (by omega) rfl rfl ?_
    refine J_iconst (q := 67) X dX10_remembers_66 rfl ?_
    refine J_iadd (q := 68) X dX10_remembers_67 rfl ?_
    refine J_put (q := 71) (ty := .int) X dX10_remembers_68 fX10_159 rfl (by decide +kernel) rfl rfl hM (by omega) (Nat.le_of_ble_eq_true rfl) rfl (fun Ew68 hkq68 hsq68 => ?_)
    replace hM : Ew68 78 = .inr (9, [.ref (ad 79), .ref (ad 80), .int (jI _), .int (jI _), .int (jI _), .int (jI _), .int (jI _), .int (jI _), .int (jI _), .int (jI _), .int (jI _), .int (jI _), .int (jI _), .int (jI _), .ref (ad 81), .ref (ad 82), .ref (ad 83), .ref (ad 84), .ref (ad 85), .ref (ad 86), .ref (ad 87), .ref (ad 88), .ref (ad 89), .int (jI _), .int (jI _), .ref (ad 90), .ref (ad 91), .ref (ad 92), .ref (ad 93), .ref (ad 94), .int (jI _)]) := hkq68
    replace hS := (hsq68 79 (by omega)).trans hS
    replace hUn := (hsq68 88 (by omega)).trans hUn
    replace hF : ∀ j : Nat, j ≠ 78 ∧ j ≠ 88 → Ew68 j = E0 j := fun j hj => (hsq68 j (by omega)).trans (hF j hj)
    refine J_vret X R dX10_remembers_71 ?_
    rw [hE0] at hF
    by_cases h20 : m12 = 20
    · rw [show (if m12 = 20 then (20 : Int) else m12 + 1) = 20 from if_pos h20]
      first
        | (exfalso; omega)
        | (rw [show m12 - 1 + 1 = 20 by omega] at hM
           refine ⟨rfl, _, hM, hUn, fun j a b => ?_, fun j a b => ?_, hF⟩
           · simp only [kiF]; rw [if_pos (by omega)]; congr 1; omega
           · simp only [kiF, shF]; rw [if_neg (by omega), if_pos (by omega), if_pos h20])
    · rw [show (if m12 = 20 then (20 : Int) else m12 + 1) = m12 + 1 from if_neg h20]
      first
        | (exfalso; omega)
        | (refine ⟨rfl, _, hM, hUn, fun j a b => ?_, fun j a b => ?_, hF⟩
           · simp only [kiF]; rw [if_pos (by omega)]; congr 1; omega
           · simp only [kiF]; rw [if_neg (by omega), if_neg h20])
  · refine J_iconst (q := 10) X dX10_remembers_9 rfl ?_
    refine J_istore_n (q := 11) X dX10_remembers_10 (by decide) rfl rfl ?_
    have lp11 : ∀ (mm : Nat) (t : Int) (gg : Int → Int) (E : Nat → va_E) (ht : 0 ≤ t ∧ t ≤ 1159) (hgg : ∀ j : Int, gg j = (shF un t) j) (hM : E 78 = .inr (9, [.ref (ad 79), .ref (ad 80), .int (jI m0), .int (jI m1), .int (jI m2), .int (jI m3), .int (jI m4), .int (jI m5), .int (jI m6), .int (jI m7), .int (jI m8), .int (jI m9), .int (jI m10), .int (jI m11), .ref (ad 81), .ref (ad 82), .ref (ad 83), .ref (ad 84), .ref (ad 85), .ref (ad 86), .ref (ad 87), .ref (ad 88), .ref (ad 89), .int (jI m12), .int (jI m13), .ref (ad 90), .ref (ad 91), .ref (ad 92), .ref (ad 93), .ref (ad 94), .int (jI m14)])) (hS : E 79 = aI Γ 305 g) (hUn : E 88 = aI Γ 1220 gg) (hF : ∀ j : Nat, j ≠ 78 ∧ j ≠ 88 → E j = E0 j) (hmm : 1159 - t + 1 ≤ (mm : Int)), J l Γ Ω 2 ad 95 0 0 E 11 [some (.ref (ad 78)), some (.int (jI t))] [] := by
      intro mm
      induction mm with
      | zero => intro t gg E ht hgg hM hS hUn hF hmm; exfalso; omega
      | succ mm ih11 =>
        intro t gg E ht hgg hM hS hUn hF hmm
        refine J_iload_n (q := 12) X dX10_remembers_11 rfl rfl ?_
        refine J_sipush (q := 15) X dX10_remembers_12 rfl (by decide) ?_
        refine J_icmp_ge (q := 18) (tgt := 39) X dX10_remembers_15 (by decide) rfl (by omega) (by omega) (fun cq15 => ?_) (fun cq15 => ?_)
        · have et : t = 1159 := by omega
          subst et
          obtain rfl : gg = shF un 1159 := funext hgg
          refine J_aload_n (q := 40) X dX10_remembers_39 rfl rfl ?_
          refine J_dup (q := 41) X dX10_remembers_40 rfl rfl ?_
          refine J_get (q := 44) X dX10_remembers_41 fX10_159 hM (by omega) rfl rfl ?_
          refine J_iconst (q := 45) X dX10_remembers_44 rfl ?_
          refine J_isub (q := 46) X dX10_remembers_45 rfl ?_
          refine J_put (q := 49) (ty := .int) X dX10_remembers_46 fX10_159 rfl (by decide +kernel) rfl rfl hM (by omega) (Nat.le_of_ble_eq_true rfl) rfl (fun Ew46 hkq46 hsq46 => ?_)
          replace hM : Ew46 78 = .inr (9, [.ref (ad 79), .ref (ad 80), .int (jI _), .int (jI _), .int (jI _), .int (jI _), .int (jI _), .int (jI _), .int (jI _), .int (jI _), .int (jI _), .int (jI _), .int (jI _), .int (jI _), .ref (ad 81), .ref (ad 82), .ref (ad 83), .ref (ad 84), .ref (ad 85), .ref (ad 86), .ref (ad 87), .ref (ad 88), .ref (ad 89), .int (jI _), .int (jI _), .ref (ad 90), .ref (ad 91), .ref (ad 92), .ref (ad 93), .ref (ad 94), .int (jI _)]) := hkq46
          replace hS := (hsq46 79 (by omega)).trans hS
          replace hUn := (hsq46 88 (by omega)).trans hUn
          replace hF : ∀ j : Nat, j ≠ 78 ∧ j ≠ 88 → Ew46 j = E0 j := fun j hj => (hsq46 j (by omega)).trans (hF j hj)
          refine J_aload_n (q := 50) X dX10_remembers_49 rfl rfl ?_
          refine J_aload_n (q := 51) X dX10_remembers_50 rfl rfl ?_
          refine J_get (q := 54) X dX10_remembers_51 fX10_37 hM (by omega) rfl rfl ?_
          refine J_aload_n (q := 55) X dX10_remembers_54 rfl rfl ?_
          refine J_get (q := 58) X dX10_remembers_55 fX10_159 hM (by omega) rfl rfl ?_
          refine J_callV (q := 61) (jrV X mX10_233 dX10_remembers_58 (c_X10_keepsIn hM hS hUn (by omega) (Or.inl rfl)) hM (by omega) rfl rfl rfl rfl (Nat.le_of_ble_eq_true rfl) (by decide)) rfl (fun Ew58 hpq58 => ?_)
          obtain ⟨kUn, hsq58⟩ := hpq58
          replace hUn := kUn
          replace hM := (hsq58 78 (by omega)).trans hM
          replace hS := (hsq58 79 (by omega)).trans hS
          replace hF : ∀ j : Nat, j ≠ 78 ∧ j ≠ 88 → Ew58 j = E0 j := fun j hj => (hsq58 j (by omega)).trans (hF j hj)
          refine J_aload_n (q := 62) X dX10_remembers_61 rfl rfl ?_
          refine J_dup (q := 63) X dX10_remembers_62 rfl rfl ?_
          refine J_get (q := 66) X dX10_remembers_63 fX10_159 hM (by omega) rfl rfl ?_
          refine J_iconst (q := 67) X dX10_remembers_66 rfl ?_
          refine J_iadd (q := 68) X dX10_remembers_67 rfl ?_
          refine J_put (q := 71) (ty := .int) X dX10_remembers_68 fX10_159 rfl (by decide +kernel) rfl rfl hM (by omega) (Nat.le_of_ble_eq_true rfl) rfl (fun Ew68 hkq68 hsq68 => ?_)
          replace hM : Ew68 78 = .inr (9, [.ref (ad 79), .ref (ad 80), .int (jI _), .int (jI _), .int (jI _), .int (jI _), .int (jI _), .int (jI _), .int (jI _), .int (jI _), .int (jI _), .int (jI _), .int (jI _), .int (jI _), .ref (ad 81), .ref (ad 82), .ref (ad 83), .ref (ad 84), .ref (ad 85), .ref (ad 86), .ref (ad 87), .ref (ad 88), .ref (ad 89), .int (jI _), .int (jI _), .ref (ad 90), .ref (ad 91), .ref (ad 92), .ref (ad 93), .ref (ad 94), .int (jI _)]) := hkq68
          replace hS := (hsq68 79 (by omega)).trans hS
          replace hUn := (hsq68 88 (by omega)).trans hUn
          replace hF : ∀ j : Nat, j ≠ 78 ∧ j ≠ 88 → Ew68 j = E0 j := fun j hj => (hsq68 j (by omega)).trans (hF j hj)
          refine J_vret X R dX10_remembers_71 ?_
          rw [hE0] at hF
          by_cases h20 : m12 = 20
          · rw [show (if m12 = 20 then (20 : Int) else m12 + 1) = 20 from if_pos h20]
            first
              | (exfalso; omega)
              | (rw [show m12 - 1 + 1 = 20 by omega] at hM
                 refine ⟨rfl, _, hM, hUn, fun j a b => ?_, fun j a b => ?_, hF⟩
                 · simp only [kiF]; rw [if_pos (by omega)]; congr 1; omega
                 · simp only [kiF, shF]; rw [if_neg (by omega), if_pos (by omega), if_pos h20])
          · rw [show (if m12 = 20 then (20 : Int) else m12 + 1) = m12 + 1 from if_neg h20]
            first
              | (exfalso; omega)
              | (refine ⟨rfl, _, hM, hUn, fun j a b => ?_, fun j a b => ?_, hF⟩
                 · simp only [kiF]; rw [if_pos (by omega)]; congr 1; omega
                 · simp only [kiF]; rw [if_neg (by omega), if_neg h20])
        · refine J_aload_n (q := 19) X dX10_remembers_18 rfl rfl ?_
          refine J_get (q := 22) X dX10_remembers_19 fX10_37 hM (by omega) rfl rfl ?_
          refine J_iload_n (q := 23) X dX10_remembers_22 rfl rfl ?_
          refine J_aload_n (q := 24) X dX10_remembers_23 rfl rfl ?_
          refine J_get (q := 27) X dX10_remembers_24 fX10_37 hM (by omega) rfl rfl ?_
          refine J_iload_n (q := 28) X dX10_remembers_27 rfl rfl ?_
          refine J_bipush (q := 30) X dX10_remembers_28 rfl (by decide) ?_
          refine J_iadd (q := 31) X dX10_remembers_30 rfl ?_
          refine J_iald (q := 32) X dX10_remembers_31 hUn (by omega) (by omega) (by decide) rfl ?_
          refine J_iast (q := 33) X dX10_remembers_32 hUn (by omega) (by omega) (by decide) rfl (fun Ew32 hkq32 hsq32 => ?_)
          replace hUn := hkq32
          replace hM := (hsq32 78 (by omega)).trans hM
          replace hS := (hsq32 79 (by omega)).trans hS
          replace hF : ∀ j : Nat, j ≠ 78 ∧ j ≠ 88 → Ew32 j = E0 j := fun j hj => (hsq32 j (by omega)).trans (hF j hj)
          refine J_iinc (q := 36) X dX10_remembers_33 rfl (by decide) rfl rfl ?_
          refine J_goto (q := 11) X dX10_remembers_36 (by decide) ?_
          refine ih11 _ _ _ (by omega) (fun j => ?_) hM hS hUn hF (by omega)
          simp only [iu, hgg, shF]
          repeat' split
          all_goals first | rfl | (exfalso; omega) | (congr 1; omega)
    refine lp11 2000 _ _ _ (by omega) (fun j => ?_) hM hS hUn hF (by omega)
    simp only [shF]
    repeat' split
    all_goals first | rfl | (exfalso; omega) | (congr 1; omega)

set_option maxRecDepth 100000 in
set_option maxHeartbeats 4000000 in
theorem c_X10_edits {l : Launch} {Γ : JG} {ad : Nat → Nat} {E : Nat → va_E} {m0 m1 m2 m3 m4 m5 m6 m7 m8 m9 m10 m11 m12 m13 m14 : Int} {g un : Int → Int}  (hM : E 78 = .inr (9, [.ref (ad 79), .ref (ad 80), .int (jI m0), .int (jI m1), .int (jI m2), .int (jI m3), .int (jI m4), .int (jI m5), .int (jI m6), .int (jI m7), .int (jI m8), .int (jI m9), .int (jI m10), .int (jI m11), .ref (ad 81), .ref (ad 82), .ref (ad 83), .ref (ad 84), .ref (ad 85), .ref (ad 86), .ref (ad 87), .ref (ad 88), .ref (ad 89), .int (jI m12), .int (jI m13), .ref (ad 90), .ref (ad 91), .ref (ad 92), .ref (ad 93), .ref (ad 94), .int (jI m14)])) (hS : E 79 = aI Γ 305 g) (hUn : E 88 = aI Γ 1220 un) (hu : 0 ≤ m12 ∧ m12 ≤ 20) : JM l Γ yX10_edits cX10_edits 1 none 2 44 0 0 ad 95 E [.ref (ad 78)] (pV (fun E' => ∃ un' : Int → Int, E' 78 = .inr (9, [.ref (ad 79), .ref (ad 80), .int (jI m0), .int (jI m1), .int (jI m2), .int (jI m3), .int (jI m4), .int (jI m5), .int (jI m6), .int (jI m7), .int (jI m8), .int (jI m9), .int (jI m10), .int (jI m11), .ref (ad 81), .ref (ad 82), .ref (ad 83), .ref (ad 84), .ref (ad 85), .ref (ad 86), .ref (ad 87), .ref (ad 88), .ref (ad 89), .int (jI (if m12 = 20 then 20 else m12 + 1)), .int (jI 0), .ref (ad 90), .ref (ad 91), .ref (ad 92), .ref (ad 93), .ref (ad 94), .int (jI m14)]) ∧ E' 88 = aI Γ 1220 un' ∧ (∀ j, 0 ≤ j → j < 61 → un' (61 * ((if m12 = 20 then 20 else m12 + 1) - 1) + j) = g j) ∧ (∀ j, 0 ≤ j → j < 61 * ((if m12 = 20 then 20 else m12 + 1) - 1) → un' j = if m12 = 20 then un (j + 61) else un j) ∧ ∀ j : Nat, j ≠ 78 ∧ j ≠ 88 → E' j = E j)) := by
  refine JM_intro (own := RX10) [some (.ref (ad 78))] rfl rfl rfl (Nat.le_of_ble_eq_true rfl) ?_
  intro Ω X R hin
  obtain ⟨E0, hE0⟩ : ∃ E0 : Nat → va_E, E0 = E := ⟨_, rfl⟩
  have hF : ∀ j : Nat, j ≠ 78 ∧ j ≠ 88 → E j = E0 j := fun _ _ => by rw [hE0]
  refine J_aload_n (q := 1) X dX10_edits_0 rfl rfl ?_
  refine J_callV (q := 4) (jrV X mX10_237 dX10_edits_1 (c_X10_remembers hM hS hUn (by omega)) hM (by omega) rfl rfl rfl rfl (Nat.le_of_ble_eq_true rfl) (by decide)) rfl (fun Ew1 hpq1 => ?_)
  obtain ⟨unq1, kM, kUn, huaq1, hubq1, hsq1⟩ := hpq1
  replace hM := kM
  replace hUn := kUn
  replace hS := (hsq1 79 (by omega)).trans hS
  replace hF : ∀ j : Nat, j ≠ 78 ∧ j ≠ 88 → Ew1 j = E0 j := fun j hj => (hsq1 j (by omega)).trans (hF j hj)
  refine J_aload_n (q := 5) X dX10_edits_4 rfl rfl ?_
  refine J_iconst (q := 6) X dX10_edits_5 rfl ?_
  refine J_put (q := 9) (ty := .int) X dX10_edits_6 fX10_162 rfl (by decide +kernel) rfl rfl hM (by omega) (Nat.le_of_ble_eq_true rfl) rfl (fun Ew6 hkq6 hsq6 => ?_)
  replace hM : Ew6 78 = .inr (9, [.ref (ad 79), .ref (ad 80), .int (jI _), .int (jI _), .int (jI _), .int (jI _), .int (jI _), .int (jI _), .int (jI _), .int (jI _), .int (jI _), .int (jI _), .int (jI _), .int (jI _), .ref (ad 81), .ref (ad 82), .ref (ad 83), .ref (ad 84), .ref (ad 85), .ref (ad 86), .ref (ad 87), .ref (ad 88), .ref (ad 89), .int (jI _), .int (jI _), .ref (ad 90), .ref (ad 91), .ref (ad 92), .ref (ad 93), .ref (ad 94), .int (jI _)]) := hkq6
  replace hS := (hsq6 79 (by omega)).trans hS
  replace hUn := (hsq6 88 (by omega)).trans hUn
  replace hF : ∀ j : Nat, j ≠ 78 ∧ j ≠ 88 → Ew6 j = E0 j := fun j hj => (hsq6 j (by omega)).trans (hF j hj)
  refine J_vret X R dX10_edits_9 ?_
  rw [hE0] at hF
  exact ⟨rfl, _, hM, hUn, huaq1, hubq1, hF⟩

set_option maxRecDepth 100000 in
set_option maxHeartbeats 4000000 in
theorem c_X10_comesIn {l : Launch} {Γ : JG} {ad : Nat → Nat} {E : Nat → va_E} {m0 m1 m2 m3 m4 m5 m6 m7 m8 m9 m10 m11 m12 m13 m14 : Int} {g : Int → Int} {p c : Int} {n : Int} (hM : E 78 = .inr (9, [.ref (ad 79), .ref (ad 80), .int (jI m0), .int (jI m1), .int (jI m2), .int (jI m3), .int (jI m4), .int (jI m5), .int (jI m6), .int (jI m7), .int (jI m8), .int (jI m9), .int (jI m10), .int (jI m11), .ref (ad 81), .ref (ad 82), .ref (ad 83), .ref (ad 84), .ref (ad 85), .ref (ad 86), .ref (ad 87), .ref (ad 88), .ref (ad 89), .int (jI m12), .int (jI m13), .ref (ad 90), .ref (ad 91), .ref (ad 92), .ref (ad 93), .ref (ad 94), .int (jI m14)])) (hS : E 79 = aI Γ 305 g) (hgn : g 60 = n) (hp : 0 ≤ p ∧ p ≤ n ∧ n < 60) : JM l Γ yX10_comesIn cX10_comesIn 4 none 1 20 0 0 ad 95 E [.ref (ad 78), .int (jI p), .int (jI c)] (pV (fun E' => E' 79 = aI Γ 305 (ciF g n p c) ∧ ∀ j : Nat, j ≠ 79 → E' j = E j)) := by
  refine JM_intro (own := RX10) [some (.ref (ad 78)), some (.int (jI p)), some (.int (jI c)), none] rfl rfl rfl (Nat.le_of_ble_eq_true rfl) ?_
  intro Ω X R hin
  obtain ⟨E0, hE0⟩ : ∃ E0 : Nat → va_E, E0 = E := ⟨_, rfl⟩
  have hF : ∀ j : Nat, j ≠ 79 → E j = E0 j := fun _ _ => by rw [hE0]
  refine J_aload_n (q := 1) X dX10_comesIn_0 rfl rfl ?_
  refine J_callP (q := 4) (jrV X mX10_165 dX10_comesIn_1 (c_X10_many60 hM hS) hM (by omega) rfl rfl rfl rfl (Nat.le_of_ble_eq_true rfl) (by decide)) rfl ?_
  refine J_istore_n (q := 5) X dX10_comesIn_4 (by decide) rfl rfl ?_
  have lp5 : ∀ (mm : Nat) (t : Int) (gg : Int → Int) (E : Nat → va_E) (ht : p ≤ t ∧ t ≤ n) (hgg : ∀ j : Int, gg j = if t < j ∧ j ≤ n then g (j - 1) else g j) (hM : E 78 = .inr (9, [.ref (ad 79), .ref (ad 80), .int (jI m0), .int (jI m1), .int (jI m2), .int (jI m3), .int (jI m4), .int (jI m5), .int (jI m6), .int (jI m7), .int (jI m8), .int (jI m9), .int (jI m10), .int (jI m11), .ref (ad 81), .ref (ad 82), .ref (ad 83), .ref (ad 84), .ref (ad 85), .ref (ad 86), .ref (ad 87), .ref (ad 88), .ref (ad 89), .int (jI m12), .int (jI m13), .ref (ad 90), .ref (ad 91), .ref (ad 92), .ref (ad 93), .ref (ad 94), .int (jI m14)])) (hS : E 79 = aI Γ 305 gg) (hF : ∀ j : Nat, j ≠ 79 → E j = E0 j) (hmm : t - p + 1 ≤ (mm : Int)), J l Γ Ω 4 ad 95 0 0 E 5 [some (.ref (ad 78)), some (.int (jI p)), some (.int (jI c)), some (.int (jI t))] [] := by
    intro mm
    induction mm with
    | zero => intro t gg E ht hgg hM hS hF hmm; exfalso; omega
    | succ mm ih5 =>
      intro t gg E ht hgg hM hS hF hmm
      refine J_iload_n (q := 6) X dX10_comesIn_5 rfl rfl ?_
      refine J_iload_n (q := 7) X dX10_comesIn_6 rfl rfl ?_
      refine J_icmp_le (q := 10) (tgt := 30) X dX10_comesIn_7 (by decide) rfl (by omega) (by omega) (fun cq7 => ?_) (fun cq7 => ?_)
      · refine J_aload_n (q := 31) X dX10_comesIn_30 rfl rfl ?_
        refine J_get (q := 34) X dX10_comesIn_31 fX10_7 hM (by omega) rfl rfl ?_
        refine J_iload_n (q := 35) X dX10_comesIn_34 rfl rfl ?_
        refine J_iload_n (q := 36) X dX10_comesIn_35 rfl rfl ?_
        refine J_iast (q := 37) X dX10_comesIn_36 hS (by omega) (by omega) (by decide) rfl (fun Ew36 hkq36 hsq36 => ?_)
        replace hS := hkq36
        replace hM := (hsq36 78 (by omega)).trans hM
        replace hF : ∀ j : Nat, j ≠ 79 → Ew36 j = E0 j := fun j hj => (hsq36 j (by omega)).trans (hF j hj)
        refine J_aload_n (q := 38) X dX10_comesIn_37 rfl rfl ?_
        refine J_get (q := 41) X dX10_comesIn_38 fX10_7 hM (by omega) rfl rfl ?_
        refine J_bipush (q := 43) X dX10_comesIn_41 rfl (by decide) ?_
        refine J_dup2 (q := 44) X dX10_comesIn_43 rfl rfl rfl ?_
        refine J_iald (q := 45) X dX10_comesIn_44 hS (by omega) (by omega) (by decide) rfl ?_
        refine J_iconst (q := 46) X dX10_comesIn_45 rfl ?_
        refine J_iadd (q := 47) X dX10_comesIn_46 rfl ?_
        refine J_iast (q := 48) X dX10_comesIn_47 hS (by omega) (by omega) (by decide) rfl (fun Ew47 hkq47 hsq47 => ?_)
        replace hS := hkq47
        replace hM := (hsq47 78 (by omega)).trans hM
        replace hF : ∀ j : Nat, j ≠ 79 → Ew47 j = E0 j := fun j hj => (hsq47 j (by omega)).trans (hF j hj)
        refine J_vret X R dX10_comesIn_48 ?_
        rw [hE0] at hF
        have et : t = p := by omega
        have hg60 : iu gg p c 60 = n := by simp only [iu, hgg]; rw [if_neg (by omega), if_neg (by omega)]; exact hgn
        refine ⟨rfl, ?_, hF⟩
        have he : iu (iu gg p c) 60 (iu gg p c 60 + 1) = ciF g n p c := by
          rw [hg60]
          funext j
          simp only [iu, hgg, ciF, et]
        rw [← he]
        exact hS
      · refine J_aload_n (q := 11) X dX10_comesIn_10 rfl rfl ?_
        refine J_get (q := 14) X dX10_comesIn_11 fX10_7 hM (by omega) rfl rfl ?_
        refine J_iload_n (q := 15) X dX10_comesIn_14 rfl rfl ?_
        refine J_aload_n (q := 16) X dX10_comesIn_15 rfl rfl ?_
        refine J_get (q := 19) X dX10_comesIn_16 fX10_7 hM (by omega) rfl rfl ?_
        refine J_iload_n (q := 20) X dX10_comesIn_19 rfl rfl ?_
        refine J_iconst (q := 21) X dX10_comesIn_20 rfl ?_
        refine J_isub (q := 22) X dX10_comesIn_21 rfl ?_
        refine J_iald (q := 23) X dX10_comesIn_22 hS (by omega) (by omega) (by decide) rfl ?_
        refine J_iast (q := 24) X dX10_comesIn_23 hS (by omega) (by omega) (by decide) rfl (fun Ew23 hkq23 hsq23 => ?_)
        replace hS := hkq23
        replace hM := (hsq23 78 (by omega)).trans hM
        replace hF : ∀ j : Nat, j ≠ 79 → Ew23 j = E0 j := fun j hj => (hsq23 j (by omega)).trans (hF j hj)
        refine J_iinc (q := 27) X dX10_comesIn_24 rfl (by decide) rfl rfl ?_
        refine J_goto (q := 5) X dX10_comesIn_27 (by decide) ?_
        refine ih5 _ _ _ (by omega) (fun j => ?_) hM hS hF (by omega)
        simp only [iu, hgg]
        repeat' split
        all_goals first | rfl | (exfalso; omega) | (congr 1; omega)
  rw [hgn]
  exact lp5 100 _ _ _ (by omega) (fun j => by rw [if_neg (by omega)]) hM hS hF (by omega)

set_option maxRecDepth 100000 in
set_option maxHeartbeats 4000000 in
theorem c_X10_goes {l : Launch} {Γ : JG} {ad : Nat → Nat} {E : Nat → va_E} {m0 m1 m2 m3 m4 m5 m6 m7 m8 m9 m10 m11 m12 m13 m14 : Int} {g : Int → Int} {i w : Int} {n : Int} (hM : E 78 = .inr (9, [.ref (ad 79), .ref (ad 80), .int (jI m0), .int (jI m1), .int (jI m2), .int (jI m3), .int (jI m4), .int (jI m5), .int (jI m6), .int (jI m7), .int (jI m8), .int (jI m9), .int (jI m10), .int (jI m11), .ref (ad 81), .ref (ad 82), .ref (ad 83), .ref (ad 84), .ref (ad 85), .ref (ad 86), .ref (ad 87), .ref (ad 88), .ref (ad 89), .int (jI m12), .int (jI m13), .ref (ad 90), .ref (ad 91), .ref (ad 92), .ref (ad 93), .ref (ad 94), .int (jI m14)])) (hS : E 79 = aI Γ 305 g) (hgn : g 60 = n) (hp : 0 ≤ i ∧ 1 ≤ w ∧ i + w ≤ n ∧ n ≤ 60) : JM l Γ yX10_goes cX10_goes 4 none 1 20 0 0 ad 95 E [.ref (ad 78), .int (jI i), .int (jI w)] (pV (fun E' => E' 79 = aI Γ 305 (goF g n i w) ∧ ∀ j : Nat, j ≠ 79 → E' j = E j)) := by
  refine JM_intro (own := RX10) [some (.ref (ad 78)), some (.int (jI i)), some (.int (jI w)), none] rfl rfl rfl (Nat.le_of_ble_eq_true rfl) ?_
  intro Ω X R hin
  obtain ⟨E0, hE0⟩ : ∃ E0 : Nat → va_E, E0 = E := ⟨_, rfl⟩
  have hF : ∀ j : Nat, j ≠ 79 → E j = E0 j := fun _ _ => by rw [hE0]
  refine J_iload_n (q := 1) X dX10_goes_0 rfl rfl ?_
  refine J_istore_n (q := 2) X dX10_goes_1 (by decide) rfl rfl ?_
  have lp2 : ∀ (mm : Nat) (t : Int) (gg : Int → Int) (E : Nat → va_E) (ht : i ≤ t ∧ t ≤ n - w) (hgg : ∀ j : Int, gg j = if i ≤ j ∧ j < t then g (j + w) else g j) (hM : E 78 = .inr (9, [.ref (ad 79), .ref (ad 80), .int (jI m0), .int (jI m1), .int (jI m2), .int (jI m3), .int (jI m4), .int (jI m5), .int (jI m6), .int (jI m7), .int (jI m8), .int (jI m9), .int (jI m10), .int (jI m11), .ref (ad 81), .ref (ad 82), .ref (ad 83), .ref (ad 84), .ref (ad 85), .ref (ad 86), .ref (ad 87), .ref (ad 88), .ref (ad 89), .int (jI m12), .int (jI m13), .ref (ad 90), .ref (ad 91), .ref (ad 92), .ref (ad 93), .ref (ad 94), .int (jI m14)])) (hS : E 79 = aI Γ 305 gg) (hF : ∀ j : Nat, j ≠ 79 → E j = E0 j) (hmm : n - w - t + 1 ≤ (mm : Int)), J l Γ Ω 4 ad 95 0 0 E 2 [some (.ref (ad 78)), some (.int (jI i)), some (.int (jI w)), some (.int (jI t))] [] := by
    intro mm
    induction mm with
    | zero => intro t gg E ht hgg hM hS hF hmm; exfalso; omega
    | succ mm ih2 =>
      intro t gg E ht hgg hM hS hF hmm
      have hg60 : gg 60 = n := by rw [hgg, if_neg (by omega)]; exact hgn
      refine J_iload_n (q := 3) X dX10_goes_2 rfl rfl ?_
      refine J_iload_n (q := 4) X dX10_goes_3 rfl rfl ?_
      refine J_iadd (q := 5) X dX10_goes_4 rfl ?_
      refine J_aload_n (q := 6) X dX10_goes_5 rfl rfl ?_
      refine J_callP (q := 9) (jrV X mX10_165 dX10_goes_6 (c_X10_many60 hM hS) hM (by omega) rfl rfl rfl rfl (Nat.le_of_ble_eq_true rfl) (by decide)) rfl ?_
      refine J_icmp_ge (q := 12) (tgt := 32) X dX10_goes_9 (by decide) rfl (by omega) (by omega) (fun cq9 => ?_) (fun cq9 => ?_)
      · refine J_aload_n (q := 33) X dX10_goes_32 rfl rfl ?_
        refine J_get (q := 36) X dX10_goes_33 fX10_7 hM (by omega) rfl rfl ?_
        refine J_bipush (q := 38) X dX10_goes_36 rfl (by decide) ?_
        refine J_dup2 (q := 39) X dX10_goes_38 rfl rfl rfl ?_
        refine J_iald (q := 40) X dX10_goes_39 hS (by omega) (by omega) (by decide) rfl ?_
        refine J_iload_n (q := 41) X dX10_goes_40 rfl rfl ?_
        refine J_isub (q := 42) X dX10_goes_41 rfl ?_
        refine J_iast (q := 43) X dX10_goes_42 hS (by omega) (by omega) (by decide) rfl (fun Ew42 hkq42 hsq42 => ?_)
        replace hS := hkq42
        replace hM := (hsq42 78 (by omega)).trans hM
        replace hF : ∀ j : Nat, j ≠ 79 → Ew42 j = E0 j := fun j hj => (hsq42 j (by omega)).trans (hF j hj)
        refine J_vret X R dX10_goes_43 ?_
        rw [hE0] at hF
        have et : t = n - w := by omega
        refine ⟨rfl, ?_, hF⟩
        have he : iu gg 60 (gg 60 - w) = goF g n i w := by
          rw [hg60]
          funext j
          simp only [iu, hgg, goF, et]
        rw [← he]
        exact hS
      · refine J_aload_n (q := 13) X dX10_goes_12 rfl rfl ?_
        refine J_get (q := 16) X dX10_goes_13 fX10_7 hM (by omega) rfl rfl ?_
        refine J_iload_n (q := 17) X dX10_goes_16 rfl rfl ?_
        refine J_aload_n (q := 18) X dX10_goes_17 rfl rfl ?_
        refine J_get (q := 21) X dX10_goes_18 fX10_7 hM (by omega) rfl rfl ?_
        refine J_iload_n (q := 22) X dX10_goes_21 rfl rfl ?_
        refine J_iload_n (q := 23) X dX10_goes_22 rfl rfl ?_
        refine J_iadd (q := 24) X dX10_goes_23 rfl ?_
        refine J_iald (q := 25) X dX10_goes_24 hS (by omega) (by omega) (by decide) rfl ?_
        refine J_iast (q := 26) X dX10_goes_25 hS (by omega) (by omega) (by decide) rfl (fun Ew25 hkq25 hsq25 => ?_)
        replace hS := hkq25
        replace hM := (hsq25 78 (by omega)).trans hM
        replace hF : ∀ j : Nat, j ≠ 79 → Ew25 j = E0 j := fun j hj => (hsq25 j (by omega)).trans (hF j hj)
        refine J_iinc (q := 29) X dX10_goes_26 rfl (by decide) rfl rfl ?_
        refine J_goto (q := 2) X dX10_goes_29 (by decide) ?_
        refine ih2 _ _ _ (by omega) (fun j => ?_) hM hS hF (by omega)
        simp only [iu, hgg]
        repeat' split
        all_goals first | rfl | (exfalso; omega) | (congr 1; omega)
  exact lp2 100 _ _ _ (by omega) (fun j => by rw [if_neg (by omega)]) hM hS hF (by omega)

set_option maxRecDepth 100000 in
set_option maxHeartbeats 4000000 in
theorem c_X10_lifts {l : Launch} {Γ : JG} {ad : Nat → Nat} {E : Nat → va_E} {m0 m1 m2 m3 m4 m5 m6 m7 m8 m9 m10 m11 m12 m13 m14 : Int} {g ot : Int → Int} {i w : Int}  (hM : E 78 = .inr (9, [.ref (ad 79), .ref (ad 80), .int (jI m0), .int (jI m1), .int (jI m2), .int (jI m3), .int (jI m4), .int (jI m5), .int (jI m6), .int (jI m7), .int (jI m8), .int (jI m9), .int (jI m10), .int (jI m11), .ref (ad 81), .ref (ad 82), .ref (ad 83), .ref (ad 84), .ref (ad 85), .ref (ad 86), .ref (ad 87), .ref (ad 88), .ref (ad 89), .int (jI m12), .int (jI m13), .ref (ad 90), .ref (ad 91), .ref (ad 92), .ref (ad 93), .ref (ad 94), .int (jI m14)])) (hS : E 79 = aI Γ 305 g) (hOt : E 90 = aI Γ 120 ot) (hp : 0 ≤ i ∧ 0 ≤ w ∧ i + w ≤ 60) : JM l Γ yX10_lifts cX10_lifts 4 none 0 0 0 0 ad 95 E [.ref (ad 78), .int (jI i), .int (jI w)] (pV (fun E' => E' 90 = aI Γ 120 (liF g ot i w) ∧ ∀ j : Nat, j ≠ 90 → E' j = E j)) := by
  refine JM_intro (own := RX10) [some (.ref (ad 78)), some (.int (jI i)), some (.int (jI w)), none] rfl rfl rfl (Nat.le_of_ble_eq_true rfl) ?_
  intro Ω X R hin
  obtain ⟨E0, hE0⟩ : ∃ E0 : Nat → va_E, E0 = E := ⟨_, rfl⟩
  have hF : ∀ j : Nat, j ≠ 90 → E j = E0 j := fun _ _ => by rw [hE0]
  refine J_iconst (q := 1) X dX10_lifts_0 rfl ?_
  refine J_istore_n (q := 2) X dX10_lifts_1 (by decide) rfl rfl ?_
  have lp2 : ∀ (mm : Nat) (t : Int) (gg : Int → Int) (E : Nat → va_E) (ht : 0 ≤ t ∧ t ≤ w) (hgg : ∀ j : Int, gg j = (liF g ot i t) j) (hM : E 78 = .inr (9, [.ref (ad 79), .ref (ad 80), .int (jI m0), .int (jI m1), .int (jI m2), .int (jI m3), .int (jI m4), .int (jI m5), .int (jI m6), .int (jI m7), .int (jI m8), .int (jI m9), .int (jI m10), .int (jI m11), .ref (ad 81), .ref (ad 82), .ref (ad 83), .ref (ad 84), .ref (ad 85), .ref (ad 86), .ref (ad 87), .ref (ad 88), .ref (ad 89), .int (jI m12), .int (jI m13), .ref (ad 90), .ref (ad 91), .ref (ad 92), .ref (ad 93), .ref (ad 94), .int (jI m14)])) (hS : E 79 = aI Γ 305 g) (hOt : E 90 = aI Γ 120 gg) (hF : ∀ j : Nat, j ≠ 90 → E j = E0 j) (hmm : w - t + 1 ≤ (mm : Int)), J l Γ Ω 4 ad 95 0 0 E 2 [some (.ref (ad 78)), some (.int (jI i)), some (.int (jI w)), some (.int (jI t))] [] := by
    intro mm
    induction mm with
    | zero => intro t gg E ht hgg hM hS hOt hF hmm; exfalso; omega
    | succ mm ih2 =>
      intro t gg E ht hgg hM hS hOt hF hmm
      refine J_iload_n (q := 3) X dX10_lifts_2 rfl rfl ?_
      refine J_iload_n (q := 4) X dX10_lifts_3 rfl rfl ?_
      refine J_icmp_ge (q := 7) (tgt := 27) X dX10_lifts_4 (by decide) rfl (by omega) (by omega) (fun cq4 => ?_) (fun cq4 => ?_)
      · refine J_vret X R dX10_lifts_27 ?_
        rw [hE0] at hF
        have et : t = w := by omega
        subst et
        obtain rfl : gg = liF g ot i t := funext hgg
        exact ⟨rfl, hOt, hF⟩
      · refine J_aload_n (q := 8) X dX10_lifts_7 rfl rfl ?_
        refine J_get (q := 11) X dX10_lifts_8 fX10_43 hM (by omega) rfl rfl ?_
        refine J_iload_n (q := 12) X dX10_lifts_11 rfl rfl ?_
        refine J_aload_n (q := 13) X dX10_lifts_12 rfl rfl ?_
        refine J_get (q := 16) X dX10_lifts_13 fX10_7 hM (by omega) rfl rfl ?_
        refine J_iload_n (q := 17) X dX10_lifts_16 rfl rfl ?_
        refine J_iload_n (q := 18) X dX10_lifts_17 rfl rfl ?_
        refine J_iadd (q := 19) X dX10_lifts_18 rfl ?_
        refine J_iald (q := 20) X dX10_lifts_19 hS (by omega) (by omega) (by decide) rfl ?_
        refine J_iast (q := 21) X dX10_lifts_20 hOt (by omega) (by omega) (by decide) rfl (fun Ew20 hkq20 hsq20 => ?_)
        replace hOt := hkq20
        replace hM := (hsq20 78 (by omega)).trans hM
        replace hS := (hsq20 79 (by omega)).trans hS
        replace hF : ∀ j : Nat, j ≠ 90 → Ew20 j = E0 j := fun j hj => (hsq20 j (by omega)).trans (hF j hj)
        refine J_iinc (q := 24) X dX10_lifts_21 rfl (by decide) rfl rfl ?_
        refine J_goto (q := 2) X dX10_lifts_24 (by decide) ?_
        refine ih2 _ _ _ (by omega) (fun j => ?_) hM hS hOt hF (by omega)
        simp only [iu, hgg, liF]
        repeat' split
        all_goals first | rfl | (exfalso; omega) | (congr 1; omega)
  refine lp2 2000 _ _ _ (by omega) (fun j => ?_) hM hS hOt hF (by omega)
  simp only [liF]
  repeat' split
  all_goals first | rfl | (exfalso; omega) | (congr 1; omega)

set_option maxRecDepth 100000 in
set_option maxHeartbeats 4000000 in
theorem c_X10_laysDown {l : Launch} {Γ : JG} {ad : Nat → Nat} {E : Nat → va_E} {m0 m1 m2 m3 m4 m5 m6 m7 m8 m9 m10 m11 m12 m13 m14 : Int} {g ot : Int → Int} {w p : Int} {n : Int} (hM : E 78 = .inr (9, [.ref (ad 79), .ref (ad 80), .int (jI m0), .int (jI m1), .int (jI m2), .int (jI m3), .int (jI m4), .int (jI m5), .int (jI m6), .int (jI m7), .int (jI m8), .int (jI m9), .int (jI m10), .int (jI m11), .ref (ad 81), .ref (ad 82), .ref (ad 83), .ref (ad 84), .ref (ad 85), .ref (ad 86), .ref (ad 87), .ref (ad 88), .ref (ad 89), .int (jI m12), .int (jI m13), .ref (ad 90), .ref (ad 91), .ref (ad 92), .ref (ad 93), .ref (ad 94), .int (jI m14)])) (hS : E 79 = aI Γ 305 g) (hOt : E 90 = aI Γ 120 ot) (hgn : g 60 = n) (hp : 0 ≤ w ∧ 0 ≤ p ∧ p ≤ n ∧ n + w ≤ 60) : JM l Γ yX10_laysDown cX10_laysDown 4 none 2 43 0 0 ad 95 E [.ref (ad 78), .int (jI w), .int (jI p)] (pV (fun E' => E' 79 = aI Γ 305 (ldF g ot n w p) ∧ ∀ j : Nat, j ≠ 79 → E' j = E j)) := by
  refine JM_intro (own := RX10) [some (.ref (ad 78)), some (.int (jI w)), some (.int (jI p)), none] rfl rfl rfl (Nat.le_of_ble_eq_true rfl) ?_
  intro Ω X R hin
  obtain ⟨E0, hE0⟩ : ∃ E0 : Nat → va_E, E0 = E := ⟨_, rfl⟩
  have hF : ∀ j : Nat, j ≠ 79 → E j = E0 j := fun _ _ => by rw [hE0]
  refine J_iconst (q := 1) X dX10_laysDown_0 rfl ?_
  refine J_istore_n (q := 2) X dX10_laysDown_1 (by decide) rfl rfl ?_
  have lp2 : ∀ (mm : Nat) (t : Int) (gg : Int → Int) (E : Nat → va_E) (ht : 0 ≤ t ∧ t ≤ w) (hgg : ∀ j : Int, gg j = (ldF g ot n t p) j) (hM : E 78 = .inr (9, [.ref (ad 79), .ref (ad 80), .int (jI m0), .int (jI m1), .int (jI m2), .int (jI m3), .int (jI m4), .int (jI m5), .int (jI m6), .int (jI m7), .int (jI m8), .int (jI m9), .int (jI m10), .int (jI m11), .ref (ad 81), .ref (ad 82), .ref (ad 83), .ref (ad 84), .ref (ad 85), .ref (ad 86), .ref (ad 87), .ref (ad 88), .ref (ad 89), .int (jI m12), .int (jI m13), .ref (ad 90), .ref (ad 91), .ref (ad 92), .ref (ad 93), .ref (ad 94), .int (jI m14)])) (hS : E 79 = aI Γ 305 gg) (hOt : E 90 = aI Γ 120 ot) (hF : ∀ j : Nat, j ≠ 79 → E j = E0 j) (hmm : w - t + 1 ≤ (mm : Int)), J l Γ Ω 4 ad 95 0 0 E 2 [some (.ref (ad 78)), some (.int (jI w)), some (.int (jI p)), some (.int (jI t))] [] := by
    intro mm
    induction mm with
    | zero => intro t gg E ht hgg hM hS hOt hF hmm; exfalso; omega
    | succ mm ih2 =>
      intro t gg E ht hgg hM hS hOt hF hmm
      refine J_iload_n (q := 3) X dX10_laysDown_2 rfl rfl ?_
      refine J_iload_n (q := 4) X dX10_laysDown_3 rfl rfl ?_
      refine J_icmp_ge (q := 7) (tgt := 26) X dX10_laysDown_4 (by decide) rfl (by omega) (by omega) (fun cq4 => ?_) (fun cq4 => ?_)
      · refine J_vret X R dX10_laysDown_26 ?_
        rw [hE0] at hF
        have et : t = w := by omega
        subst et
        obtain rfl : gg = ldF g ot n t p := funext hgg
        exact ⟨rfl, hS, hF⟩
      · refine J_aload_n (q := 8) X dX10_laysDown_7 rfl rfl ?_
        refine J_iload_n (q := 9) X dX10_laysDown_8 rfl rfl ?_
        refine J_iload_n (q := 10) X dX10_laysDown_9 rfl rfl ?_
        refine J_iadd (q := 11) X dX10_laysDown_10 rfl ?_
        refine J_aload_n (q := 12) X dX10_laysDown_11 rfl rfl ?_
        refine J_get (q := 15) X dX10_laysDown_12 fX10_43 hM (by omega) rfl rfl ?_
        refine J_iload_n (q := 16) X dX10_laysDown_15 rfl rfl ?_
        refine J_iald (q := 17) X dX10_laysDown_16 hOt (by omega) (by omega) (by decide) rfl ?_
        refine J_callV (q := 20) (jrV X mX10_243 dX10_laysDown_17 (c_X10_comesIn hM hS (show gg 60 = n + t from (hgg 60).trans (if_pos rfl)) (by omega)) hM (by omega) rfl rfl rfl rfl (Nat.le_of_ble_eq_true rfl) (by decide)) rfl (fun Ew17 hpq17 => ?_)
        obtain ⟨kS, hsq17⟩ := hpq17
        replace hS := kS
        replace hM := (hsq17 78 (by omega)).trans hM
        replace hOt := (hsq17 90 (by omega)).trans hOt
        replace hF : ∀ j : Nat, j ≠ 79 → Ew17 j = E0 j := fun j hj => (hsq17 j (by omega)).trans (hF j hj)
        refine J_iinc (q := 23) X dX10_laysDown_20 rfl (by decide) rfl rfl ?_
        refine J_goto (q := 2) X dX10_laysDown_23 (by decide) ?_
        refine ih2 _ _ _ (by omega) (fun j => ?_) hM hS hOt hF (by omega)
        simp only [ciF, hgg, ldF]
        repeat' split
        all_goals first | rfl | (exfalso; omega) | (congr 1; omega) | omega
  refine lp2 2000 _ _ _ (by omega) (fun j => ?_) hM hS hOt hF (by omega)
  simp only [ldF]
  repeat' split
  all_goals first | rfl | (exfalso; omega) | (congr 1; omega) | (subst_vars; omega)

set_option maxRecDepth 100000 in
set_option maxHeartbeats 4000000 in
theorem c_X10_isPart {l : Launch} {Γ : JG} {ad : Nat → Nat} {E : Nat → va_E} {m0 m1 m2 m3 m4 m5 m6 m7 m8 m9 m10 m11 m12 m13 m14 : Int} {g : Int → Int} {n i w : Int} {f : Int → Int}  (hM : E 78 = .inr (9, [.ref (ad 79), .ref (ad 80), .int (jI m0), .int (jI m1), .int (jI m2), .int (jI m3), .int (jI m4), .int (jI m5), .int (jI m6), .int (jI m7), .int (jI m8), .int (jI m9), .int (jI m10), .int (jI m11), .ref (ad 81), .ref (ad 82), .ref (ad 83), .ref (ad 84), .ref (ad 85), .ref (ad 86), .ref (ad 87), .ref (ad 88), .ref (ad 89), .int (jI m12), .int (jI m13), .ref (ad 90), .ref (ad 91), .ref (ad 92), .ref (ad 93), .ref (ad 94), .int (jI m14)])) (hS : E 79 = aI Γ 305 g) (hg : MS g n f) (hv : VR f n) (hbi : -2147483648 ≤ i ∧ i < 2147483648) (hbw : -2147483648 ≤ w ∧ w < 2147483648) : JM l Γ yX10_isPart cX10_isPart 3 (some .boolean) 1 20 0 0 ad 95 E [.ref (ad 78), .int (jI i), .int (jI w)] (pP (bI (0 ≤ i ∧ i < n ∧ 1 ≤ w ∧ w ≤ n - i)) E) := by
  refine JM_intro (own := RX10) [some (.ref (ad 78)), some (.int (jI i)), some (.int (jI w))] rfl rfl rfl (Nat.le_of_ble_eq_true rfl) ?_
  intro Ω X R hin
  obtain ⟨hgn, hgf⟩ := id hg
  obtain ⟨hn, hvr⟩ := id hv
  refine J_iload_n (q := 1) X dX10_isPart_0 rfl rfl ?_
  refine J_if_le (q := 4) (tgt := 26) X dX10_isPart_1 (by decide) rfl (by omega) (fun cq1 => ?_) (fun cq1 => ?_)
  · refine J_iconst (q := 27) X dX10_isPart_26 rfl ?_
    refine J_zret X R dX10_isPart_27 (nrw_z (by first | omega | exact bI_bd _)) ?_
    exact ⟨by unfold bI; first | (rw [if_pos (by omega)]; done) | (rw [if_neg (by omega)]; done), rfl⟩
  · refine J_iload_n (q := 5) X dX10_isPart_4 rfl rfl ?_
    refine J_if_lt (q := 8) (tgt := 26) X dX10_isPart_5 (by decide) rfl (by omega) (fun cq5 => ?_) (fun cq5 => ?_)
    · refine J_iconst (q := 27) X dX10_isPart_26 rfl ?_
      refine J_zret X R dX10_isPart_27 (nrw_z (by first | omega | exact bI_bd _)) ?_
      exact ⟨by unfold bI; first | (rw [if_pos (by omega)]; done) | (rw [if_neg (by omega)]; done), rfl⟩
    · refine J_iload_n (q := 9) X dX10_isPart_8 rfl rfl ?_
      refine J_i2l (q := 10) X dX10_isPart_9 rfl (by omega) ?_
      refine J_iload_n (q := 11) X dX10_isPart_10 rfl rfl ?_
      refine J_i2l (q := 12) X dX10_isPart_11 rfl (by omega) ?_
      refine J_ladd (q := 13) X dX10_isPart_12 rfl ?_
      refine J_aload_n (q := 14) X dX10_isPart_13 rfl rfl ?_
      refine J_callP (q := 17) (jrV X mX10_165 dX10_isPart_14 (c_X10_many hM hS hg hv) hM (by omega) rfl rfl rfl rfl (Nat.le_of_ble_eq_true rfl) (by decide)) rfl ?_
      refine J_i2l (q := 18) X dX10_isPart_17 rfl (by omega) ?_
      refine J_lcmp (q := 19) X dX10_isPart_18 rfl (by omega) (by omega) (fun wq18 hwq18 => ?_)
      refine J_if_gt (q := 22) (tgt := 26) X dX10_isPart_19 (by decide) rfl (by omega) (fun cq19 => ?_) (fun cq19 => ?_)
      · refine J_iconst (q := 27) X dX10_isPart_26 rfl ?_
        refine J_zret X R dX10_isPart_27 (nrw_z (by first | omega | exact bI_bd _)) ?_
        exact ⟨by unfold bI; first | (rw [if_pos (by omega)]; done) | (rw [if_neg (by omega)]; done), rfl⟩
      · refine J_iconst (q := 23) X dX10_isPart_22 rfl ?_
        refine J_goto (q := 27) X dX10_isPart_23 (by decide) ?_
        refine J_zret X R dX10_isPart_27 (nrw_z (by first | omega | exact bI_bd _)) ?_
        exact ⟨by unfold bI; first | (rw [if_pos (by omega)]; done) | (rw [if_neg (by omega)]; done), rfl⟩
