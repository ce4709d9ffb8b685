/-! the plain one reads tokens -/
abbrev bt (tb : Int → Int) (tl k : Int) : Int := if k < tl then tb k else -4
theorem bt_in {tb : Int → Int} {tl k : Int} (h : TB tl tb) (hk : 0 ≤ k) : (k < tl ∧ bt tb tl k = tb k ∧ 0 ≤ tb k ∧ tb k ≤ 127) ∨ (tl ≤ k ∧ bt tb tl k = -4) := by
  by_cases hq : k < tl
  · exact Or.inl ⟨hq, if_pos hq, h.2 k hk hq⟩
  · exact Or.inr ⟨by omega, if_neg hq⟩
abbrev okQ (tb : Int → Int) (tl a : Int) : Prop := tkQ tb tl a < tl ∧ tb (tkQ tb tl a) = 34
set_option maxRecDepth 100000 in
set_option maxHeartbeats 4000000 in
theorem c_X10_byteAt {l : Launch} {Γ : JG} {ad : Nat → Nat} {E : Nat → va_E} {m0 m1 m2 m3 m4 m5 m6 m7 m8 m9 m10 m11 m12 m13 m14 : Int} {tb : Int → Int} {k : Int} (hM : E 78 = .inr (9, [.ref (ad 79), .ref (ad 80), .int (jI m0), .int (jI m1), .int (jI m2), .int (jI m3), .int (jI m4), .int (jI m5), .int (jI m6), .int (jI m7), .int (jI m8), .int (jI m9), .int (jI m10), .int (jI m11), .ref (ad 81), .ref (ad 82), .ref (ad 83), .ref (ad 84), .ref (ad 85), .ref (ad 86), .ref (ad 87), .ref (ad 88), .ref (ad 89), .int (jI m12), .int (jI m13), .ref (ad 90), .ref (ad 91), .ref (ad 92), .ref (ad 93), .ref (ad 94), .int (jI m14)])) (hTp : E 80 = aI Γ 160 tb) (htb : TB m0 tb) (hk : 0 ≤ k ∧ k < 2147483648) : JM l Γ yX10_byteAt cX10_byteAt 2 (some .int) 0 0 0 0 ad 95 E [.ref (ad 78), .int (jI k)] (pP (bt tb m0 k) E) := by
  refine JM_intro (own := RX10) [some (.ref (ad 78)), some (.int (jI k))] rfl rfl rfl (Nat.le_of_ble_eq_true rfl) ?_
  intro Ω X R hin
  have htl := htb.1
  refine J_iload_n (q := 1) X dX10_byteAt_0 rfl rfl ?_
  refine J_aload_n (q := 2) X dX10_byteAt_1 rfl rfl ?_
  refine J_get (q := 5) X dX10_byteAt_2 fX10_65 hM (by omega) rfl rfl ?_
  refine J_icmp_ge (q := 8) (tgt := 17) X dX10_byteAt_5 (by decide) rfl (by omega) (by omega) (fun cq5 => ?_) (fun cq5 => ?_)
  · refine J_bipush (q := 19) X dX10_byteAt_17 rfl (by decide) ?_
    refine J_iret X R dX10_byteAt_19 ?_
    exact ⟨by first | (rw [bt, if_pos (by omega)]; done) | (rw [bt, if_neg (by omega)]; done), rfl⟩
  · refine J_aload_n (q := 9) X dX10_byteAt_8 rfl rfl ?_
    refine J_get (q := 12) X dX10_byteAt_9 fX10_13 hM (by omega) rfl rfl ?_
    refine J_iload_n (q := 13) X dX10_byteAt_12 rfl rfl ?_
    refine J_iald (q := 14) X dX10_byteAt_13 hTp (by omega) (by omega) (by decide) rfl ?_
    refine J_goto (q := 19) X dX10_byteAt_14 (by decide) ?_
    refine J_iret X R dX10_byteAt_19 ?_
    exact ⟨by first | (rw [bt, if_pos (by omega)]; done) | (rw [bt, if_neg (by omega)]; done), rfl⟩

set_option maxRecDepth 100000 in
set_option maxHeartbeats 4000000 in
theorem c_X10_fails {l : Launch} {Γ : JG} {ad : Nat → Nat} {E : Nat → va_E} {m0 m1 m2 m3 m4 m5 m6 m7 m8 m9 m10 m11 m12 m13 m14 : Int} {c : Int}  (hM : E 78 = .inr (9, [.ref (ad 79), .ref (ad 80), .int (jI m0), .int (jI m1), .int (jI m2), .int (jI m3), .int (jI m4), .int (jI m5), .int (jI m6), .int (jI m7), .int (jI m8), .int (jI m9), .int (jI m10), .int (jI m11), .ref (ad 81), .ref (ad 82), .ref (ad 83), .ref (ad 84), .ref (ad 85), .ref (ad 86), .ref (ad 87), .ref (ad 88), .ref (ad 89), .int (jI m12), .int (jI m13), .ref (ad 90), .ref (ad 91), .ref (ad 92), .ref (ad 93), .ref (ad 94), .int (jI m14)])) (hb2 : -100 ≤ m2 ∧ m2 ≤ 100) : JM l Γ yX10_fails cX10_fails 2 none 0 0 0 0 ad 95 E [.ref (ad 78), .int (jI c)] (pV (fun E' => E' 78 = .inr (9, [.ref (ad 79), .ref (ad 80), .int (jI m0), .int (jI m1), .int (jI (if m2 = 0 then c else m2)), .int (jI (if m2 = 0 then m5 else m3)), .int (jI m4), .int (jI m5), .int (jI m6), .int (jI m7), .int (jI m8), .int (jI m9), .int (jI m10), .int (jI m11), .ref (ad 81), .ref (ad 82), .ref (ad 83), .ref (ad 84), .ref (ad 85), .ref (ad 86), .ref (ad 87), .ref (ad 88), .ref (ad 89), .int (jI m12), .int (jI m13), .ref (ad 90), .ref (ad 91), .ref (ad 92), .ref (ad 93), .ref (ad 94), .int (jI m14)]) ∧ ∀ j : Nat, j ≠ 78 → E' j = E j)) := by
  refine JM_intro (own := RX10) [some (.ref (ad 78)), some (.int (jI c))] rfl rfl rfl (Nat.le_of_ble_eq_true rfl) ?_
  intro Ω X R hin
  obtain ⟨E0, hE0⟩ : ∃ E0 : Nat → va_E, E0 = E := ⟨_, rfl⟩
  have hF : ∀ j : Nat, j ≠ 78 → E j = E0 j := fun _ _ => by rw [hE0]
  refine J_aload_n (q := 1) X dX10_fails_0 rfl rfl ?_
  refine J_get (q := 4) X dX10_fails_1 fX10_69 hM (by omega) rfl rfl ?_
  refine J_if_ne (q := 7) (tgt := 20) X dX10_fails_4 (by decide) rfl (by omega) (fun cq4 => ?_) (fun cq4 => ?_)
  · refine J_vret X R dX10_fails_20 ?_
    rw [hE0] at hF
    first
      | (rw [if_pos (by omega), if_pos (by omega)]; exact ⟨rfl, hM, hF⟩)
      | (rw [if_neg (by omega), if_neg (by omega)]; exact ⟨rfl, hM, hF⟩)
  · refine J_aload_n (q := 8) X dX10_fails_7 rfl rfl ?_
    refine J_iload_n (q := 9) X dX10_fails_8 rfl rfl ?_
    refine J_put (q := 12) (ty := .int) X dX10_fails_9 fX10_69 rfl (by decide +kernel) rfl rfl hM (by omega) (Nat.le_of_ble_eq_true rfl) rfl (fun Ew9 hkq9 hsq9 => ?_)
    replace hM : Ew9 78 = .inr (9, [.ref (ad 79), .ref (ad 80), .int (jI _), .int (jI _), .int (jI _), .int (jI _), .int (jI _), .int (jI _), .int (jI _), .int (jI _), .int (jI _), .int (jI _), .int (jI _), .int (jI _), .ref (ad 81), .ref (ad 82), .ref (ad 83), .ref (ad 84), .ref (ad 85), .ref (ad 86), .ref (ad 87), .ref (ad 88), .ref (ad 89), .int (jI _), .int (jI _), .ref (ad 90), .ref (ad 91), .ref (ad 92), .ref (ad 93), .ref (ad 94), .int (jI _)]) := hkq9
    replace hF : ∀ j : Nat, j ≠ 78 → Ew9 j = E0 j := fun j hj => (hsq9 j (by omega)).trans (hF j hj)
    refine J_aload_n (q := 13) X dX10_fails_12 rfl rfl ?_
    refine J_aload_n (q := 14) X dX10_fails_13 rfl rfl ?_
    refine J_get (q := 17) X dX10_fails_14 fX10_72 hM (by omega) rfl rfl ?_
    refine J_put (q := 20) (ty := .int) X dX10_fails_17 fX10_75 rfl (by decide +kernel) rfl rfl hM (by omega) (Nat.le_of_ble_eq_true rfl) rfl (fun Ew17 hkq17 hsq17 => ?_)
    replace hM : Ew17 78 = .inr (9, [.ref (ad 79), .ref (ad 80), .int (jI _), .int (jI _), .int (jI _), .int (jI _), .int (jI _), .int (jI _), .int (jI _), .int (jI _), .int (jI _), .int (jI _), .int (jI _), .int (jI _), .ref (ad 81), .ref (ad 82), .ref (ad 83), .ref (ad 84), .ref (ad 85), .ref (ad 86), .ref (ad 87), .ref (ad 88), .ref (ad 89), .int (jI _), .int (jI _), .ref (ad 90), .ref (ad 91), .ref (ad 92), .ref (ad 93), .ref (ad 94), .int (jI _)]) := hkq17
    replace hF : ∀ j : Nat, j ≠ 78 → Ew17 j = E0 j := fun j hj => (hsq17 j (by omega)).trans (hF j hj)
    refine J_vret X R dX10_fails_20 ?_
    rw [hE0] at hF
    first
      | (rw [if_pos (by omega), if_pos (by omega)]; exact ⟨rfl, hM, hF⟩)
      | (rw [if_neg (by omega), if_neg (by omega)]; exact ⟨rfl, hM, hF⟩)

set_option maxRecDepth 100000 in
set_option maxHeartbeats 4000000 in
theorem c_X10_quoteRead {l : Launch} {Γ : JG} {ad : Nat → Nat} {E : Nat → va_E} {m0 m1 m3 m6 m7 m8 m9 m10 m11 m12 m13 m14 : Int} {tb : Int → Int} {a : Int} (hM : E 78 = .inr (9, [.ref (ad 79), .ref (ad 80), .int (jI m0), .int (jI m1), .int (jI 0), .int (jI m3), .int (jI a), .int (jI a), .int (jI m6), .int (jI m7), .int (jI m8), .int (jI m9), .int (jI m10), .int (jI m11), .ref (ad 81), .ref (ad 82), .ref (ad 83), .ref (ad 84), .ref (ad 85), .ref (ad 86), .ref (ad 87), .ref (ad 88), .ref (ad 89), .int (jI m12), .int (jI m13), .ref (ad 90), .ref (ad 91), .ref (ad 92), .ref (ad 93), .ref (ad 94), .int (jI m14)])) (hTp : E 80 = aI Γ 160 tb) (htb : TB m0 tb) (ha : 0 ≤ a ∧ a < m0) : JM l Γ yX10_quoteRead cX10_quoteRead 1 none 2 45 0 0 ad 95 E [.ref (ad 78)] (pV (fun E' => ∃ b ba t h y : Int, E' 78 = .inr (9, [.ref (ad 79), .ref (ad 80), .int (jI m0), .int (jI m1), .int (jI b), .int (jI ba), .int (jI t), .int (jI h), .int (jI 4), .int (jI m7), .int (jI m8), .int (jI m9), .int (jI y), .int (jI a), .ref (ad 81), .ref (ad 82), .ref (ad 83), .ref (ad 84), .ref (ad 85), .ref (ad 86), .ref (ad 87), .ref (ad 88), .ref (ad 89), .int (jI m12), .int (jI m13), .ref (ad 90), .ref (ad 91), .ref (ad 92), .ref (ad 93), .ref (ad 94), .int (jI m14)]) ∧ (0 ≤ t ∧ t ≤ 400 ∧ 0 ≤ h ∧ h ≤ 400) ∧ (okQ tb m0 a → b = 0 ∧ t = tkQ tb m0 a + 1 ∧ h = a ∧ y = m10) ∧ (¬ okQ tb m0 a → b = (if tkQ tb m0 a < m0 then 1 else 2) ∧ ba = tkQ tb m0 a ∧ y = tkQ tb m0 a - a - 1) ∧ ∀ j : Nat, j ≠ 78 → E' j = E j)) := by
  refine JM_intro (own := RX10) [some (.ref (ad 78))] rfl rfl rfl (Nat.le_of_ble_eq_true rfl) ?_
  intro Ω X R hin
  obtain ⟨E0, hE0⟩ : ∃ E0 : Nat → va_E, E0 = E := ⟨_, rfl⟩
  have hF : ∀ j : Nat, j ≠ 78 → E j = E0 j := fun _ _ => by rw [hE0]
  obtain ⟨htl, htv⟩ := id htb
  refine J_aload_n (q := 1) X dX10_quoteRead_0 rfl rfl ?_
  refine J_iconst (q := 2) X dX10_quoteRead_1 rfl ?_
  refine J_put (q := 5) (ty := .int) X dX10_quoteRead_2 fX10_86 rfl (by decide +kernel) rfl rfl hM (by omega) (Nat.le_of_ble_eq_true rfl) rfl (fun Ew2 hkq2 hsq2 => ?_)
  replace hM : Ew2 78 = .inr (9, [.ref (ad 79), .ref (ad 80), .int (jI _), .int (jI _), .int (jI _), .int (jI _), .int (jI _), .int (jI _), .int (jI _), .int (jI _), .int (jI _), .int (jI _), .int (jI _), .int (jI _), .ref (ad 81), .ref (ad 82), .ref (ad 83), .ref (ad 84), .ref (ad 85), .ref (ad 86), .ref (ad 87), .ref (ad 88), .ref (ad 89), .int (jI _), .int (jI _), .ref (ad 90), .ref (ad 91), .ref (ad 92), .ref (ad 93), .ref (ad 94), .int (jI _)]) := hkq2
  replace hTp := (hsq2 80 (by omega)).trans hTp
  replace hF : ∀ j : Nat, j ≠ 78 → Ew2 j = E0 j := fun j hj => (hsq2 j (by omega)).trans (hF j hj)
  refine J_aload_n (q := 6) X dX10_quoteRead_5 rfl rfl ?_
  refine J_aload_n (q := 7) X dX10_quoteRead_6 rfl rfl ?_
  refine J_get (q := 10) X dX10_quoteRead_7 fX10_72 hM (by omega) rfl rfl ?_
  refine J_put (q := 13) (ty := .int) X dX10_quoteRead_10 fX10_95 rfl (by decide +kernel) rfl rfl hM (by omega) (Nat.le_of_ble_eq_true rfl) rfl (fun Ew10 hkq10 hsq10 => ?_)
  replace hM : Ew10 78 = .inr (9, [.ref (ad 79), .ref (ad 80), .int (jI _), .int (jI _), .int (jI _), .int (jI _), .int (jI _), .int (jI _), .int (jI _), .int (jI _), .int (jI _), .int (jI _), .int (jI _), .int (jI _), .ref (ad 81), .ref (ad 82), .ref (ad 83), .ref (ad 84), .ref (ad 85), .ref (ad 86), .ref (ad 87), .ref (ad 88), .ref (ad 89), .int (jI _), .int (jI _), .ref (ad 90), .ref (ad 91), .ref (ad 92), .ref (ad 93), .ref (ad 94), .int (jI _)]) := hkq10
  replace hTp := (hsq10 80 (by omega)).trans hTp
  replace hF : ∀ j : Nat, j ≠ 78 → Ew10 j = E0 j := fun j hj => (hsq10 j (by omega)).trans (hF j hj)
  refine J_aload_n (q := 14) X dX10_quoteRead_13 rfl rfl ?_
  refine J_dup (q := 15) X dX10_quoteRead_14 rfl rfl ?_
  refine J_get (q := 18) X dX10_quoteRead_15 fX10_89 hM (by omega) rfl rfl ?_
  refine J_iconst (q := 19) X dX10_quoteRead_18 rfl ?_
  refine J_iadd (q := 20) X dX10_quoteRead_19 rfl ?_
  refine J_put (q := 23) (ty := .int) X dX10_quoteRead_20 fX10_89 rfl (by decide +kernel) rfl rfl hM (by omega) (Nat.le_of_ble_eq_true rfl) rfl (fun Ew20 hkq20 hsq20 => ?_)
  replace hM : Ew20 78 = .inr (9, [.ref (ad 79), .ref (ad 80), .int (jI _), .int (jI _), .int (jI _), .int (jI _), .int (jI _), .int (jI _), .int (jI _), .int (jI _), .int (jI _), .int (jI _), .int (jI _), .int (jI _), .ref (ad 81), .ref (ad 82), .ref (ad 83), .ref (ad 84), .ref (ad 85), .ref (ad 86), .ref (ad 87), .ref (ad 88), .ref (ad 89), .int (jI _), .int (jI _), .ref (ad 90), .ref (ad 91), .ref (ad 92), .ref (ad 93), .ref (ad 94), .int (jI _)]) := hkq20
  replace hTp := (hsq20 80 (by omega)).trans hTp
  replace hF : ∀ j : Nat, j ≠ 78 → Ew20 j = E0 j := fun j hj => (hsq20 j (by omega)).trans (hF j hj)
  have lp23 : ∀ (mm : Nat) (t b ba h y : Int) (E : Nat → va_E) (ht : a + 1 ≤ t ∧ t ≤ m0 + 1) (hst : (b = 0 ∧ h = a ∧ y = m10 ∧ t ≤ m0 ∧ sc (fun j => sgn (tb j)) m0 t = tkQ tb m0 a) ∨ (b ≠ 0 ∧ (0 ≤ h ∧ h ≤ m0) ∧ ¬ okQ tb m0 a ∧ b = (if tkQ tb m0 a < m0 then 1 else 2) ∧ ba = tkQ tb m0 a ∧ y = tkQ tb m0 a - a - 1)) (hM : E 78 = .inr (9, [.ref (ad 79), .ref (ad 80), .int (jI m0), .int (jI m1), .int (jI b), .int (jI ba), .int (jI t), .int (jI h), .int (jI 4), .int (jI m7), .int (jI m8), .int (jI m9), .int (jI y), .int (jI a), .ref (ad 81), .ref (ad 82), .ref (ad 83), .ref (ad 84), .ref (ad 85), .ref (ad 86), .ref (ad 87), .ref (ad 88), .ref (ad 89), .int (jI m12), .int (jI m13), .ref (ad 90), .ref (ad 91), .ref (ad 92), .ref (ad 93), .ref (ad 94), .int (jI m14)])) (hTp : E 80 = aI Γ 160 tb) (hF : ∀ j : Nat, j ≠ 78 → E j = E0 j) (hmm : m0 + 2 - t ≤ (mm : Int)), J l Γ Ω 1 ad 95 0 0 E 23 [some (.ref (ad 78))] [] := by
    intro mm
    induction mm with
    | zero => intro t b ba h y E ht hst hM hTp hF hmm; exfalso; omega
    | succ mm ih23 =>
      intro t b ba h y E ht hst hM hTp hF hmm
      have hbt := bt_in htb (k := t) (by omega)
      have hbb : 0 ≤ b ∧ b ≤ 2 := by
        rcases hst with z | z
        · omega
        · rw [z.2.2.2.1]; split <;> omega
      have hhb : 0 ≤ h ∧ h ≤ m0 := by
        rcases hst with z | z
        · omega
        · exact z.2.1
      refine J_aload_n (q := 24) X dX10_quoteRead_23 rfl rfl ?_
      refine J_get (q := 27) X dX10_quoteRead_24 fX10_69 hM (by omega) rfl rfl ?_
      refine J_if_ne (q := 30) (tgt := 115) X dX10_quoteRead_27 (by decide) rfl (by omega) (fun cq27 => ?_) (fun cq27 => ?_)
      · refine J_aload_n (q := 116) X dX10_quoteRead_115 rfl rfl ?_
        refine J_dup (q := 117) X dX10_quoteRead_116 rfl rfl ?_
        refine J_get (q := 120) X dX10_quoteRead_117 fX10_89 hM (by omega) rfl rfl ?_
        refine J_iconst (q := 121) X dX10_quoteRead_120 rfl ?_
        refine J_iadd (q := 122) X dX10_quoteRead_121 rfl ?_
        refine J_put (q := 125) (ty := .int) X dX10_quoteRead_122 fX10_89 rfl (by decide +kernel) rfl rfl hM (by omega) (Nat.le_of_ble_eq_true rfl) rfl (fun Ew122 hkq122 hsq122 => ?_)
        replace hM : Ew122 78 = .inr (9, [.ref (ad 79), .ref (ad 80), .int (jI _), .int (jI _), .int (jI _), .int (jI _), .int (jI _), .int (jI _), .int (jI _), .int (jI _), .int (jI _), .int (jI _), .int (jI _), .int (jI _), .ref (ad 81), .ref (ad 82), .ref (ad 83), .ref (ad 84), .ref (ad 85), .ref (ad 86), .ref (ad 87), .ref (ad 88), .ref (ad 89), .int (jI _), .int (jI _), .ref (ad 90), .ref (ad 91), .ref (ad 92), .ref (ad 93), .ref (ad 94), .int (jI _)]) := hkq122
        replace hTp := (hsq122 80 (by omega)).trans hTp
        replace hF : ∀ j : Nat, j ≠ 78 → Ew122 j = E0 j := fun j hj => (hsq122 j (by omega)).trans (hF j hj)
        refine J_vret X R dX10_quoteRead_125 ?_
        rw [hE0] at hF
        refine ⟨rfl, _, _, _, _, _, hM, by omega, fun hok => ?_, fun hno => ?_, hF⟩
        · rcases hst with z | z
          · have hbe : bt tb m0 t = 34 := by first | (exfalso; omega) | assumption
            have ht2 : t < m0 ∧ tb t = 34 := by rcases hbt with q | q <;> omega
            rw [sc_stop (P := (fun j => sgn (tb j))) (fun q => by have q2 := q.2; omega)] at z
            exact ⟨z.1, by omega, z.2.1, z.2.2.1⟩
          · exact absurd hok z.2.2.1
        · rcases hst with z | z
          · exfalso
            have hbe : bt tb m0 t = 34 := by first | (exfalso; omega) | assumption
            have ht2 : t < m0 ∧ tb t = 34 := by rcases hbt with q | q <;> omega
            rw [sc_stop (P := (fun j => sgn (tb j))) (fun q => by have q2 := q.2; omega)] at z
            exact hno ⟨by omega, by rw [← z.2.2.2.2]; exact ht2.2⟩
          · exact z.2.2.2
      · refine J_aload_n (q := 31) X dX10_quoteRead_30 rfl rfl ?_
        refine J_aload_n (q := 32) X dX10_quoteRead_31 rfl rfl ?_
        refine J_get (q := 35) X dX10_quoteRead_32 fX10_89 hM (by omega) rfl rfl ?_
        refine J_callP (q := 38) (jrV X mX10_92 dX10_quoteRead_35 (c_X10_byteAt hM hTp htb (by omega)) hM (by omega) rfl rfl rfl rfl (Nat.le_of_ble_eq_true rfl) (by decide)) rfl ?_
        refine J_bipush (q := 40) X dX10_quoteRead_38 rfl (by decide) ?_
        refine J_icmp_eq (q := 43) (tgt := 115) X dX10_quoteRead_40 (by decide) rfl (by omega) (by omega) (fun cq40 => ?_) (fun cq40 => ?_)
        · refine J_aload_n (q := 116) X dX10_quoteRead_115 rfl rfl ?_
          refine J_dup (q := 117) X dX10_quoteRead_116 rfl rfl ?_
          refine J_get (q := 120) X dX10_quoteRead_117 fX10_89 hM (by omega) rfl rfl ?_
          refine J_iconst (q := 121) X dX10_quoteRead_120 rfl ?_
          refine J_iadd (q := 122) X dX10_quoteRead_121 rfl ?_
          refine J_put (q := 125) (ty := .int) X dX10_quoteRead_122 fX10_89 rfl (by decide +kernel) rfl rfl hM (by omega) (Nat.le_of_ble_eq_true rfl) rfl (fun Ew122 hkq122 hsq122 => ?_)
          replace hM : Ew122 78 = .inr (9, [.ref (ad 79), .ref (ad 80), .int (jI _), .int (jI _), .int (jI _), .int (jI _), .int (jI _), .int (jI _), .int (jI _), .int (jI _), .int (jI _), .int (jI _), .int (jI _), .int (jI _), .ref (ad 81), .ref (ad 82), .ref (ad 83), .ref (ad 84), .ref (ad 85), .ref (ad 86), .ref (ad 87), .ref (ad 88), .ref (ad 89), .int (jI _), .int (jI _), .ref (ad 90), .ref (ad 91), .ref (ad 92), .ref (ad 93), .ref (ad 94), .int (jI _)]) := hkq122
          replace hTp := (hsq122 80 (by omega)).trans hTp
          replace hF : ∀ j : Nat, j ≠ 78 → Ew122 j = E0 j := fun j hj => (hsq122 j (by omega)).trans (hF j hj)
          refine J_vret X R dX10_quoteRead_125 ?_
          rw [hE0] at hF
          refine ⟨rfl, _, _, _, _, _, hM, by omega, fun hok => ?_, fun hno => ?_, hF⟩
          · rcases hst with z | z
            · have hbe : bt tb m0 t = 34 := by first | (exfalso; omega) | assumption
              have ht2 : t < m0 ∧ tb t = 34 := by rcases hbt with q | q <;> omega
              rw [sc_stop (P := (fun j => sgn (tb j))) (fun q => by have q2 := q.2; omega)] at z
              exact ⟨z.1, by omega, z.2.1, z.2.2.1⟩
            · exact absurd hok z.2.2.1
          · rcases hst with z | z
            · exfalso
              have hbe : bt tb m0 t = 34 := by first | (exfalso; omega) | assumption
              have ht2 : t < m0 ∧ tb t = 34 := by rcases hbt with q | q <;> omega
              rw [sc_stop (P := (fun j => sgn (tb j))) (fun q => by have q2 := q.2; omega)] at z
              exact hno ⟨by omega, by rw [← z.2.2.2.2]; exact ht2.2⟩
            · exact z.2.2.2
        · refine J_aload_n (q := 44) X dX10_quoteRead_43 rfl rfl ?_
          refine J_aload_n (q := 45) X dX10_quoteRead_44 rfl rfl ?_
          refine J_get (q := 48) X dX10_quoteRead_45 fX10_89 hM (by omega) rfl rfl ?_
          refine J_callP (q := 51) (jrV X mX10_92 dX10_quoteRead_48 (c_X10_byteAt hM hTp htb (by omega)) hM (by omega) rfl rfl rfl rfl (Nat.le_of_ble_eq_true rfl) (by decide)) rfl ?_
          refine J_callP (q := 54) (jrS X mX10_98 dX10_quoteRead_51 (c_X10_isSign (by omega)) rfl rfl (Nat.le_of_ble_eq_true rfl) (by decide)) rfl ?_
          refine J_if_neB (q := 57) (tgt := 102) X dX10_quoteRead_54 (by decide) rfl (fun cq54 => ?_) (fun cq54 => ?_)
          · refine J_aload_n (q := 103) X dX10_quoteRead_102 rfl rfl ?_
            refine J_dup (q := 104) X dX10_quoteRead_103 rfl rfl ?_
            refine J_get (q := 107) X dX10_quoteRead_104 fX10_89 hM (by omega) rfl rfl ?_
            refine J_iconst (q := 108) X dX10_quoteRead_107 rfl ?_
            refine J_iadd (q := 109) X dX10_quoteRead_108 rfl ?_
            refine J_put (q := 112) (ty := .int) X dX10_quoteRead_109 fX10_89 rfl (by decide +kernel) rfl rfl hM (by omega) (Nat.le_of_ble_eq_true rfl) rfl (fun Ew109 hkq109 hsq109 => ?_)
            replace hM : Ew109 78 = .inr (9, [.ref (ad 79), .ref (ad 80), .int (jI _), .int (jI _), .int (jI _), .int (jI _), .int (jI _), .int (jI _), .int (jI _), .int (jI _), .int (jI _), .int (jI _), .int (jI _), .int (jI _), .ref (ad 81), .ref (ad 82), .ref (ad 83), .ref (ad 84), .ref (ad 85), .ref (ad 86), .ref (ad 87), .ref (ad 88), .ref (ad 89), .int (jI _), .int (jI _), .ref (ad 90), .ref (ad 91), .ref (ad 92), .ref (ad 93), .ref (ad 94), .int (jI _)]) := hkq109
            replace hTp := (hsq109 80 (by omega)).trans hTp
            replace hF : ∀ j : Nat, j ≠ 78 → Ew109 j = E0 j := fun j hj => (hsq109 j (by omega)).trans (hF j hj)
            refine J_goto (q := 23) X dX10_quoteRead_112 (by decide) ?_
            have h0 : b = 0 ∧ h = a ∧ y = m10 ∧ t ≤ m0 ∧ sc (fun j => sgn (tb j)) m0 t = tkQ tb m0 a := by
              rcases hst with z | z
              · exact z
              · exact absurd cq27 z.1
            first
              | (have hlt : t < m0 := by omega
                 have hsg : sgn (tb t) := by
                   rcases hbt with z | z
                   · rw [z.2.1] at cq54; exact cq54
                   · rw [z.2] at cq54; omega
                 exact ih23 _ _ _ _ _ _ (by omega) (Or.inl ⟨h0.1, h0.2.1, h0.2.2.1, by omega, by rw [sc_go (P := (fun j => sgn (tb j))) hlt hsg]; exact h0.2.2.2.2⟩) hM hTp hF (by omega))
              | (have hst2 : sc (fun j => sgn (tb j)) m0 t = t := sc_stop (P := (fun j => sgn (tb j))) (fun z => by
                   rcases hbt with y | y
                   · apply cq54; rw [y.2.1]; exact z.2
                   · omega)
                 have hqt : tkQ tb m0 a = t := by rw [← h0.2.2.2.2]; exact hst2
                 rw [if_pos h0.1, if_pos h0.1] at hM
                 refine ih23 _ _ _ _ _ _ (by omega) (Or.inr ⟨by omega, by omega, ?_, ?_, hqt.symm, by rw [hqt]⟩) hM hTp hF (by omega)
                 · intro z
                   rcases hbt with y | y
                   · have z2 := z.2; rw [hqt] at z2; omega
                   · have z1 := z.1; rw [hqt] at z1; omega
                 · rw [hqt]
                   rcases hbt with y | y
                   · first | (exfalso; omega) | (rw [if_pos y.1]; done)
                   · first | (exfalso; omega) | (rw [if_neg (by omega)]; done))
          · refine J_aload_n (q := 58) X dX10_quoteRead_57 rfl rfl ?_
            refine J_aload_n (q := 59) X dX10_quoteRead_58 rfl rfl ?_
            refine J_get (q := 62) X dX10_quoteRead_59 fX10_89 hM (by omega) rfl rfl ?_
            refine J_aload_n (q := 63) X dX10_quoteRead_62 rfl rfl ?_
            refine J_get (q := 66) X dX10_quoteRead_63 fX10_95 hM (by omega) rfl rfl ?_
            refine J_isub (q := 67) X dX10_quoteRead_66 rfl ?_
            refine J_iconst (q := 68) X dX10_quoteRead_67 rfl ?_
            refine J_isub (q := 69) X dX10_quoteRead_68 rfl ?_
            refine J_put (q := 72) (ty := .int) X dX10_quoteRead_69 fX10_102 rfl (by decide +kernel) rfl rfl hM (by omega) (Nat.le_of_ble_eq_true rfl) rfl (fun Ew69 hkq69 hsq69 => ?_)
            replace hM : Ew69 78 = .inr (9, [.ref (ad 79), .ref (ad 80), .int (jI _), .int (jI _), .int (jI _), .int (jI _), .int (jI _), .int (jI _), .int (jI _), .int (jI _), .int (jI _), .int (jI _), .int (jI _), .int (jI _), .ref (ad 81), .ref (ad 82), .ref (ad 83), .ref (ad 84), .ref (ad 85), .ref (ad 86), .ref (ad 87), .ref (ad 88), .ref (ad 89), .int (jI _), .int (jI _), .ref (ad 90), .ref (ad 91), .ref (ad 92), .ref (ad 93), .ref (ad 94), .int (jI _)]) := hkq69
            replace hTp := (hsq69 80 (by omega)).trans hTp
            replace hF : ∀ j : Nat, j ≠ 78 → Ew69 j = E0 j := fun j hj => (hsq69 j (by omega)).trans (hF j hj)
            refine J_aload_n (q := 73) X dX10_quoteRead_72 rfl rfl ?_
            refine J_aload_n (q := 74) X dX10_quoteRead_73 rfl rfl ?_
            refine J_get (q := 77) X dX10_quoteRead_74 fX10_89 hM (by omega) rfl rfl ?_
            refine J_put (q := 80) (ty := .int) X dX10_quoteRead_77 fX10_72 rfl (by decide +kernel) rfl rfl hM (by omega) (Nat.le_of_ble_eq_true rfl) rfl (fun Ew77 hkq77 hsq77 => ?_)
            replace hM : Ew77 78 = .inr (9, [.ref (ad 79), .ref (ad 80), .int (jI _), .int (jI _), .int (jI _), .int (jI _), .int (jI _), .int (jI _), .int (jI _), .int (jI _), .int (jI _), .int (jI _), .int (jI _), .int (jI _), .ref (ad 81), .ref (ad 82), .ref (ad 83), .ref (ad 84), .ref (ad 85), .ref (ad 86), .ref (ad 87), .ref (ad 88), .ref (ad 89), .int (jI _), .int (jI _), .ref (ad 90), .ref (ad 91), .ref (ad 92), .ref (ad 93), .ref (ad 94), .int (jI _)]) := hkq77
            replace hTp := (hsq77 80 (by omega)).trans hTp
            replace hF : ∀ j : Nat, j ≠ 78 → Ew77 j = E0 j := fun j hj => (hsq77 j (by omega)).trans (hF j hj)
            refine J_aload_n (q := 81) X dX10_quoteRead_80 rfl rfl ?_
            refine J_aload_n (q := 82) X dX10_quoteRead_81 rfl rfl ?_
            refine J_aload_n (q := 83) X dX10_quoteRead_82 rfl rfl ?_
            refine J_get (q := 86) X dX10_quoteRead_83 fX10_89 hM (by omega) rfl rfl ?_
            refine J_callP (q := 89) (jrV X mX10_92 dX10_quoteRead_86 (c_X10_byteAt hM hTp htb (by omega)) hM (by omega) rfl rfl rfl rfl (Nat.le_of_ble_eq_true rfl) (by decide)) rfl ?_
            refine J_bipush (q := 91) X dX10_quoteRead_89 rfl (by decide) ?_
            refine J_icmp_ne (q := 94) (tgt := 98) X dX10_quoteRead_91 (by decide) rfl (by omega) (by omega) (fun cq91 => ?_) (fun cq91 => ?_)
            · refine J_iconst (q := 99) X dX10_quoteRead_98 rfl ?_
              refine J_callV (q := 102) (jrV X mX10_105 dX10_quoteRead_99 (c_X10_fails hM (by omega)) hM (by omega) rfl rfl rfl rfl (Nat.le_of_ble_eq_true rfl) (by decide)) rfl (fun Ew99 hpq99 => ?_)
              obtain ⟨kM, hsq99⟩ := hpq99
              replace hM := kM
              replace hTp := (hsq99 80 (by omega)).trans hTp
              replace hF : ∀ j : Nat, j ≠ 78 → Ew99 j = E0 j := fun j hj => (hsq99 j (by omega)).trans (hF j hj)
              refine J_aload_n (q := 103) X dX10_quoteRead_102 rfl rfl ?_
              refine J_dup (q := 104) X dX10_quoteRead_103 rfl rfl ?_
              refine J_get (q := 107) X dX10_quoteRead_104 fX10_89 hM (by omega) rfl rfl ?_
              refine J_iconst (q := 108) X dX10_quoteRead_107 rfl ?_
              refine J_iadd (q := 109) X dX10_quoteRead_108 rfl ?_
              refine J_put (q := 112) (ty := .int) X dX10_quoteRead_109 fX10_89 rfl (by decide +kernel) rfl rfl hM (by omega) (Nat.le_of_ble_eq_true rfl) rfl (fun Ew109 hkq109 hsq109 => ?_)
              replace hM : Ew109 78 = .inr (9, [.ref (ad 79), .ref (ad 80), .int (jI _), .int (jI _), .int (jI _), .int (jI _), .int (jI _), .int (jI _), .int (jI _), .int (jI _), .int (jI _), .int (jI _), .int (jI _), .int (jI _), .ref (ad 81), .ref (ad 82), .ref (ad 83), .ref (ad 84), .ref (ad 85), .ref (ad 86), .ref (ad 87), .ref (ad 88), .ref (ad 89), .int (jI _), .int (jI _), .ref (ad 90), .ref (ad 91), .ref (ad 92), .ref (ad 93), .ref (ad 94), .int (jI _)]) := hkq109
              replace hTp := (hsq109 80 (by omega)).trans hTp
              replace hF : ∀ j : Nat, j ≠ 78 → Ew109 j = E0 j := fun j hj => (hsq109 j (by omega)).trans (hF j hj)
              refine J_goto (q := 23) X dX10_quoteRead_112 (by decide) ?_
              have h0 : b = 0 ∧ h = a ∧ y = m10 ∧ t ≤ m0 ∧ sc (fun j => sgn (tb j)) m0 t = tkQ tb m0 a := by
                rcases hst with z | z
                · exact z
                · exact absurd cq27 z.1
              first
                | (have hlt : t < m0 := by omega
                   have hsg : sgn (tb t) := by
                     rcases hbt with z | z
                     · rw [z.2.1] at cq54; exact cq54
                     · rw [z.2] at cq54; omega
                   exact ih23 _ _ _ _ _ _ (by omega) (Or.inl ⟨h0.1, h0.2.1, h0.2.2.1, by omega, by rw [sc_go (P := (fun j => sgn (tb j))) hlt hsg]; exact h0.2.2.2.2⟩) hM hTp hF (by omega))
                | (have hst2 : sc (fun j => sgn (tb j)) m0 t = t := sc_stop (P := (fun j => sgn (tb j))) (fun z => by
                     rcases hbt with y | y
                     · apply cq54; rw [y.2.1]; exact z.2
                     · omega)
                   have hqt : tkQ tb m0 a = t := by rw [← h0.2.2.2.2]; exact hst2
                   rw [if_pos h0.1, if_pos h0.1] at hM
                   refine ih23 _ _ _ _ _ _ (by omega) (Or.inr ⟨by omega, by omega, ?_, ?_, hqt.symm, by rw [hqt]⟩) hM hTp hF (by omega)
                   · intro z
                     rcases hbt with y | y
                     · have z2 := z.2; rw [hqt] at z2; omega
                     · have z1 := z.1; rw [hqt] at z1; omega
                   · rw [hqt]
                     rcases hbt with y | y
                     · first | (exfalso; omega) | (rw [if_pos y.1]; done)
                     · first | (exfalso; omega) | (rw [if_neg (by omega)]; done))
            · refine J_iconst (q := 95) X dX10_quoteRead_94 rfl ?_
              refine J_goto (q := 99) X dX10_quoteRead_95 (by decide) ?_
              refine J_callV (q := 102) (jrV X mX10_105 dX10_quoteRead_99 (c_X10_fails hM (by omega)) hM (by omega) rfl rfl rfl rfl (Nat.le_of_ble_eq_true rfl) (by decide)) rfl (fun Ew99 hpq99 => ?_)
              obtain ⟨kM, hsq99⟩ := hpq99
              replace hM := kM
              replace hTp := (hsq99 80 (by omega)).trans hTp
              replace hF : ∀ j : Nat, j ≠ 78 → Ew99 j = E0 j := fun j hj => (hsq99 j (by omega)).trans (hF j hj)
              refine J_aload_n (q := 103) X dX10_quoteRead_102 rfl rfl ?_
              refine J_dup (q := 104) X dX10_quoteRead_103 rfl rfl ?_
              refine J_get (q := 107) X dX10_quoteRead_104 fX10_89 hM (by omega) rfl rfl ?_
              refine J_iconst (q := 108) X dX10_quoteRead_107 rfl ?_
              refine J_iadd (q := 109) X dX10_quoteRead_108 rfl ?_
              refine J_put (q := 112) (ty := .int) X dX10_quoteRead_109 fX10_89 rfl (by decide +kernel) rfl rfl hM (by omega) (Nat.le_of_ble_eq_true rfl) rfl (fun Ew109 hkq109 hsq109 => ?_)
              replace hM : Ew109 78 = .inr (9, [.ref (ad 79), .ref (ad 80), .int (jI _), .int (jI _), .int (jI _), .int (jI _), .int (jI _), .int (jI _), .int (jI _), .int (jI _), .int (jI _), .int (jI _), .int (jI _), .int (jI _), .ref (ad 81), .ref (ad 82), .ref (ad 83), .ref (ad 84), .ref (ad 85), .ref (ad 86), .ref (ad 87), .ref (ad 88), .ref (ad 89), .int (jI _), .int (jI _), .ref (ad 90), .ref (ad 91), .ref (ad 92), .ref (ad 93), .ref (ad 94), .int (jI _)]) := hkq109
              replace hTp := (hsq109 80 (by omega)).trans hTp
              replace hF : ∀ j : Nat, j ≠ 78 → Ew109 j = E0 j := fun j hj => (hsq109 j (by omega)).trans (hF j hj)
              refine J_goto (q := 23) X dX10_quoteRead_112 (by decide) ?_
              have h0 : b = 0 ∧ h = a ∧ y = m10 ∧ t ≤ m0 ∧ sc (fun j => sgn (tb j)) m0 t = tkQ tb m0 a := by
                rcases hst with z | z
                · exact z
                · exact absurd cq27 z.1
              first
                | (have hlt : t < m0 := by omega
                   have hsg : sgn (tb t) := by
                     rcases hbt with z | z
                     · rw [z.2.1] at cq54; exact cq54
                     · rw [z.2] at cq54; omega
                   exact ih23 _ _ _ _ _ _ (by omega) (Or.inl ⟨h0.1, h0.2.1, h0.2.2.1, by omega, by rw [sc_go (P := (fun j => sgn (tb j))) hlt hsg]; exact h0.2.2.2.2⟩) hM hTp hF (by omega))
                | (have hst2 : sc (fun j => sgn (tb j)) m0 t = t := sc_stop (P := (fun j => sgn (tb j))) (fun z => by
                     rcases hbt with y | y
                     · apply cq54; rw [y.2.1]; exact z.2
                     · omega)
                   have hqt : tkQ tb m0 a = t := by rw [← h0.2.2.2.2]; exact hst2
                   rw [if_pos h0.1, if_pos h0.1] at hM
                   refine ih23 _ _ _ _ _ _ (by omega) (Or.inr ⟨by omega, by omega, ?_, ?_, hqt.symm, by rw [hqt]⟩) hM hTp hF (by omega)
                   · intro z
                     rcases hbt with y | y
                     · have z2 := z.2; rw [hqt] at z2; omega
                     · have z1 := z.1; rw [hqt] at z1; omega
                   · rw [hqt]
                     rcases hbt with y | y
                     · first | (exfalso; omega) | (rw [if_pos y.1]; done)
                     · first | (exfalso; omega) | (rw [if_neg (by omega)]; done))
  refine lp23 1000 _ _ _ _ _ _ (by omega) (Or.inl ⟨rfl, rfl, rfl, by omega, rfl⟩) hM hTp hF (by omega)
