set_option maxRecDepth 100000 in
set_option maxHeartbeats 4000000 in
theorem c_X2_present {l : Launch} {Γ : JG} {ad : Nat → Nat} {E : Nat → va_E} {o p a : Int} (hHs : E 19 = .inr (2, [.ref (ad 20), .int (jI o), .int (jI p), .int (jI a)])) (hSt : E 20 = aR Γ 2 21 (fun i => some (ad (21 + 2 * i)))) (ho : 0 ≤ o ∧ o ≤ 21 ∧ 0 ≤ p ∧ p ≤ 21) : JM l Γ yX2_present cX2_present 1 (some (.object "FoldKeeper$Row")) 0 0 0 0 ad 95 E [.ref (ad 19)] (pR (ad (21 + 2 * ((o + p) % 21).toNat)) (fun E' => E' = E)) := by
  refine JM_intro (own := RX2) [some (.ref (ad 19))] rfl rfl rfl (Nat.le_of_ble_eq_true rfl) ?_
  intro Ω X R hin
  refine J_aload_n (q := 1) X dX2_present_0 rfl rfl ?_
  refine J_get (q := 4) X dX2_present_1 fX2_13 hHs (by omega) rfl rfl ?_
  refine J_aload_n (q := 5) X dX2_present_4 rfl rfl ?_
  refine J_get (q := 8) X dX2_present_5 fX2_25 hHs (by omega) rfl rfl ?_
  refine J_aload_n (q := 9) X dX2_present_8 rfl rfl ?_
  refine J_get (q := 12) X dX2_present_9 fX2_22 hHs (by omega) rfl rfl ?_
  refine J_iadd (q := 13) X dX2_present_12 rfl ?_
  refine J_bipush (q := 15) X dX2_present_13 rfl (by decide) ?_
  refine J_irem (q := 16) X dX2_present_15 rfl (by omega) (by omega) ?_
  refine J_aald (q := 17) X dX2_present_16 (by decide) hSt (by omega) (by omega) (by decide) rfl rfl ?_
  refine J_aret X R dX2_present_17 ?_
  exact ⟨rfl, rfl⟩

set_option maxRecDepth 100000 in
set_option maxHeartbeats 4000000 in
theorem c_X2_add {l : Launch} {Γ : JG} {ad : Nat → Nat} {E : Nat → va_E} {o p a n : Int} {f : Int → Int} {hn : Nat → Int} {hf : Nat → Int → Int} (hHs : E 19 = .inr (2, [.ref (ad 20), .int (jI o), .int (jI p), .int (jI a)])) (hSt : E 20 = aR Γ 2 21 (fun i => some (ad (21 + 2 * i)))) (hHR : ∀ i : Nat, i < 21 → E (21 + 2 * i) = .inr (3, [.ref (ad (22 + 2 * i)), .int (jI (hn i))])) (hHC : ∀ i : Nat, i < 21 → E (22 + 2 * i) = aI Γ 60 (hf i)) (hR : E 10 = .inr (3, [.ref (ad 11), .int (jI n)])) (hC : E 11 = aI Γ 60 f) (ho : 0 ≤ o ∧ o < 21 ∧ 0 ≤ p ∧ p ≤ 20) (hnb : 0 ≤ n ∧ n ≤ 60) : JM l Γ yX2_add cX2_add 2 none 2 69 0 0 ad 95 E [.ref (ad 19), .ref (ad 10)] (pV (fun E' => ∃ (o' p' : Int) (ix : Nat), ((p < 20 ∧ o' = o ∧ p' = p + 1) ∨ (p = 20 ∧ o' = (o + 1) % 21 ∧ p' = p)) ∧ ix = ((o' + p') % 21).toNat ∧ ix < 21 ∧ E' 19 = .inr (2, [.ref (ad 20), .int (jI o'), .int (jI p'), .int (jI 0)]) ∧ (∀ i : Nat, i < 21 → E' (21 + 2 * i) = .inr (3, [.ref (ad (22 + 2 * i)), .int (jI (if i = ix then n else hn i))])) ∧ (∀ i : Nat, i < 21 → E' (22 + 2 * i) = aI Γ 60 (if i = ix then icp f (hf i) 0 0 n else hf i)) ∧ ∀ j : Nat, j ≠ 19 ∧ ¬ (21 ≤ j ∧ j ≤ 62) → E' j = E j)) := by
  refine JM_intro (own := RX2) [some (.ref (ad 19)), some (.ref (ad 10))] rfl rfl rfl (Nat.le_of_ble_eq_true rfl) ?_
  intro Ω X R hin
  obtain ⟨E0, hE0⟩ : ∃ E0 : Nat → va_E, E0 = E := ⟨_, rfl⟩
  have hF : ∀ j : Nat, j ≠ 19 ∧ ¬ (21 ≤ j ∧ j ≤ 62) → E j = E0 j := fun _ _ => by rw [hE0]
  refine J_aload_n (q := 1) X dX2_add_0 rfl rfl ?_
  refine J_iconst (q := 2) X dX2_add_1 rfl ?_
  refine J_put (q := 5) (ty := .int) X dX2_add_2 fX2_18 rfl (by decide +kernel) rfl rfl hHs (by omega) (Nat.le_of_ble_eq_true rfl) rfl (fun Ew2 hkq2 hsq2 => ?_)
  replace hHs : Ew2 19 = .inr (2, [.ref (ad 20), .int (jI _), .int (jI _), .int (jI _)]) := hkq2
  replace hSt := (hsq2 20 (by omega)).trans hSt
  replace hHR := (fun i hi => (hsq2 (21 + 2 * i) (by omega)).trans (hHR i hi))
  replace hHC := (fun i hi => (hsq2 (22 + 2 * i) (by omega)).trans (hHC i hi))
  replace hR := (hsq2 10 (by omega)).trans hR
  replace hC := (hsq2 11 (by omega)).trans hC
  replace hF : ∀ j : Nat, j ≠ 19 ∧ ¬ (21 ≤ j ∧ j ≤ 62) → Ew2 j = E0 j := fun j hj => (hsq2 j (by omega)).trans (hF j hj)
  refine J_aload_n (q := 6) X dX2_add_5 rfl rfl ?_
  refine J_get (q := 9) X dX2_add_6 fX2_22 hHs (by omega) rfl rfl ?_
  refine J_bipush (q := 11) X dX2_add_9 rfl (by decide) ?_
  refine J_icmp_ge (q := 14) (tgt := 27) X dX2_add_11 (by decide) rfl (by omega) (by omega) (fun cq11 => ?_) (fun cq11 => ?_)
  · refine J_aload_n (q := 28) X dX2_add_27 rfl rfl ?_
    refine J_aload_n (q := 29) X dX2_add_28 rfl rfl ?_
    refine J_get (q := 32) X dX2_add_29 fX2_25 hHs (by omega) rfl rfl ?_
    refine J_iconst (q := 33) X dX2_add_32 rfl ?_
    refine J_iadd (q := 34) X dX2_add_33 rfl ?_
    refine J_bipush (q := 36) X dX2_add_34 rfl (by decide) ?_
    refine J_irem (q := 37) X dX2_add_36 rfl (by omega) (by omega) ?_
    refine J_put (q := 40) (ty := .int) X dX2_add_37 fX2_25 rfl (by decide +kernel) rfl rfl hHs (by omega) (Nat.le_of_ble_eq_true rfl) rfl (fun Ew37 hkq37 hsq37 => ?_)
    replace hHs : Ew37 19 = .inr (2, [.ref (ad 20), .int (jI _), .int (jI _), .int (jI _)]) := hkq37
    replace hSt := (hsq37 20 (by omega)).trans hSt
    replace hHR := (fun i hi => (hsq37 (21 + 2 * i) (by omega)).trans (hHR i hi))
    replace hHC := (fun i hi => (hsq37 (22 + 2 * i) (by omega)).trans (hHC i hi))
    replace hR := (hsq37 10 (by omega)).trans hR
    replace hC := (hsq37 11 (by omega)).trans hC
    replace hF : ∀ j : Nat, j ≠ 19 ∧ ¬ (21 ≤ j ∧ j ≤ 62) → Ew37 j = E0 j := fun j hj => (hsq37 j (by omega)).trans (hF j hj)
    refine J_aload_n (q := 41) X dX2_add_40 rfl rfl ?_
    refine J_callR (q := 44) (jrV X mX2_28 dX2_add_41 (c_X2_present hHs hSt (by omega)) hHs (by omega) rfl rfl rfl rfl (Nat.le_of_ble_eq_true rfl) (by decide)) rfl (fun Ew41 hpq41 => ?_)
    obtain rfl := hpq41
    obtain ⟨oo, hoo⟩ : ∃ oo : Int, oo = (if p < 20 then o else (o + 1) % 21) := ⟨_, rfl⟩
    obtain ⟨ix, hix, hixl⟩ : ∃ ix : Nat, ix = ((oo + (if p < 20 then p + 1 else p)) % 21).toNat ∧ ix < 21 := ⟨_, rfl, by omega⟩
    have hPz := hHR ix hixl
    have hPc := hHC ix hixl
    first
      | (rw [if_pos (by omega)] at hix hoo; subst hoo; rw [← hix])
      | (rw [if_neg (by omega)] at hix hoo; subst hoo; rw [← hix])
    refine J_aload_n (q := 45) X dX2_add_44 rfl rfl ?_
    refine J_callV (q := 48) (jrV X mX2_32 dX2_add_45 (c_X3_become hPz hPc hR hC (by omega) (by omega)) hPz (by omega) rfl rfl rfl rfl (Nat.le_of_ble_eq_true rfl) (by decide)) rfl (fun Ew45 hpq45 => ?_)
    obtain ⟨kPz, kPc, hsq45⟩ := hpq45
    replace hPz := kPz
    replace hPc := kPc
    replace hHs := (hsq45 19 (by omega)).trans hHs
    replace hSt := (hsq45 20 (by omega)).trans hSt
    replace hR := (hsq45 10 (by omega)).trans hR
    replace hC := (hsq45 11 (by omega)).trans hC
    replace hF : ∀ j : Nat, j ≠ 19 ∧ ¬ (21 ≤ j ∧ j ≤ 62) → Ew45 j = E0 j := fun j hj => (hsq45 j (by omega)).trans (hF j hj)
    refine J_vret X R dX2_add_48 ?_
    rw [hE0] at hF
    refine ⟨rfl, _, _, ix, by omega, hix, hixl, hHs, fun i hi => ?_, fun i hi => ?_, hF⟩
    · by_cases h : i = ix
      · subst h; rw [if_pos rfl]; exact hPz
      · rw [if_neg h]; exact (hsq45 (21 + 2 * i) (by omega)).trans (hHR i hi)
    · by_cases h : i = ix
      · subst h; rw [if_pos rfl]; exact hPc
      · rw [if_neg h]; exact (hsq45 (22 + 2 * i) (by omega)).trans (hHC i hi)
  · refine J_aload_n (q := 15) X dX2_add_14 rfl rfl ?_
    refine J_dup (q := 16) X dX2_add_15 rfl rfl ?_
    refine J_get (q := 19) X dX2_add_16 fX2_22 hHs (by omega) rfl rfl ?_
    refine J_iconst (q := 20) X dX2_add_19 rfl ?_
    refine J_iadd (q := 21) X dX2_add_20 rfl ?_
    refine J_put (q := 24) (ty := .int) X dX2_add_21 fX2_22 rfl (by decide +kernel) rfl rfl hHs (by omega) (Nat.le_of_ble_eq_true rfl) rfl (fun Ew21 hkq21 hsq21 => ?_)
    replace hHs : Ew21 19 = .inr (2, [.ref (ad 20), .int (jI _), .int (jI _), .int (jI _)]) := hkq21
    replace hSt := (hsq21 20 (by omega)).trans hSt
    replace hHR := (fun i hi => (hsq21 (21 + 2 * i) (by omega)).trans (hHR i hi))
    replace hHC := (fun i hi => (hsq21 (22 + 2 * i) (by omega)).trans (hHC i hi))
    replace hR := (hsq21 10 (by omega)).trans hR
    replace hC := (hsq21 11 (by omega)).trans hC
    replace hF : ∀ j : Nat, j ≠ 19 ∧ ¬ (21 ≤ j ∧ j ≤ 62) → Ew21 j = E0 j := fun j hj => (hsq21 j (by omega)).trans (hF j hj)
    refine J_goto (q := 40) X dX2_add_24 (by decide) ?_
    refine J_aload_n (q := 41) X dX2_add_40 rfl rfl ?_
    refine J_callR (q := 44) (jrV X mX2_28 dX2_add_41 (c_X2_present hHs hSt (by omega)) hHs (by omega) rfl rfl rfl rfl (Nat.le_of_ble_eq_true rfl) (by decide)) rfl (fun Ew41 hpq41 => ?_)
    obtain rfl := hpq41
    obtain ⟨oo, hoo⟩ : ∃ oo : Int, oo = (if p < 20 then o else (o + 1) % 21) := ⟨_, rfl⟩
    obtain ⟨ix, hix, hixl⟩ : ∃ ix : Nat, ix = ((oo + (if p < 20 then p + 1 else p)) % 21).toNat ∧ ix < 21 := ⟨_, rfl, by omega⟩
    have hPz := hHR ix hixl
    have hPc := hHC ix hixl
    first
      | (rw [if_pos (by omega)] at hix hoo; subst hoo; rw [← hix])
      | (rw [if_neg (by omega)] at hix hoo; subst hoo; rw [← hix])
    refine J_aload_n (q := 45) X dX2_add_44 rfl rfl ?_
    refine J_callV (q := 48) (jrV X mX2_32 dX2_add_45 (c_X3_become hPz hPc hR hC (by omega) (by omega)) hPz (by omega) rfl rfl rfl rfl (Nat.le_of_ble_eq_true rfl) (by decide)) rfl (fun Ew45 hpq45 => ?_)
    obtain ⟨kPz, kPc, hsq45⟩ := hpq45
    replace hPz := kPz
    replace hPc := kPc
    replace hHs := (hsq45 19 (by omega)).trans hHs
    replace hSt := (hsq45 20 (by omega)).trans hSt
    replace hR := (hsq45 10 (by omega)).trans hR
    replace hC := (hsq45 11 (by omega)).trans hC
    replace hF : ∀ j : Nat, j ≠ 19 ∧ ¬ (21 ≤ j ∧ j ≤ 62) → Ew45 j = E0 j := fun j hj => (hsq45 j (by omega)).trans (hF j hj)
    refine J_vret X R dX2_add_48 ?_
    rw [hE0] at hF
    refine ⟨rfl, _, _, ix, by omega, hix, hixl, hHs, fun i hi => ?_, fun i hi => ?_, hF⟩
    · by_cases h : i = ix
      · subst h; rw [if_pos rfl]; exact hPz
      · rw [if_neg h]; exact (hsq45 (21 + 2 * i) (by omega)).trans (hHR i hi)
    · by_cases h : i = ix
      · subst h; rw [if_pos rfl]; exact hPc
      · rw [if_neg h]; exact (hsq45 (22 + 2 * i) (by omega)).trans (hHC i hi)

set_option maxRecDepth 100000 in
set_option maxHeartbeats 4000000 in
theorem c_X2_restart {l : Launch} {Γ : JG} {ad : Nat → Nat} {E : Nat → va_E} {o p a n : Int} {f : Int → Int} {hn : Nat → Int} {hf : Nat → Int → Int} (hHs : E 19 = .inr (2, [.ref (ad 20), .int (jI o), .int (jI p), .int (jI a)])) (hSt : E 20 = aR Γ 2 21 (fun i => some (ad (21 + 2 * i)))) (hHR : ∀ i : Nat, i < 21 → E (21 + 2 * i) = .inr (3, [.ref (ad (22 + 2 * i)), .int (jI (hn i))])) (hHC : ∀ i : Nat, i < 21 → E (22 + 2 * i) = aI Γ 60 (hf i)) (hR : E 10 = .inr (3, [.ref (ad 11), .int (jI n)])) (hC : E 11 = aI Γ 60 f) (ho : 0 ≤ o ∧ o < 21 ∧ 0 ≤ p ∧ p ≤ 20) (hnb : 0 ≤ n ∧ n ≤ 60) : JM l Γ yX2_restart cX2_restart 2 none 2 69 0 0 ad 95 E [.ref (ad 19), .ref (ad 10)] (pV (fun E' => ∃ (o' p' : Int) (ix : Nat), (o' = o ∧ p' = 0) ∧ ix = ((o' + p') % 21).toNat ∧ ix < 21 ∧ E' 19 = .inr (2, [.ref (ad 20), .int (jI o'), .int (jI p'), .int (jI 0)]) ∧ (∀ i : Nat, i < 21 → E' (21 + 2 * i) = .inr (3, [.ref (ad (22 + 2 * i)), .int (jI (if i = ix then n else hn i))])) ∧ (∀ i : Nat, i < 21 → E' (22 + 2 * i) = aI Γ 60 (if i = ix then icp f (hf i) 0 0 n else hf i)) ∧ ∀ j : Nat, j ≠ 19 ∧ ¬ (21 ≤ j ∧ j ≤ 62) → E' j = E j)) := by
  refine JM_intro (own := RX2) [some (.ref (ad 19)), some (.ref (ad 10))] rfl rfl rfl (Nat.le_of_ble_eq_true rfl) ?_
  intro Ω X R hin
  obtain ⟨E0, hE0⟩ : ∃ E0 : Nat → va_E, E0 = E := ⟨_, rfl⟩
  have hF : ∀ j : Nat, j ≠ 19 ∧ ¬ (21 ≤ j ∧ j ≤ 62) → E j = E0 j := fun _ _ => by rw [hE0]
  refine J_aload_n (q := 1) X dX2_restart_0 rfl rfl ?_
  refine J_iconst (q := 2) X dX2_restart_1 rfl ?_
  refine J_put (q := 5) (ty := .int) X dX2_restart_2 fX2_22 rfl (by decide +kernel) rfl rfl hHs (by omega) (Nat.le_of_ble_eq_true rfl) rfl (fun Ew2 hkq2 hsq2 => ?_)
  replace hHs : Ew2 19 = .inr (2, [.ref (ad 20), .int (jI _), .int (jI _), .int (jI _)]) := hkq2
  replace hSt := (hsq2 20 (by omega)).trans hSt
  replace hHR := (fun i hi => (hsq2 (21 + 2 * i) (by omega)).trans (hHR i hi))
  replace hHC := (fun i hi => (hsq2 (22 + 2 * i) (by omega)).trans (hHC i hi))
  replace hR := (hsq2 10 (by omega)).trans hR
  replace hC := (hsq2 11 (by omega)).trans hC
  replace hF : ∀ j : Nat, j ≠ 19 ∧ ¬ (21 ≤ j ∧ j ≤ 62) → Ew2 j = E0 j := fun j hj => (hsq2 j (by omega)).trans (hF j hj)
  refine J_aload_n (q := 6) X dX2_restart_5 rfl rfl ?_
  refine J_iconst (q := 7) X dX2_restart_6 rfl ?_
  refine J_put (q := 10) (ty := .int) X dX2_restart_7 fX2_18 rfl (by decide +kernel) rfl rfl hHs (by omega) (Nat.le_of_ble_eq_true rfl) rfl (fun Ew7 hkq7 hsq7 => ?_)
  replace hHs : Ew7 19 = .inr (2, [.ref (ad 20), .int (jI _), .int (jI _), .int (jI _)]) := hkq7
  replace hSt := (hsq7 20 (by omega)).trans hSt
  replace hHR := (fun i hi => (hsq7 (21 + 2 * i) (by omega)).trans (hHR i hi))
  replace hHC := (fun i hi => (hsq7 (22 + 2 * i) (by omega)).trans (hHC i hi))
  replace hR := (hsq7 10 (by omega)).trans hR
  replace hC := (hsq7 11 (by omega)).trans hC
  replace hF : ∀ j : Nat, j ≠ 19 ∧ ¬ (21 ≤ j ∧ j ≤ 62) → Ew7 j = E0 j := fun j hj => (hsq7 j (by omega)).trans (hF j hj)
  refine J_aload_n (q := 11) X dX2_restart_10 rfl rfl ?_
  refine J_callR (q := 14) (jrV X mX2_28 dX2_restart_11 (c_X2_present hHs hSt (by omega)) hHs (by omega) rfl rfl rfl rfl (Nat.le_of_ble_eq_true rfl) (by decide)) rfl (fun Ew11 hpq11 => ?_)
  obtain rfl := hpq11
  obtain ⟨ix, hix, hixl⟩ : ∃ ix : Nat, ix = ((o + 0) % 21).toNat ∧ ix < 21 := ⟨_, rfl, by omega⟩
  rw [← hix]
  have hPz := hHR ix hixl
  have hPc := hHC ix hixl
  refine J_aload_n (q := 15) X dX2_restart_14 rfl rfl ?_
  refine J_callV (q := 18) (jrV X mX2_32 dX2_restart_15 (c_X3_become hPz hPc hR hC (by omega) (by omega)) hPz (by omega) rfl rfl rfl rfl (Nat.le_of_ble_eq_true rfl) (by decide)) rfl (fun Ew15 hpq15 => ?_)
  obtain ⟨kPz, kPc, hsq15⟩ := hpq15
  replace hPz := kPz
  replace hPc := kPc
  replace hHs := (hsq15 19 (by omega)).trans hHs
  replace hSt := (hsq15 20 (by omega)).trans hSt
  replace hR := (hsq15 10 (by omega)).trans hR
  replace hC := (hsq15 11 (by omega)).trans hC
  replace hF : ∀ j : Nat, j ≠ 19 ∧ ¬ (21 ≤ j ∧ j ≤ 62) → Ew15 j = E0 j := fun j hj => (hsq15 j (by omega)).trans (hF j hj)
  refine J_vret X R dX2_restart_18 ?_
  rw [hE0] at hF
  refine ⟨rfl, _, _, ix, ⟨rfl, rfl⟩, hix, hixl, hHs, fun i hi => ?_, fun i hi => ?_, hF⟩
  · by_cases h : i = ix
    · subst h; rw [if_pos rfl]; exact hPz
    · rw [if_neg h]; exact (hsq15 (21 + 2 * i) (by omega)).trans (hHR i hi)
  · by_cases h : i = ix
    · subst h; rw [if_pos rfl]; exact hPc
    · rw [if_neg h]; exact (hsq15 (22 + 2 * i) (by omega)).trans (hHC i hi)

set_option maxRecDepth 100000 in
set_option maxHeartbeats 4000000 in
theorem c_X2_stepBack {l : Launch} {Γ : JG} {ad : Nat → Nat} {E : Nat → va_E} {o p a : Int} (hHs : E 19 = .inr (2, [.ref (ad 20), .int (jI o), .int (jI p), .int (jI a)])) (hSt : E 20 = aR Γ 2 21 (fun i => some (ad (21 + 2 * i)))) (ho : 0 ≤ o ∧ o < 21 ∧ 0 ≤ p ∧ p ≤ 20 ∧ 1 ≤ p) : JM l Γ yX2_stepBack cX2_stepBack 1 (some (.object "FoldKeeper$Row")) 1 20 0 0 ad 95 E [.ref (ad 19)] (pR (ad (21 + 2 * ((o + (p - 1)) % 21).toNat)) (fun E' => E' 19 = .inr (2, [.ref (ad 20), .int (jI o), .int (jI (p - 1)), .int (jI (a + 1))]) ∧ ∀ j : Nat, j ≠ 19 → E' j = E j)) := by
  refine JM_intro (own := RX2) [some (.ref (ad 19))] rfl rfl rfl (Nat.le_of_ble_eq_true rfl) ?_
  intro Ω X R hin
  obtain ⟨E0, hE0⟩ : ∃ E0 : Nat → va_E, E0 = E := ⟨_, rfl⟩
  have hF : ∀ j : Nat, j ≠ 19 → E j = E0 j := fun _ _ => by rw [hE0]
  refine J_aload_n (q := 1) X dX2_stepBack_0 rfl rfl ?_
  refine J_dup (q := 2) X dX2_stepBack_1 rfl rfl ?_
  refine J_get (q := 5) X dX2_stepBack_2 fX2_22 hHs (by omega) rfl rfl ?_
  refine J_iconst (q := 6) X dX2_stepBack_5 rfl ?_
  refine J_isub (q := 7) X dX2_stepBack_6 rfl ?_
  refine J_put (q := 10) (ty := .int) X dX2_stepBack_7 fX2_22 rfl (by decide +kernel) rfl rfl hHs (by omega) (Nat.le_of_ble_eq_true rfl) rfl (fun Ew7 hkq7 hsq7 => ?_)
  replace hHs : Ew7 19 = .inr (2, [.ref (ad 20), .int (jI _), .int (jI _), .int (jI _)]) := hkq7
  replace hSt := (hsq7 20 (by omega)).trans hSt
  replace hF : ∀ j : Nat, j ≠ 19 → Ew7 j = E0 j := fun j hj => (hsq7 j (by omega)).trans (hF j hj)
  refine J_aload_n (q := 11) X dX2_stepBack_10 rfl rfl ?_
  refine J_dup (q := 12) X dX2_stepBack_11 rfl rfl ?_
  refine J_get (q := 15) X dX2_stepBack_12 fX2_18 hHs (by omega) rfl rfl ?_
  refine J_iconst (q := 16) X dX2_stepBack_15 rfl ?_
  refine J_iadd (q := 17) X dX2_stepBack_16 rfl ?_
  refine J_put (q := 20) (ty := .int) X dX2_stepBack_17 fX2_18 rfl (by decide +kernel) rfl rfl hHs (by omega) (Nat.le_of_ble_eq_true rfl) rfl (fun Ew17 hkq17 hsq17 => ?_)
  replace hHs : Ew17 19 = .inr (2, [.ref (ad 20), .int (jI _), .int (jI _), .int (jI _)]) := hkq17
  replace hSt := (hsq17 20 (by omega)).trans hSt
  replace hF : ∀ j : Nat, j ≠ 19 → Ew17 j = E0 j := fun j hj => (hsq17 j (by omega)).trans (hF j hj)
  refine J_aload_n (q := 21) X dX2_stepBack_20 rfl rfl ?_
  refine J_callR (q := 24) (jrV X mX2_28 dX2_stepBack_21 (c_X2_present hHs hSt (by omega)) hHs (by omega) rfl rfl rfl rfl (Nat.le_of_ble_eq_true rfl) (by decide)) rfl (fun Ew21 hpq21 => ?_)
  obtain rfl := hpq21
  refine J_aret X R dX2_stepBack_24 ?_
  rw [hE0] at hF
  exact ⟨rfl, hHs, hF⟩

set_option maxRecDepth 100000 in
set_option maxHeartbeats 4000000 in
theorem c_X2_stepOn {l : Launch} {Γ : JG} {ad : Nat → Nat} {E : Nat → va_E} {o p a : Int} (hHs : E 19 = .inr (2, [.ref (ad 20), .int (jI o), .int (jI p), .int (jI a)])) (hSt : E 20 = aR Γ 2 21 (fun i => some (ad (21 + 2 * i)))) (ho : 0 ≤ o ∧ o < 21 ∧ 0 ≤ p ∧ p ≤ 20 ∧ p ≤ 19) : JM l Γ yX2_stepOn cX2_stepOn 1 (some (.object "FoldKeeper$Row")) 1 20 0 0 ad 95 E [.ref (ad 19)] (pR (ad (21 + 2 * ((o + (p + 1)) % 21).toNat)) (fun E' => E' 19 = .inr (2, [.ref (ad 20), .int (jI o), .int (jI (p + 1)), .int (jI (a - 1))]) ∧ ∀ j : Nat, j ≠ 19 → E' j = E j)) := by
  refine JM_intro (own := RX2) [some (.ref (ad 19))] rfl rfl rfl (Nat.le_of_ble_eq_true rfl) ?_
  intro Ω X R hin
  obtain ⟨E0, hE0⟩ : ∃ E0 : Nat → va_E, E0 = E := ⟨_, rfl⟩
  have hF : ∀ j : Nat, j ≠ 19 → E j = E0 j := fun _ _ => by rw [hE0]
  refine J_aload_n (q := 1) X dX2_stepOn_0 rfl rfl ?_
  refine J_dup (q := 2) X dX2_stepOn_1 rfl rfl ?_
  refine J_get (q := 5) X dX2_stepOn_2 fX2_22 hHs (by omega) rfl rfl ?_
  refine J_iconst (q := 6) X dX2_stepOn_5 rfl ?_
  refine J_iadd (q := 7) X dX2_stepOn_6 rfl ?_
  refine J_put (q := 10) (ty := .int) X dX2_stepOn_7 fX2_22 rfl (by decide +kernel) rfl rfl hHs (by omega) (Nat.le_of_ble_eq_true rfl) rfl (fun Ew7 hkq7 hsq7 => ?_)
  replace hHs : Ew7 19 = .inr (2, [.ref (ad 20), .int (jI _), .int (jI _), .int (jI _)]) := hkq7
  replace hSt := (hsq7 20 (by omega)).trans hSt
  replace hF : ∀ j : Nat, j ≠ 19 → Ew7 j = E0 j := fun j hj => (hsq7 j (by omega)).trans (hF j hj)
  refine J_aload_n (q := 11) X dX2_stepOn_10 rfl rfl ?_
  refine J_dup (q := 12) X dX2_stepOn_11 rfl rfl ?_
  refine J_get (q := 15) X dX2_stepOn_12 fX2_18 hHs (by omega) rfl rfl ?_
  refine J_iconst (q := 16) X dX2_stepOn_15 rfl ?_
  refine J_isub (q := 17) X dX2_stepOn_16 rfl ?_
  refine J_put (q := 20) (ty := .int) X dX2_stepOn_17 fX2_18 rfl (by decide +kernel) rfl rfl hHs (by omega) (Nat.le_of_ble_eq_true rfl) rfl (fun Ew17 hkq17 hsq17 => ?_)
  replace hHs : Ew17 19 = .inr (2, [.ref (ad 20), .int (jI _), .int (jI _), .int (jI _)]) := hkq17
  replace hSt := (hsq17 20 (by omega)).trans hSt
  replace hF : ∀ j : Nat, j ≠ 19 → Ew17 j = E0 j := fun j hj => (hsq17 j (by omega)).trans (hF j hj)
  refine J_aload_n (q := 21) X dX2_stepOn_20 rfl rfl ?_
  refine J_callR (q := 24) (jrV X mX2_28 dX2_stepOn_21 (c_X2_present hHs hSt (by omega)) hHs (by omega) rfl rfl rfl rfl (Nat.le_of_ble_eq_true rfl) (by decide)) rfl (fun Ew21 hpq21 => ?_)
  obtain rfl := hpq21
  refine J_aret X R dX2_stepOn_24 ?_
  rw [hE0] at hF
  exact ⟨rfl, hHs, hF⟩
