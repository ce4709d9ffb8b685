set_option maxRecDepth 100000 in
set_option maxHeartbeats 4000000 in
theorem c_X7_takeToken {l : Launch} {Γ : JG} {ad : Nat → Nat} {E : Nat → va_E} {x mk ti a b v n : Int} {f ma : Int → Int} {tl : Int} {tb : Int → Int} {b0 b1 b2 b3 b4 : Int} (hRd : E 1 = .inr (6, [.ref (ad 2), .ref (ad 3), .ref (ad 5), .ref (ad 6), .ref (ad 8), .int (jI x), .int (jI mk), .int (jI ti)])) (hK : E 2 = .inr (7, [.ref (ad 3), .ref (ad 5), .int (jI x), .int (jI a), .int (jI b), .int (jI v)])) (hT : E 3 = .inr (5, [.ref (ad 4), .int (jI tl)])) (hY : E 4 = aI Γ 160 tb) (hB : E 5 = .inr (0, [.int (jI b0), .int (jI b1), .int (jI b2), .int (jI b3), .int (jI b4)])) (hD : E 6 = .inr (3, [.ref (ad 7), .int (jI n)])) (hDC : E 7 = aI Γ 60 f) (hMk : E 8 = aZ Γ 60 ma) (htb : TB tl tb) (hab : 0 ≤ a ∧ a ≤ b ∧ b ≤ tl) (hx : 1 ≤ x ∧ x ≤ 4) (hmk : mk = 0 ∨ mk = 1) (hv2 : x = 2 → 0 ≤ v ∧ v ≤ 99) (hq4 : x = 4 → a + 2 ≤ b ∧ 1 ≤ ti ∧ ti ≤ 9) (hn : 0 ≤ n ∧ n ≤ 60) : JM l Γ yX7_takeToken cX7_takeToken 1 (some .boolean) 7 148 0 0 ad 95 E [.ref (ad 1)] (pI (fun z E' => z = bI (fT tb a b v x mk ti n = 0) ∧ (fT tb a b v x mk ti n = 0 → E' 1 = .inr (6, [.ref (ad 2), .ref (ad 3), .ref (ad 5), .ref (ad 6), .ref (ad 8), .int (jI (xT tb a b x mk)), .int (jI (mkT tb a b x mk)), .int (jI (tiT v x mk ti))]) ∧ E' 5 = .inr (0, [.int (jI b0), .int (jI b1), .int (jI (lnT x b2)), .int (jI (tkT x b3)), .int (jI b4)]) ∧ E' 6 = .inr (3, [.ref (ad 7), .int (jI (nT a b x ti n))]) ∧ E' 7 = aI Γ 60 (rwT tb a b x ti n f) ∧ E' 8 = aZ Γ 60 (maT v x mk ma)) ∧ (fT tb a b v x mk ti n ≠ 0 → E' 5 = .inr (0, [.int (jI (fT tb a b v x mk ti n)), .int (jI a), .int (jI b2), .int (jI b3), .int (jI b4)]) ∧ (∃ x' mk' ti' : Int, (mk' = 0 ∨ mk' = 1) ∧ E' 1 = .inr (6, [.ref (ad 2), .ref (ad 3), .ref (ad 5), .ref (ad 6), .ref (ad 8), .int (jI x'), .int (jI mk'), .int (jI ti')])) ∧ E' 6 = .inr (3, [.ref (ad 7), .int (jI n)]) ∧ E' 7 = aI Γ 60 f ∧ E' 8 = aZ Γ 60 ma) ∧ ∀ j : Nat, ¬ (j = 1 ∨ j = 5 ∨ j = 6 ∨ j = 7 ∨ j = 8) → E' j = E j)) := by
  refine JM_intro (own := RX7) [some (.ref (ad 1))] rfl rfl rfl (Nat.le_of_ble_eq_true rfl) ?_
  intro Ω X R hin
  obtain ⟨E0, hE0⟩ : ∃ E0 : Nat → va_E, E0 = E := ⟨_, rfl⟩
  have hF : ∀ j : Nat, ¬ (j = 1 ∨ j = 5 ∨ j = 6 ∨ j = 7 ∨ j = 8) → E j = E0 j := fun _ _ => by rw [hE0]
  refine J_aload_n (q := 1) X dX7_takeToken_0 rfl rfl ?_
  refine J_get (q := 4) X dX7_takeToken_1 fX7_50 hRd (by omega) rfl rfl ?_
  rcases (show (x < 1 ∨ 4 < x) ∨ x = 1 ∨ x = 2 ∨ x = 3 ∨ x = 4 by omega) with hsw | hsw | hsw | hsw | hsw
  · refine J_tableOut (tgt := 51) X dX7_takeToken_4 (by omega) hsw (by decide) ?_
    obtain rfl : x = 3 := by omega
    refine J_aload_n (q := 52) X dX7_takeToken_51 rfl rfl ?_
    refine J_get (q := 55) X dX7_takeToken_52 fX7_27 hRd (by omega) rfl rfl ?_
    refine J_callV (q := 58) (jrV X mX7_87 dX7_takeToken_55 (c_X0_lineTaken hB) hB (by omega) rfl rfl rfl rfl (Nat.le_of_ble_eq_true rfl) (by decide)) rfl (fun Ew55 hpq55 => ?_)
    obtain ⟨kB, hsq55⟩ := hpq55
    replace hB := kB
    replace hRd := (hsq55 1 (by omega)).trans hRd
    replace hK := (hsq55 2 (by omega)).trans hK
    replace hT := (hsq55 3 (by omega)).trans hT
    replace hY := (hsq55 4 (by omega)).trans hY
    replace hD := (hsq55 6 (by omega)).trans hD
    replace hDC := (hsq55 7 (by omega)).trans hDC
    replace hMk := (hsq55 8 (by omega)).trans hMk
    replace hF : ∀ j : Nat, ¬ (j = 1 ∨ j = 5 ∨ j = 6 ∨ j = 7 ∨ j = 8) → Ew55 j = E0 j := fun j hj => (hsq55 j (by omega)).trans (hF j hj)
    refine J_aload_n (q := 59) X dX7_takeToken_58 rfl rfl ?_
    refine J_iconst (q := 60) X dX7_takeToken_59 rfl ?_
    refine J_put (q := 63) (ty := .int) X dX7_takeToken_60 fX7_50 rfl (by decide +kernel) rfl rfl hRd (by omega) (Nat.le_of_ble_eq_true rfl) rfl (fun Ew60 hkq60 hsq60 => ?_)
    replace hRd : Ew60 1 = .inr (6, [.ref (ad 2), .ref (ad 3), .ref (ad 5), .ref (ad 6), .ref (ad 8), .int (jI _), .int (jI _), .int (jI _)]) := hkq60
    replace hK := (hsq60 2 (by omega)).trans hK
    replace hT := (hsq60 3 (by omega)).trans hT
    replace hY := (hsq60 4 (by omega)).trans hY
    replace hB := (hsq60 5 (by omega)).trans hB
    replace hD := (hsq60 6 (by omega)).trans hD
    replace hDC := (hsq60 7 (by omega)).trans hDC
    replace hMk := (hsq60 8 (by omega)).trans hMk
    replace hF : ∀ j : Nat, ¬ (j = 1 ∨ j = 5 ∨ j = 6 ∨ j = 7 ∨ j = 8) → Ew60 j = E0 j := fun j hj => (hsq60 j (by omega)).trans (hF j hj)
    refine J_iconst (q := 64) X dX7_takeToken_63 rfl ?_
    refine J_zret X R dX7_takeToken_64 (nrw_z (by first | omega | exact bI_bd _)) ?_
    rw [hE0] at hF
    exact ⟨1, rfl, rfl, fun _ => ⟨hRd, hB, hD, hDC, hMk⟩, fun z => absurd rfl z, hF⟩
  · refine J_tableIn (tgt := 36) (v := 1) (off := 32) X dX7_takeToken_4 hsw (by decide) rfl (by decide) ?_
    subst hsw
    refine J_aload_n (q := 37) X dX7_takeToken_36 rfl rfl ?_
    refine J_callI (q := 40) (jrV X mX7_78 dX7_takeToken_37 (c_X7_takeName hRd hK hT hY hB htb (by omega)) hRd (by omega) rfl rfl rfl rfl (Nat.le_of_ble_eq_true rfl) (by decide)) rfl (fun zq37 Ew37 hpq37 => ?_)
    obtain ⟨hzq37, kRd, kB, hsq37⟩ := hpq37
    replace hRd := kRd
    replace hB := kB
    replace hK := (hsq37 2 (by omega)).trans hK
    replace hT := (hsq37 3 (by omega)).trans hT
    replace hY := (hsq37 4 (by omega)).trans hY
    replace hD := (hsq37 6 (by omega)).trans hD
    replace hDC := (hsq37 7 (by omega)).trans hDC
    replace hMk := (hsq37 8 (by omega)).trans hMk
    replace hF : ∀ j : Nat, ¬ (j = 1 ∨ j = 5 ∨ j = 6 ∨ j = 7 ∨ j = 8) → Ew37 j = E0 j := fun j hj => (hsq37 j (by omega)).trans (hF j hj)
    refine J_zret X R dX7_takeToken_40 (nrw_z (by rw [hzq37]; exact bI_bd _)) ?_
    rw [hE0] at hF
    by_cases hok : okN tb a b
    · have f0 : fT tb a b v 1 mk ti n = 0 := if_pos hok
      rw [if_pos hok] at hRd hB
      exact ⟨zq37, rfl, by rw [hzq37, bI_t hok, bI_t f0], fun _ => ⟨hRd, hB, hD, hDC, hMk⟩, fun z => absurd f0 z, hF⟩
    · have f0 : fT tb a b v 1 mk ti n = 2 := if_neg hok
      rw [if_neg hok] at hRd hB
      exact ⟨zq37, rfl, by rw [hzq37, bI_f hok, bI_f (by rw [f0]; decide)], fun z => by rw [f0] at z; exact absurd z (by decide), fun _ => ⟨by rw [f0]; exact hB, ⟨_, _, _, by first | exact hmk | exact bI_bd _, hRd⟩, hD, hDC, hMk⟩, hF⟩
  · refine J_tableIn (tgt := 41) (v := 2) (off := 37) X dX7_takeToken_4 hsw (by decide) rfl (by decide) ?_
    subst hsw
    have hv := hv2 rfl
    refine J_aload_n (q := 42) X dX7_takeToken_41 rfl rfl ?_
    refine J_callI (q := 45) (jrV X mX7_81 dX7_takeToken_42 (c_X7_takeNumber hRd hK hB hMk (by omega) (by omega) (by omega)) hRd (by omega) rfl rfl rfl rfl (Nat.le_of_ble_eq_true rfl) (by decide)) rfl (fun zq42 Ew42 hpq42 => ?_)
    obtain ⟨hzq42, kRd, kB, kMk, hsq42⟩ := hpq42
    replace hRd := kRd
    replace hB := kB
    replace hMk := kMk
    replace hK := (hsq42 2 (by omega)).trans hK
    replace hT := (hsq42 3 (by omega)).trans hT
    replace hY := (hsq42 4 (by omega)).trans hY
    replace hD := (hsq42 6 (by omega)).trans hD
    replace hDC := (hsq42 7 (by omega)).trans hDC
    replace hF : ∀ j : Nat, ¬ (j = 1 ∨ j = 5 ∨ j = 6 ∨ j = 7 ∨ j = 8) → Ew42 j = E0 j := fun j hj => (hsq42 j (by omega)).trans (hF j hj)
    refine J_zret X R dX7_takeToken_45 (nrw_z (by rw [hzq42]; exact bI_bd _)) ?_
    rw [hE0] at hF
    by_cases hok : okW mk v
    · have f0 : fT tb a b v 2 mk ti n = 0 := if_pos hok
      rw [if_pos hok] at hRd hB
      have hti : (if okW mk v ∧ mk ≠ 1 then v else ti) = tiT v 2 mk ti := by
        rw [show tiT v 2 mk ti = if (2 : Int) = 2 ∧ mk ≠ 1 then v else ti from rfl]
        by_cases hm : mk = 1
        · rw [if_neg (fun z => z.2 hm), if_neg (fun z => z.2 hm)]
        · rw [if_pos ⟨hok, hm⟩, if_pos ⟨rfl, hm⟩]
      have hmm : (if okW mk v ∧ mk = 1 then iu ma v 1 else ma) = maT v 2 mk ma := by
        unfold maT
        by_cases hm : mk = 1
        · rw [if_pos ⟨hok, hm⟩, if_pos ⟨rfl, hm⟩]
        · rw [if_neg (fun z => hm z.2), if_neg (fun z => hm z.2)]
      rw [hti] at hRd
      rw [hmm] at hMk
      exact ⟨zq42, rfl, by rw [hzq42, bI_t hok, bI_t f0], fun _ => ⟨hRd, hB, hD, hDC, hMk⟩, fun z => absurd f0 z, hF⟩
    · have f0 : fT tb a b v 2 mk ti n = 3 := if_neg hok
      rw [if_neg hok] at hRd hB
      rw [if_neg (fun z => hok z.1)] at hMk hRd
      exact ⟨zq42, rfl, by rw [hzq42, bI_f hok, bI_f (by rw [f0]; decide)], fun z => by rw [f0] at z; exact absurd z (by decide), fun _ => ⟨by rw [f0]; exact hB, ⟨_, _, _, by first | exact hmk | exact bI_bd _, hRd⟩, hD, hDC, hMk⟩, hF⟩
  · refine J_tableIn (tgt := 51) (v := 3) (off := 47) X dX7_takeToken_4 hsw (by decide) rfl (by decide) ?_
    obtain rfl : x = 3 := by omega
    refine J_aload_n (q := 52) X dX7_takeToken_51 rfl rfl ?_
    refine J_get (q := 55) X dX7_takeToken_52 fX7_27 hRd (by omega) rfl rfl ?_
    refine J_callV (q := 58) (jrV X mX7_87 dX7_takeToken_55 (c_X0_lineTaken hB) hB (by omega) rfl rfl rfl rfl (Nat.le_of_ble_eq_true rfl) (by decide)) rfl (fun Ew55 hpq55 => ?_)
    obtain ⟨kB, hsq55⟩ := hpq55
    replace hB := kB
    replace hRd := (hsq55 1 (by omega)).trans hRd
    replace hK := (hsq55 2 (by omega)).trans hK
    replace hT := (hsq55 3 (by omega)).trans hT
    replace hY := (hsq55 4 (by omega)).trans hY
    replace hD := (hsq55 6 (by omega)).trans hD
    replace hDC := (hsq55 7 (by omega)).trans hDC
    replace hMk := (hsq55 8 (by omega)).trans hMk
    replace hF : ∀ j : Nat, ¬ (j = 1 ∨ j = 5 ∨ j = 6 ∨ j = 7 ∨ j = 8) → Ew55 j = E0 j := fun j hj => (hsq55 j (by omega)).trans (hF j hj)
    refine J_aload_n (q := 59) X dX7_takeToken_58 rfl rfl ?_
    refine J_iconst (q := 60) X dX7_takeToken_59 rfl ?_
    refine J_put (q := 63) (ty := .int) X dX7_takeToken_60 fX7_50 rfl (by decide +kernel) rfl rfl hRd (by omega) (Nat.le_of_ble_eq_true rfl) rfl (fun Ew60 hkq60 hsq60 => ?_)
    replace hRd : Ew60 1 = .inr (6, [.ref (ad 2), .ref (ad 3), .ref (ad 5), .ref (ad 6), .ref (ad 8), .int (jI _), .int (jI _), .int (jI _)]) := hkq60
    replace hK := (hsq60 2 (by omega)).trans hK
    replace hT := (hsq60 3 (by omega)).trans hT
    replace hY := (hsq60 4 (by omega)).trans hY
    replace hB := (hsq60 5 (by omega)).trans hB
    replace hD := (hsq60 6 (by omega)).trans hD
    replace hDC := (hsq60 7 (by omega)).trans hDC
    replace hMk := (hsq60 8 (by omega)).trans hMk
    replace hF : ∀ j : Nat, ¬ (j = 1 ∨ j = 5 ∨ j = 6 ∨ j = 7 ∨ j = 8) → Ew60 j = E0 j := fun j hj => (hsq60 j (by omega)).trans (hF j hj)
    refine J_iconst (q := 64) X dX7_takeToken_63 rfl ?_
    refine J_zret X R dX7_takeToken_64 (nrw_z (by first | omega | exact bI_bd _)) ?_
    rw [hE0] at hF
    exact ⟨1, rfl, rfl, fun _ => ⟨hRd, hB, hD, hDC, hMk⟩, fun z => absurd rfl z, hF⟩
  · refine J_tableIn (tgt := 46) (v := 4) (off := 42) X dX7_takeToken_4 hsw (by decide) rfl (by decide) ?_
    subst hsw
    have hq := hq4 rfl
    refine J_aload_n (q := 47) X dX7_takeToken_46 rfl rfl ?_
    refine J_callI (q := 50) (jrV X mX7_84 dX7_takeToken_47 (c_X7_takeQuote hRd hK hT hY hB hD hDC htb (by omega) (by omega) (by omega)) hRd (by omega) rfl rfl rfl rfl (Nat.le_of_ble_eq_true rfl) (by decide)) rfl (fun zq47 Ew47 hpq47 => ?_)
    obtain ⟨hzq47, kRd, kB, kD, kDC, hsq47⟩ := hpq47
    replace hRd := kRd
    replace hB := kB
    replace hD := kD
    replace hDC := kDC
    replace hK := (hsq47 2 (by omega)).trans hK
    replace hT := (hsq47 3 (by omega)).trans hT
    replace hY := (hsq47 4 (by omega)).trans hY
    replace hMk := (hsq47 8 (by omega)).trans hMk
    replace hF : ∀ j : Nat, ¬ (j = 1 ∨ j = 5 ∨ j = 6 ∨ j = 7 ∨ j = 8) → Ew47 j = E0 j := fun j hj => (hsq47 j (by omega)).trans (hF j hj)
    refine J_zret X R dX7_takeToken_50 (nrw_z (by rw [hzq47]; exact bI_bd _)) ?_
    rw [hE0] at hF
    by_cases hok : okC ti n a b
    · have f0 : fT tb a b v 4 mk ti n = 0 := if_pos hok
      rw [if_pos hok] at hRd hB hD hDC
      exact ⟨zq47, rfl, by rw [hzq47, bI_t hok, bI_t f0], fun _ => ⟨hRd, hB, hD, hDC, hMk⟩, fun z => absurd f0 z, hF⟩
    · have f0 : fT tb a b v 4 mk ti n = 5 := if_neg hok
      rw [if_neg hok] at hRd hB hD hDC
      exact ⟨zq47, rfl, by rw [hzq47, bI_f hok, bI_f (by rw [f0]; decide)], fun z => by rw [f0] at z; exact absurd z (by decide), fun _ => ⟨by rw [f0]; exact hB, ⟨_, _, _, by first | exact hmk | exact bI_bd _, hRd⟩, hD, hDC, hMk⟩, hF⟩

set_option maxRecDepth 100000 in
set_option maxHeartbeats 4000000 in
theorem c_X7_restart {l : Launch} {Γ : JG} {ad : Nat → Nat} {E : Nat → va_E} {x mk ti k0 a b v n : Int} {f ma : Int → Int} {tl : Int} {tb : Int → Int} {b0 b1 b2 b3 b4 : Int} (hRd : E 1 = .inr (6, [.ref (ad 2), .ref (ad 3), .ref (ad 5), .ref (ad 6), .ref (ad 8), .int (jI x), .int (jI mk), .int (jI ti)])) (hK : E 2 = .inr (7, [.ref (ad 3), .ref (ad 5), .int (jI k0), .int (jI a), .int (jI b), .int (jI v)])) (hT : E 3 = .inr (5, [.ref (ad 4), .int (jI tl)])) (hY : E 4 = aI Γ 160 tb) (hB : E 5 = .inr (0, [.int (jI b0), .int (jI b1), .int (jI b2), .int (jI b3), .int (jI b4)])) (hD : E 6 = .inr (3, [.ref (ad 7), .int (jI n)])) (hDC : E 7 = aI Γ 60 f) (hMk : E 8 = aZ Γ 60 ma) (hn : 0 ≤ n ∧ n ≤ 60) : JM l Γ yX7_restart cX7_restart 2 none 1 20 0 0 ad 95 E [.ref (ad 1)] (pV (fun E' => E' 1 = .inr (6, [.ref (ad 2), .ref (ad 3), .ref (ad 5), .ref (ad 6), .ref (ad 8), .int (jI 1), .int (jI mk), .int (jI ti)]) ∧ E' 2 = .inr (7, [.ref (ad 3), .ref (ad 5), .int (jI k0), .int (jI a), .int (jI 0), .int (jI v)]) ∧ E' 5 = .inr (0, [.int (jI 0), .int (jI 0), .int (jI 0), .int (jI 0), .int (jI (-4))]) ∧ E' 6 = .inr (3, [.ref (ad 7), .int (jI 0)]) ∧ E' 8 = aZ Γ 60 (fun j => if 0 ≤ j ∧ j < 60 then 0 else ma j) ∧ ∀ j : Nat, ¬ (j = 1 ∨ j = 2 ∨ j = 5 ∨ j = 6 ∨ j = 8) → E' j = E j)) := by
  refine JM_intro (own := RX7) [some (.ref (ad 1)), none] rfl rfl rfl (Nat.le_of_ble_eq_true rfl) ?_
  intro Ω X R hin
  obtain ⟨E0, hE0⟩ : ∃ E0 : Nat → va_E, E0 = E := ⟨_, rfl⟩
  have hF : ∀ j : Nat, ¬ (j = 1 ∨ j = 2 ∨ j = 5 ∨ j = 6 ∨ j = 8) → E j = E0 j := fun _ _ => by rw [hE0]
  refine J_aload_n (q := 1) X dX7_restart_0 rfl rfl ?_
  refine J_get (q := 4) X dX7_restart_1 fX7_27 hRd (by omega) rfl rfl ?_
  refine J_callV (q := 7) (jrV X mX7_73 dX7_restart_4 (c_X0_restart hB) hB (by omega) rfl rfl rfl rfl (Nat.le_of_ble_eq_true rfl) (by decide)) rfl (fun Ew4 hpq4 => ?_)
  obtain ⟨kB, hsq4⟩ := hpq4
  replace hB := kB
  replace hRd := (hsq4 1 (by omega)).trans hRd
  replace hK := (hsq4 2 (by omega)).trans hK
  replace hT := (hsq4 3 (by omega)).trans hT
  replace hY := (hsq4 4 (by omega)).trans hY
  replace hD := (hsq4 6 (by omega)).trans hD
  replace hDC := (hsq4 7 (by omega)).trans hDC
  replace hMk := (hsq4 8 (by omega)).trans hMk
  replace hF : ∀ j : Nat, ¬ (j = 1 ∨ j = 2 ∨ j = 5 ∨ j = 6 ∨ j = 8) → Ew4 j = E0 j := fun j hj => (hsq4 j (by omega)).trans (hF j hj)
  refine J_aload_n (q := 8) X dX7_restart_7 rfl rfl ?_
  refine J_get (q := 11) X dX7_restart_8 fX7_12 hRd (by omega) rfl rfl ?_
  refine J_callV (q := 14) (jrV X mX7_74 dX7_restart_11 (c_X8_restart hK hT hY hB) hK (by omega) rfl rfl rfl rfl (Nat.le_of_ble_eq_true rfl) (by decide)) rfl (fun Ew11 hpq11 => ?_)
  obtain ⟨kK, hsq11⟩ := hpq11
  replace hK := kK
  replace hRd := (hsq11 1 (by omega)).trans hRd
  replace hT := (hsq11 3 (by omega)).trans hT
  replace hY := (hsq11 4 (by omega)).trans hY
  replace hB := (hsq11 5 (by omega)).trans hB
  replace hD := (hsq11 6 (by omega)).trans hD
  replace hDC := (hsq11 7 (by omega)).trans hDC
  replace hMk := (hsq11 8 (by omega)).trans hMk
  replace hF : ∀ j : Nat, ¬ (j = 1 ∨ j = 2 ∨ j = 5 ∨ j = 6 ∨ j = 8) → Ew11 j = E0 j := fun j hj => (hsq11 j (by omega)).trans (hF j hj)
  refine J_aload_n (q := 15) X dX7_restart_14 rfl rfl ?_
  refine J_get (q := 18) X dX7_restart_15 fX7_31 hRd (by omega) rfl rfl ?_
  refine J_callV (q := 21) (jrV X mX7_75 dX7_restart_18 (c_X3_clear hD hDC (by omega) (by omega)) hD (by omega) rfl rfl rfl rfl (Nat.le_of_ble_eq_true rfl) (by decide)) rfl (fun Ew18 hpq18 => ?_)
  obtain ⟨kD, hsq18⟩ := hpq18
  replace hD := kD
  replace hRd := (hsq18 1 (by omega)).trans hRd
  replace hK := (hsq18 2 (by omega)).trans hK
  replace hT := (hsq18 3 (by omega)).trans hT
  replace hY := (hsq18 4 (by omega)).trans hY
  replace hB := (hsq18 5 (by omega)).trans hB
  replace hDC := (hsq18 7 (by omega)).trans hDC
  replace hMk := (hsq18 8 (by omega)).trans hMk
  replace hF : ∀ j : Nat, ¬ (j = 1 ∨ j = 2 ∨ j = 5 ∨ j = 6 ∨ j = 8) → Ew18 j = E0 j := fun j hj => (hsq18 j (by omega)).trans (hF j hj)
  refine J_iconst (q := 22) X dX7_restart_21 rfl ?_
  refine J_istore_n (q := 23) X dX7_restart_22 (by decide) rfl rfl ?_
  have lp23 : ∀ (m : Nat) (i : Int) (g : Int → Int) (E : Nat → va_E) (hi : 0 ≤ i ∧ i ≤ 60) (hg : ∀ j, g j = if 0 ≤ j ∧ j < i then 0 else ma j) (hRd : E 1 = .inr (6, [.ref (ad 2), .ref (ad 3), .ref (ad 5), .ref (ad 6), .ref (ad 8), .int (jI x), .int (jI mk), .int (jI ti)])) (hK : E 2 = .inr (7, [.ref (ad 3), .ref (ad 5), .int (jI k0), .int (jI a), .int (jI 0), .int (jI v)])) (hT : E 3 = .inr (5, [.ref (ad 4), .int (jI tl)])) (hY : E 4 = aI Γ 160 tb) (hB : E 5 = .inr (0, [.int (jI 0), .int (jI 0), .int (jI 0), .int (jI 0), .int (jI (-4))])) (hD : E 6 = .inr (3, [.ref (ad 7), .int (jI 0)])) (hDC : E 7 = aI Γ 60 f) (hMk : E 8 = aZ Γ 60 g) (hF : ∀ j : Nat, ¬ (j = 1 ∨ j = 2 ∨ j = 5 ∨ j = 6 ∨ j = 8) → E j = E0 j) (hm : 60 - i + 1 ≤ (m : Int)), J l Γ Ω 2 ad 95 0 0 E 23 [some (.ref (ad 1)), some (.int (jI i))] [] := by
    intro m
    induction m with
    | zero => intro i g E hi hg hRd hK hT hY hB hD hDC hMk hF hm; exfalso; omega
    | succ m ih23 =>
      intro i g E hi hg hRd hK hT hY hB hD hDC hMk hF hm
      refine J_iload_n (q := 24) X dX7_restart_23 rfl rfl ?_
      refine J_bipush (q := 26) X dX7_restart_24 rfl (by decide) ?_
      refine J_icmp_ge (q := 29) (tgt := 42) X dX7_restart_26 (by decide) rfl (by omega) (by omega) (fun cq26 => ?_) (fun cq26 => ?_)
      · refine J_aload_n (q := 43) X dX7_restart_42 rfl rfl ?_
        refine J_iconst (q := 44) X dX7_restart_43 rfl ?_
        refine J_put (q := 47) (ty := .int) X dX7_restart_44 fX7_50 rfl (by decide +kernel) rfl rfl hRd (by omega) (Nat.le_of_ble_eq_true rfl) rfl (fun Ew44 hkq44 hsq44 => ?_)
        replace hRd : Ew44 1 = .inr (6, [.ref (ad 2), .ref (ad 3), .ref (ad 5), .ref (ad 6), .ref (ad 8), .int (jI _), .int (jI _), .int (jI _)]) := hkq44
        replace hK := (hsq44 2 (by omega)).trans hK
        replace hT := (hsq44 3 (by omega)).trans hT
        replace hY := (hsq44 4 (by omega)).trans hY
        replace hB := (hsq44 5 (by omega)).trans hB
        replace hD := (hsq44 6 (by omega)).trans hD
        replace hDC := (hsq44 7 (by omega)).trans hDC
        replace hMk := (hsq44 8 (by omega)).trans hMk
        replace hF : ∀ j : Nat, ¬ (j = 1 ∨ j = 2 ∨ j = 5 ∨ j = 6 ∨ j = 8) → Ew44 j = E0 j := fun j hj => (hsq44 j (by omega)).trans (hF j hj)
        refine J_vret X R dX7_restart_47 ?_
        rw [hE0] at hF
        obtain rfl : i = 60 := by omega
        exact ⟨rfl, hRd, hK, hB, hD, by rw [hMk, show g = fun j => if 0 ≤ j ∧ j < 60 then 0 else ma j from funext hg], hF⟩
      · refine J_aload_n (q := 30) X dX7_restart_29 rfl rfl ?_
        refine J_get (q := 33) X dX7_restart_30 fX7_35 hRd (by omega) rfl rfl ?_
        refine J_iload_n (q := 34) X dX7_restart_33 rfl rfl ?_
        refine J_iconst (q := 35) X dX7_restart_34 rfl ?_
        refine J_zast (q := 36) X dX7_restart_35 hMk (by omega) (by omega) (by decide) (by omega) rfl (fun Ew35 hkq35 hsq35 => ?_)
        replace hMk := hkq35
        replace hRd := (hsq35 1 (by omega)).trans hRd
        replace hK := (hsq35 2 (by omega)).trans hK
        replace hT := (hsq35 3 (by omega)).trans hT
        replace hY := (hsq35 4 (by omega)).trans hY
        replace hB := (hsq35 5 (by omega)).trans hB
        replace hD := (hsq35 6 (by omega)).trans hD
        replace hDC := (hsq35 7 (by omega)).trans hDC
        replace hF : ∀ j : Nat, ¬ (j = 1 ∨ j = 2 ∨ j = 5 ∨ j = 6 ∨ j = 8) → Ew35 j = E0 j := fun j hj => (hsq35 j (by omega)).trans (hF j hj)
        refine J_iinc (q := 39) X dX7_restart_36 rfl (by decide) rfl rfl ?_
        refine J_goto (q := 23) X dX7_restart_39 (by decide) ?_
        refine ih23 _ _ _ (by omega) (fun j => ?_) hRd hK hT hY hB hD hDC hMk hF (by omega)
        simp only [iu, hg j]
        repeat' split
        all_goals first | rfl | (exfalso; omega)
  exact lp23 100 _ _ _ (by omega) (fun j => by rw [if_neg (by omega)]) hRd hK hT hY hB hD hDC hMk hF (by omega)
