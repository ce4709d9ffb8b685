set_option maxRecDepth 100000 in
set_option maxHeartbeats 4000000 in
theorem c_X7_goOnWith {l : Launch} {Γ : JG} {ad : Nat → Nat} {E : Nat → va_E} {x mk ti w : Int} {b0 b1 b2 b3 b4 : Int} (hRd : E 1 = .inr (6, [.ref (ad 2), .ref (ad 3), .ref (ad 5), .ref (ad 6), .ref (ad 8), .int (jI x), .int (jI mk), .int (jI ti)])) (hB : E 5 = .inr (0, [.int (jI b0), .int (jI b1), .int (jI b2), .int (jI b3), .int (jI b4)])) : JM l Γ yX7_goOnWith cX7_goOnWith 2 (some .boolean) 1 20 0 0 ad 95 E [.ref (ad 1), .int (jI w)] (pI (fun z E' => z = 1 ∧ E' 1 = .inr (6, [.ref (ad 2), .ref (ad 3), .ref (ad 5), .ref (ad 6), .ref (ad 8), .int (jI w), .int (jI mk), .int (jI ti)]) ∧ E' 5 = .inr (0, [.int (jI b0), .int (jI b1), .int (jI b2), .int (jI (b3 + 1)), .int (jI b4)]) ∧ ∀ j : Nat, j ≠ 1 ∧ j ≠ 5 → E' j = E j)) := by
  refine JM_intro (own := RX7) [some (.ref (ad 1)), some (.int (jI w))] rfl rfl rfl (Nat.le_of_ble_eq_true rfl) ?_
  intro Ω X R hin
  obtain ⟨E0, hE0⟩ : ∃ E0 : Nat → va_E, E0 = E := ⟨_, rfl⟩
  have hF : ∀ j : Nat, j ≠ 1 ∧ j ≠ 5 → E j = E0 j := fun _ _ => by rw [hE0]
  refine J_aload_n (q := 1) X dX7_goOnWith_0 rfl rfl ?_
  refine J_get (q := 4) X dX7_goOnWith_1 fX7_27 hRd (by omega) rfl rfl ?_
  refine J_callV (q := 7) (jrV X mX7_132 dX7_goOnWith_4 (c_X0_tokenTaken hB) hB (by omega) rfl rfl rfl rfl (Nat.le_of_ble_eq_true rfl) (by decide)) rfl (fun Ew4 hpq4 => ?_)
  obtain ⟨kB, hsq4⟩ := hpq4
  replace hB := kB
  replace hRd := (hsq4 1 (by omega)).trans hRd
  replace hF : ∀ j : Nat, j ≠ 1 ∧ j ≠ 5 → Ew4 j = E0 j := fun j hj => (hsq4 j (by omega)).trans (hF j hj)
  refine J_aload_n (q := 8) X dX7_goOnWith_7 rfl rfl ?_
  refine J_iload_n (q := 9) X dX7_goOnWith_8 rfl rfl ?_
  refine J_put (q := 12) (ty := .int) X dX7_goOnWith_9 fX7_50 rfl (by decide +kernel) rfl rfl hRd (by omega) (Nat.le_of_ble_eq_true rfl) rfl (fun Ew9 hkq9 hsq9 => ?_)
  replace hRd : Ew9 1 = .inr (6, [.ref (ad 2), .ref (ad 3), .ref (ad 5), .ref (ad 6), .ref (ad 8), .int (jI _), .int (jI _), .int (jI _)]) := hkq9
  replace hB := (hsq9 5 (by omega)).trans hB
  replace hF : ∀ j : Nat, j ≠ 1 ∧ j ≠ 5 → Ew9 j = E0 j := fun j hj => (hsq9 j (by omega)).trans (hF j hj)
  refine J_iconst (q := 13) X dX7_goOnWith_12 rfl ?_
  refine J_zret X R dX7_goOnWith_13 (nrw_z (by first | omega | exact bI_bd _)) ?_
  rw [hE0] at hF
  exact ⟨1, rfl, rfl, hRd, hB, hF⟩

set_option maxRecDepth 100000 in
set_option maxHeartbeats 4000000 in
theorem c_X7_takeName {l : Launch} {Γ : JG} {ad : Nat → Nat} {E : Nat → va_E} {x mk ti a b v : Int} {tl : Int} {tb : Int → Int} {b0 b1 b2 b3 b4 : Int} (hRd : E 1 = .inr (6, [.ref (ad 2), .ref (ad 3), .ref (ad 5), .ref (ad 6), .ref (ad 8), .int (jI x), .int (jI mk), .int (jI ti)])) (hK : E 2 = .inr (7, [.ref (ad 3), .ref (ad 5), .int (jI 1), .int (jI a), .int (jI b), .int (jI v)])) (hT : E 3 = .inr (5, [.ref (ad 4), .int (jI tl)])) (hY : E 4 = aI Γ 160 tb) (hB : E 5 = .inr (0, [.int (jI b0), .int (jI b1), .int (jI b2), .int (jI b3), .int (jI b4)])) (htb : TB tl tb) (hab : 0 ≤ a ∧ a ≤ b ∧ b ≤ tl) : JM l Γ yX7_takeName cX7_takeName 1 (some .boolean) 6 128 0 0 ad 95 E [.ref (ad 1)] (pI (fun z E' => z = bI (okN tb a b) ∧ E' 1 = .inr (6, [.ref (ad 2), .ref (ad 3), .ref (ad 5), .ref (ad 6), .ref (ad 8), .int (jI (if okN tb a b then (if nmw tb a b 1 then 4 else 2) else x)), .int (jI (bI (nmw tb a b 0))), .int (jI 1)]) ∧ E' 5 = (if okN tb a b then .inr (0, [.int (jI b0), .int (jI b1), .int (jI b2), .int (jI (b3 + 1)), .int (jI b4)]) else .inr (0, [.int (jI 2), .int (jI a), .int (jI b2), .int (jI b3), .int (jI b4)])) ∧ ∀ j : Nat, j ≠ 1 ∧ j ≠ 5 → E' j = E j)) := by
  refine JM_intro (own := RX7) [some (.ref (ad 1))] rfl rfl rfl (Nat.le_of_ble_eq_true rfl) ?_
  intro Ω X R hin
  obtain ⟨E0, hE0⟩ : ∃ E0 : Nat → va_E, E0 = E := ⟨_, rfl⟩
  have hF : ∀ j : Nat, j ≠ 1 ∧ j ≠ 5 → E j = E0 j := fun _ _ => by rw [hE0]
  refine J_aload_n (q := 1) X dX7_takeName_0 rfl rfl ?_
  refine J_iconst (q := 2) X dX7_takeName_1 rfl ?_
  refine J_put (q := 5) (ty := .int) X dX7_takeName_2 fX7_90 rfl (by decide +kernel) rfl rfl hRd (by omega) (Nat.le_of_ble_eq_true rfl) rfl (fun Ew2 hkq2 hsq2 => ?_)
  replace hRd : Ew2 1 = .inr (6, [.ref (ad 2), .ref (ad 3), .ref (ad 5), .ref (ad 6), .ref (ad 8), .int (jI _), .int (jI _), .int (jI _)]) := hkq2
  replace hK := (hsq2 2 (by omega)).trans hK
  replace hT := (hsq2 3 (by omega)).trans hT
  replace hY := (hsq2 4 (by omega)).trans hY
  replace hB := (hsq2 5 (by omega)).trans hB
  replace hF : ∀ j : Nat, j ≠ 1 ∧ j ≠ 5 → Ew2 j = E0 j := fun j hj => (hsq2 j (by omega)).trans (hF j hj)
  refine J_aload_n (q := 6) X dX7_takeName_5 rfl rfl ?_
  refine J_aload_n (q := 7) X dX7_takeName_6 rfl rfl ?_
  refine J_get (q := 10) X dX7_takeName_7 fX7_12 hRd (by omega) rfl rfl ?_
  refine J_ldcS (q := 12) (w := 0) X dX7_takeName_10 (by decide) rfl ?_
  refine J_callP (q := 15) (jrV X mX7_95 dX7_takeName_12 (c_X8_isName hK hT hY htb (by decide) (by omega) (by omega)) hK (by omega) rfl rfl rfl rfl (Nat.le_of_ble_eq_true rfl) (by decide)) rfl ?_
  refine J_put (q := 18) (ty := .boolean) X dX7_takeName_15 fX7_99 rfl (by decide +kernel) (nrw_z (bI_bd _)) (fit_z (bI_bd _)) hRd (by omega) (Nat.le_of_ble_eq_true rfl) rfl (fun Ew15 hkq15 hsq15 => ?_)
  replace hRd : Ew15 1 = .inr (6, [.ref (ad 2), .ref (ad 3), .ref (ad 5), .ref (ad 6), .ref (ad 8), .int (jI _), .int (jI _), .int (jI _)]) := hkq15
  replace hK := (hsq15 2 (by omega)).trans hK
  replace hT := (hsq15 3 (by omega)).trans hT
  replace hY := (hsq15 4 (by omega)).trans hY
  replace hB := (hsq15 5 (by omega)).trans hB
  replace hF : ∀ j : Nat, j ≠ 1 ∧ j ≠ 5 → Ew15 j = E0 j := fun j hj => (hsq15 j (by omega)).trans (hF j hj)
  rw [bI_iff (show ((1 : Int) = 1 ∧ nmw tb a b 0) ↔ nmw tb a b 0 from ⟨fun z => z.2, fun z => ⟨rfl, z⟩⟩)] at hRd
  refine J_aload_n (q := 19) X dX7_takeName_18 rfl rfl ?_
  refine J_get (q := 22) X dX7_takeName_19 fX7_12 hRd (by omega) rfl rfl ?_
  refine J_ldcS (q := 24) (w := 1) X dX7_takeName_22 (by decide) rfl ?_
  refine J_callP (q := 27) (jrV X mX7_95 dX7_takeName_24 (c_X8_isName hK hT hY htb (by decide) (by omega) (by omega)) hK (by omega) rfl rfl rfl rfl (Nat.le_of_ble_eq_true rfl) (by decide)) rfl ?_
  refine J_if_eqB (q := 30) (tgt := 36) X dX7_takeName_27 (by decide) rfl (fun cq27 => ?_) (fun cq27 => ?_)
  · refine J_aload_n (q := 37) X dX7_takeName_36 rfl rfl ?_
    refine J_get (q := 40) X dX7_takeName_37 fX7_99 hRd (by omega) rfl rfl ?_
    refine J_if_ne (q := 43) (tgt := 55) X dX7_takeName_40 (by decide) rfl (by have := bI_bd (nmw tb a b 0); omega) (fun cq40 => ?_) (fun cq40 => ?_)
    · refine J_aload_n (q := 56) X dX7_takeName_55 rfl rfl ?_
      refine J_iconst (q := 57) X dX7_takeName_56 rfl ?_
      refine J_callI (q := 60) (jrV X mX7_105 dX7_takeName_57 (c_X7_goOnWith hRd hB) hRd (by omega) rfl rfl rfl rfl (Nat.le_of_ble_eq_true rfl) (by decide)) rfl (fun zq57 Ew57 hpq57 => ?_)
      obtain ⟨hzq57, kRd, kB, hsq57⟩ := hpq57
      replace hRd := kRd
      replace hB := kB
      replace hK := (hsq57 2 (by omega)).trans hK
      replace hT := (hsq57 3 (by omega)).trans hT
      replace hY := (hsq57 4 (by omega)).trans hY
      replace hF : ∀ j : Nat, j ≠ 1 ∧ j ≠ 5 → Ew57 j = E0 j := fun j hj => (hsq57 j (by omega)).trans (hF j hj)
      refine J_zret X R dX7_takeName_60 (nrw_z (by first | omega | exact bI_bd _)) ?_
      rw [hE0] at hF
      have hn1 : ¬ nmw tb a b 1 := fun z => cq27 ⟨rfl, z⟩
      have hok : okN tb a b := by
        first
          | exact Or.inr (Or.inr cq52.2)
          | (refine Or.inl ?_
             by_cases hq : nmw tb a b 0
             · exact hq
             · exfalso; apply cq40; exact bI_f hq)
      rw [bI_t hok, if_pos hok, if_neg hn1, if_pos hok]
      exact ⟨zq57, rfl, hzq57, hRd, hB, hF⟩
    · refine J_aload_n (q := 44) X dX7_takeName_43 rfl rfl ?_
      refine J_get (q := 47) X dX7_takeName_44 fX7_12 hRd (by omega) rfl rfl ?_
      refine J_ldcS (q := 49) (w := 2) X dX7_takeName_47 (by decide) rfl ?_
      refine J_callP (q := 52) (jrV X mX7_95 dX7_takeName_49 (c_X8_isName hK hT hY htb (by decide) (by omega) (by omega)) hK (by omega) rfl rfl rfl rfl (Nat.le_of_ble_eq_true rfl) (by decide)) rfl ?_
      refine J_if_eqB (q := 55) (tgt := 61) X dX7_takeName_52 (by decide) rfl (fun cq52 => ?_) (fun cq52 => ?_)
      · refine J_aload_n (q := 62) X dX7_takeName_61 rfl rfl ?_
        refine J_get (q := 65) X dX7_takeName_62 fX7_27 hRd (by omega) rfl rfl ?_
        refine J_iconst (q := 66) X dX7_takeName_65 rfl ?_
        refine J_aload_n (q := 67) X dX7_takeName_66 rfl rfl ?_
        refine J_get (q := 70) X dX7_takeName_67 fX7_12 hRd (by omega) rfl rfl ?_
        refine J_get (q := 73) X dX7_takeName_70 fX7_58 hK (by omega) rfl rfl ?_
        refine J_callI (q := 76) (jrV X mX7_61 dX7_takeName_73 (c_X0_stopAt hB) hB (by omega) rfl rfl rfl rfl (Nat.le_of_ble_eq_true rfl) (by decide)) rfl (fun zq73 Ew73 hpq73 => ?_)
        obtain ⟨hzq73, kB, hsq73⟩ := hpq73
        replace hB := kB
        replace hRd := (hsq73 1 (by omega)).trans hRd
        replace hK := (hsq73 2 (by omega)).trans hK
        replace hT := (hsq73 3 (by omega)).trans hT
        replace hY := (hsq73 4 (by omega)).trans hY
        replace hF : ∀ j : Nat, j ≠ 1 ∧ j ≠ 5 → Ew73 j = E0 j := fun j hj => (hsq73 j (by omega)).trans (hF j hj)
        refine J_zret X R dX7_takeName_76 (nrw_z (by first | omega | exact bI_bd _)) ?_
        rw [hE0] at hF
        have hno : ¬ okN tb a b := by
          rintro (z | z | z)
          · rw [bI_t z] at cq40; omega
          · exact cq27 ⟨rfl, z⟩
          · exact cq52 ⟨rfl, z⟩
        rw [bI_f hno, if_neg hno, if_neg hno]
        exact ⟨zq73, rfl, hzq73, hRd, hB, hF⟩
      · refine J_aload_n (q := 56) X dX7_takeName_55 rfl rfl ?_
        refine J_iconst (q := 57) X dX7_takeName_56 rfl ?_
        refine J_callI (q := 60) (jrV X mX7_105 dX7_takeName_57 (c_X7_goOnWith hRd hB) hRd (by omega) rfl rfl rfl rfl (Nat.le_of_ble_eq_true rfl) (by decide)) rfl (fun zq57 Ew57 hpq57 => ?_)
        obtain ⟨hzq57, kRd, kB, hsq57⟩ := hpq57
        replace hRd := kRd
        replace hB := kB
        replace hK := (hsq57 2 (by omega)).trans hK
        replace hT := (hsq57 3 (by omega)).trans hT
        replace hY := (hsq57 4 (by omega)).trans hY
        replace hF : ∀ j : Nat, j ≠ 1 ∧ j ≠ 5 → Ew57 j = E0 j := fun j hj => (hsq57 j (by omega)).trans (hF j hj)
        refine J_zret X R dX7_takeName_60 (nrw_z (by first | omega | exact bI_bd _)) ?_
        rw [hE0] at hF
        have hn1 : ¬ nmw tb a b 1 := fun z => cq27 ⟨rfl, z⟩
        have hok : okN tb a b := by
          first
            | exact Or.inr (Or.inr cq52.2)
            | (refine Or.inl ?_
               by_cases hq : nmw tb a b 0
               · exact hq
               · exfalso; apply cq40; exact bI_f hq)
        rw [bI_t hok, if_pos hok, if_neg hn1, if_pos hok]
        exact ⟨zq57, rfl, hzq57, hRd, hB, hF⟩
  · refine J_aload_n (q := 31) X dX7_takeName_30 rfl rfl ?_
    refine J_iconst (q := 32) X dX7_takeName_31 rfl ?_
    refine J_callI (q := 35) (jrV X mX7_105 dX7_takeName_32 (c_X7_goOnWith hRd hB) hRd (by omega) rfl rfl rfl rfl (Nat.le_of_ble_eq_true rfl) (by decide)) rfl (fun zq32 Ew32 hpq32 => ?_)
    obtain ⟨hzq32, kRd, kB, hsq32⟩ := hpq32
    replace hRd := kRd
    replace hB := kB
    replace hK := (hsq32 2 (by omega)).trans hK
    replace hT := (hsq32 3 (by omega)).trans hT
    replace hY := (hsq32 4 (by omega)).trans hY
    replace hF : ∀ j : Nat, j ≠ 1 ∧ j ≠ 5 → Ew32 j = E0 j := fun j hj => (hsq32 j (by omega)).trans (hF j hj)
    refine J_zret X R dX7_takeName_35 (nrw_z (by first | omega | exact bI_bd _)) ?_
    rw [hE0] at hF
    rw [bI_t (show okN tb a b from Or.inr (Or.inl cq27.2)), if_pos (show okN tb a b from Or.inr (Or.inl cq27.2)), if_pos cq27.2, if_pos (show okN tb a b from Or.inr (Or.inl cq27.2))]
    exact ⟨zq32, rfl, hzq32, hRd, hB, hF⟩

set_option maxRecDepth 100000 in
set_option maxHeartbeats 4000000 in
theorem c_X7_takeNumber {l : Launch} {Γ : JG} {ad : Nat → Nat} {E : Nat → va_E} {x mk ti k0 a b v : Int} {ma : Int → Int} {b0 b1 b2 b3 b4 : Int} (hRd : E 1 = .inr (6, [.ref (ad 2), .ref (ad 3), .ref (ad 5), .ref (ad 6), .ref (ad 8), .int (jI x), .int (jI mk), .int (jI ti)])) (hK : E 2 = .inr (7, [.ref (ad 3), .ref (ad 5), .int (jI k0), .int (jI a), .int (jI b), .int (jI v)])) (hB : E 5 = .inr (0, [.int (jI b0), .int (jI b1), .int (jI b2), .int (jI b3), .int (jI b4)])) (hMk : E 8 = aZ Γ 60 ma) (hmk : mk = 0 ∨ mk = 1) (hv : 0 ≤ v ∧ v ≤ 99) (hx : 1 ≤ x ∧ x ≤ 4) : JM l Γ yX7_takeNumber cX7_takeNumber 3 (some .boolean) 2 41 0 0 ad 95 E [.ref (ad 1)] (pI (fun z E' => z = bI (okW mk v) ∧ E' 1 = .inr (6, [.ref (ad 2), .ref (ad 3), .ref (ad 5), .ref (ad 6), .ref (ad 8), .int (jI (if okW mk v then (if mk = 1 then 3 else 4) else x)), .int (jI mk), .int (jI (if okW mk v ∧ mk ≠ 1 then v else ti))]) ∧ E' 5 = (if okW mk v then .inr (0, [.int (jI b0), .int (jI b1), .int (jI b2), .int (jI (b3 + 1)), .int (jI b4)]) else .inr (0, [.int (jI 3), .int (jI a), .int (jI b2), .int (jI b3), .int (jI b4)])) ∧ E' 8 = aZ Γ 60 (if okW mk v ∧ mk = 1 then iu ma v 1 else ma) ∧ ∀ j : Nat, j ≠ 1 ∧ j ≠ 5 ∧ j ≠ 8 → E' j = E j)) := by
  refine JM_intro (own := RX7) [some (.ref (ad 1)), none, none] rfl rfl rfl (Nat.le_of_ble_eq_true rfl) ?_
  intro Ω X R hin
  obtain ⟨E0, hE0⟩ : ∃ E0 : Nat → va_E, E0 = E := ⟨_, rfl⟩
  have hF : ∀ j : Nat, j ≠ 1 ∧ j ≠ 5 ∧ j ≠ 8 → E j = E0 j := fun _ _ => by rw [hE0]
  have jn28 : ∀ (lo hi : Int) (hlo : lo = if mk = 1 then 0 else 1) (hhi : hi = if mk = 1 then 59 else 9), J l Γ Ω 3 ad 95 0 0 E 28 [some (.ref (ad 1)), some (.int (jI lo)), some (.int (jI hi))] [] := by
    intro lo hi hlo hhi
    have hlb : 0 ≤ lo ∧ lo ≤ 1 := by rw [hlo]; split <;> omega
    have hhb : 9 ≤ hi ∧ hi ≤ 59 := by rw [hhi]; split <;> omega
    refine J_aload_n (q := 29) X dX7_takeNumber_28 rfl rfl ?_
    refine J_get (q := 32) X dX7_takeNumber_29 fX7_12 hRd (by omega) rfl rfl ?_
    refine J_get (q := 35) X dX7_takeNumber_32 fX7_111 hK (by omega) rfl rfl ?_
    refine J_iload_n (q := 36) X dX7_takeNumber_35 rfl rfl ?_
    refine J_icmp_lt (q := 39) (tgt := 50) X dX7_takeNumber_36 (by decide) rfl (by omega) (by omega) (fun cq36 => ?_) (fun cq36 => ?_)
    · refine J_aload_n (q := 51) X dX7_takeNumber_50 rfl rfl ?_
      refine J_get (q := 54) X dX7_takeNumber_51 fX7_27 hRd (by omega) rfl rfl ?_
      refine J_iconst (q := 55) X dX7_takeNumber_54 rfl ?_
      refine J_aload_n (q := 56) X dX7_takeNumber_55 rfl rfl ?_
      refine J_get (q := 59) X dX7_takeNumber_56 fX7_12 hRd (by omega) rfl rfl ?_
      refine J_get (q := 62) X dX7_takeNumber_59 fX7_58 hK (by omega) rfl rfl ?_
      refine J_callI (q := 65) (jrV X mX7_61 dX7_takeNumber_62 (c_X0_stopAt hB) hB (by omega) rfl rfl rfl rfl (Nat.le_of_ble_eq_true rfl) (by decide)) rfl (fun zq62 Ew62 hpq62 => ?_)
      obtain ⟨hzq62, kB, hsq62⟩ := hpq62
      replace hB := kB
      replace hRd := (hsq62 1 (by omega)).trans hRd
      replace hK := (hsq62 2 (by omega)).trans hK
      replace hMk := (hsq62 8 (by omega)).trans hMk
      replace hF : ∀ j : Nat, j ≠ 1 ∧ j ≠ 5 ∧ j ≠ 8 → Ew62 j = E0 j := fun j hj => (hsq62 j (by omega)).trans (hF j hj)
      refine J_zret X R dX7_takeNumber_65 (nrw_z (by first | omega | exact bI_bd _)) ?_
      rw [hE0] at hF
      have hno : ¬ okW mk v := by show ¬ (_ ∧ _); rw [← hlo, ← hhi]; omega
      rw [bI_f hno, if_neg hno, if_neg hno, if_neg (fun z => hno z.1), if_neg (fun z => hno z.1)]
      exact ⟨zq62, rfl, hzq62, hRd, hB, hMk, hF⟩
    · refine J_aload_n (q := 40) X dX7_takeNumber_39 rfl rfl ?_
      refine J_get (q := 43) X dX7_takeNumber_40 fX7_12 hRd (by omega) rfl rfl ?_
      refine J_get (q := 46) X dX7_takeNumber_43 fX7_111 hK (by omega) rfl rfl ?_
      refine J_iload_n (q := 47) X dX7_takeNumber_46 rfl rfl ?_
      refine J_icmp_le (q := 50) (tgt := 66) X dX7_takeNumber_47 (by decide) rfl (by omega) (by omega) (fun cq47 => ?_) (fun cq47 => ?_)
      · refine J_aload_n (q := 67) X dX7_takeNumber_66 rfl rfl ?_
        refine J_get (q := 70) X dX7_takeNumber_67 fX7_99 hRd (by omega) rfl rfl ?_
        refine J_if_eq (q := 73) (tgt := 92) X dX7_takeNumber_70 (by decide) rfl (by omega) (fun cq70 => ?_) (fun cq70 => ?_)
        · refine J_aload_n (q := 93) X dX7_takeNumber_92 rfl rfl ?_
          refine J_aload_n (q := 94) X dX7_takeNumber_93 rfl rfl ?_
          refine J_get (q := 97) X dX7_takeNumber_94 fX7_12 hRd (by omega) rfl rfl ?_
          refine J_get (q := 100) X dX7_takeNumber_97 fX7_111 hK (by omega) rfl rfl ?_
          refine J_put (q := 103) (ty := .int) X dX7_takeNumber_100 fX7_90 rfl (by decide +kernel) rfl rfl hRd (by omega) (Nat.le_of_ble_eq_true rfl) rfl (fun Ew100 hkq100 hsq100 => ?_)
          replace hRd : Ew100 1 = .inr (6, [.ref (ad 2), .ref (ad 3), .ref (ad 5), .ref (ad 6), .ref (ad 8), .int (jI _), .int (jI _), .int (jI _)]) := hkq100
          replace hK := (hsq100 2 (by omega)).trans hK
          replace hB := (hsq100 5 (by omega)).trans hB
          replace hMk := (hsq100 8 (by omega)).trans hMk
          replace hF : ∀ j : Nat, j ≠ 1 ∧ j ≠ 5 ∧ j ≠ 8 → Ew100 j = E0 j := fun j hj => (hsq100 j (by omega)).trans (hF j hj)
          refine J_aload_n (q := 104) X dX7_takeNumber_103 rfl rfl ?_
          refine J_iconst (q := 105) X dX7_takeNumber_104 rfl ?_
          refine J_callI (q := 108) (jrV X mX7_105 dX7_takeNumber_105 (c_X7_goOnWith hRd hB) hRd (by omega) rfl rfl rfl rfl (Nat.le_of_ble_eq_true rfl) (by decide)) rfl (fun zq105 Ew105 hpq105 => ?_)
          obtain ⟨hzq105, kRd, kB, hsq105⟩ := hpq105
          replace hRd := kRd
          replace hB := kB
          replace hK := (hsq105 2 (by omega)).trans hK
          replace hMk := (hsq105 8 (by omega)).trans hMk
          replace hF : ∀ j : Nat, j ≠ 1 ∧ j ≠ 5 ∧ j ≠ 8 → Ew105 j = E0 j := fun j hj => (hsq105 j (by omega)).trans (hF j hj)
          refine J_zret X R dX7_takeNumber_108 (nrw_z (by first | omega | exact bI_bd _)) ?_
          rw [hE0] at hF
          have hok : okW mk v := by show (_ ∧ _); rw [← hlo, ← hhi]; omega
          have hm1 : ¬ mk = 1 := by omega
          rw [bI_t hok, if_pos hok, if_neg hm1, if_pos hok, if_pos ⟨hok, hm1⟩, if_neg (fun z => hm1 z.2)]
          exact ⟨zq105, rfl, hzq105, hRd, hB, hMk, hF⟩
        · refine J_aload_n (q := 74) X dX7_takeNumber_73 rfl rfl ?_
          refine J_get (q := 77) X dX7_takeNumber_74 fX7_35 hRd (by omega) rfl rfl ?_
          refine J_aload_n (q := 78) X dX7_takeNumber_77 rfl rfl ?_
          refine J_get (q := 81) X dX7_takeNumber_78 fX7_12 hRd (by omega) rfl rfl ?_
          refine J_get (q := 84) X dX7_takeNumber_81 fX7_111 hK (by omega) rfl rfl ?_
          refine J_iconst (q := 85) X dX7_takeNumber_84 rfl ?_
          refine J_zast (q := 86) X dX7_takeNumber_85 hMk (by omega) (by omega) (by decide) (by omega) rfl (fun Ew85 hkq85 hsq85 => ?_)
          replace hMk := hkq85
          replace hRd := (hsq85 1 (by omega)).trans hRd
          replace hK := (hsq85 2 (by omega)).trans hK
          replace hB := (hsq85 5 (by omega)).trans hB
          replace hF : ∀ j : Nat, j ≠ 1 ∧ j ≠ 5 ∧ j ≠ 8 → Ew85 j = E0 j := fun j hj => (hsq85 j (by omega)).trans (hF j hj)
          refine J_aload_n (q := 87) X dX7_takeNumber_86 rfl rfl ?_
          refine J_iconst (q := 88) X dX7_takeNumber_87 rfl ?_
          refine J_callI (q := 91) (jrV X mX7_105 dX7_takeNumber_88 (c_X7_goOnWith hRd hB) hRd (by omega) rfl rfl rfl rfl (Nat.le_of_ble_eq_true rfl) (by decide)) rfl (fun zq88 Ew88 hpq88 => ?_)
          obtain ⟨hzq88, kRd, kB, hsq88⟩ := hpq88
          replace hRd := kRd
          replace hB := kB
          replace hK := (hsq88 2 (by omega)).trans hK
          replace hMk := (hsq88 8 (by omega)).trans hMk
          replace hF : ∀ j : Nat, j ≠ 1 ∧ j ≠ 5 ∧ j ≠ 8 → Ew88 j = E0 j := fun j hj => (hsq88 j (by omega)).trans (hF j hj)
          refine J_zret X R dX7_takeNumber_91 (nrw_z (by first | omega | exact bI_bd _)) ?_
          rw [hE0] at hF
          have hok : okW mk v := by show (_ ∧ _); rw [← hlo, ← hhi]; omega
          have hm1 : mk = 1 := by omega
          rw [bI_t hok, if_pos hok, if_pos hm1, if_pos hok, if_neg (fun z => z.2 hm1), if_pos ⟨hok, hm1⟩]
          exact ⟨zq88, rfl, hzq88, hRd, hB, hMk, hF⟩
      · refine J_aload_n (q := 51) X dX7_takeNumber_50 rfl rfl ?_
        refine J_get (q := 54) X dX7_takeNumber_51 fX7_27 hRd (by omega) rfl rfl ?_
        refine J_iconst (q := 55) X dX7_takeNumber_54 rfl ?_
        refine J_aload_n (q := 56) X dX7_takeNumber_55 rfl rfl ?_
        refine J_get (q := 59) X dX7_takeNumber_56 fX7_12 hRd (by omega) rfl rfl ?_
        refine J_get (q := 62) X dX7_takeNumber_59 fX7_58 hK (by omega) rfl rfl ?_
        refine J_callI (q := 65) (jrV X mX7_61 dX7_takeNumber_62 (c_X0_stopAt hB) hB (by omega) rfl rfl rfl rfl (Nat.le_of_ble_eq_true rfl) (by decide)) rfl (fun zq62 Ew62 hpq62 => ?_)
        obtain ⟨hzq62, kB, hsq62⟩ := hpq62
        replace hB := kB
        replace hRd := (hsq62 1 (by omega)).trans hRd
        replace hK := (hsq62 2 (by omega)).trans hK
        replace hMk := (hsq62 8 (by omega)).trans hMk
        replace hF : ∀ j : Nat, j ≠ 1 ∧ j ≠ 5 ∧ j ≠ 8 → Ew62 j = E0 j := fun j hj => (hsq62 j (by omega)).trans (hF j hj)
        refine J_zret X R dX7_takeNumber_65 (nrw_z (by first | omega | exact bI_bd _)) ?_
        rw [hE0] at hF
        have hno : ¬ okW mk v := by show ¬ (_ ∧ _); rw [← hlo, ← hhi]; omega
        rw [bI_f hno, if_neg hno, if_neg hno, if_neg (fun z => hno z.1), if_neg (fun z => hno z.1)]
        exact ⟨zq62, rfl, hzq62, hRd, hB, hMk, hF⟩
  refine J_aload_n (q := 1) X dX7_takeNumber_0 rfl rfl ?_
  refine J_get (q := 4) X dX7_takeNumber_1 fX7_99 hRd (by omega) rfl rfl ?_
  refine J_if_eq (q := 7) (tgt := 11) X dX7_takeNumber_4 (by decide) rfl (by omega) (fun cq4 => ?_) (fun cq4 => ?_)
  · refine J_iconst (q := 12) X dX7_takeNumber_11 rfl ?_
    refine J_istore_n (q := 13) X dX7_takeNumber_12 (by decide) rfl rfl ?_
    refine J_aload_n (q := 14) X dX7_takeNumber_13 rfl rfl ?_
    refine J_get (q := 17) X dX7_takeNumber_14 fX7_99 hRd (by omega) rfl rfl ?_
    refine J_if_eq (q := 20) (tgt := 25) X dX7_takeNumber_17 (by decide) rfl (by omega) (fun cq17 => ?_) (fun cq17 => ?_)
    · refine J_bipush (q := 27) X dX7_takeNumber_25 rfl (by decide) ?_
      refine J_istore_n (q := 28) X dX7_takeNumber_27 (by decide) rfl rfl ?_
      first
        | (exfalso; omega)
        | exact jn28 _ _ (by rw [if_neg (by omega)]; done) (by rw [if_neg (by omega)]; done)
        | exact jn28 _ _ (by rw [if_pos (by omega)]; done) (by rw [if_pos (by omega)]; done)
    · refine J_bipush (q := 22) X dX7_takeNumber_20 rfl (by decide) ?_
      refine J_goto (q := 27) X dX7_takeNumber_22 (by decide) ?_
      refine J_istore_n (q := 28) X dX7_takeNumber_27 (by decide) rfl rfl ?_
      first
        | (exfalso; omega)
        | exact jn28 _ _ (by rw [if_neg (by omega)]; done) (by rw [if_neg (by omega)]; done)
        | exact jn28 _ _ (by rw [if_pos (by omega)]; done) (by rw [if_pos (by omega)]; done)
  · refine J_iconst (q := 8) X dX7_takeNumber_7 rfl ?_
    refine J_goto (q := 12) X dX7_takeNumber_8 (by decide) ?_
    refine J_istore_n (q := 13) X dX7_takeNumber_12 (by decide) rfl rfl ?_
    refine J_aload_n (q := 14) X dX7_takeNumber_13 rfl rfl ?_
    refine J_get (q := 17) X dX7_takeNumber_14 fX7_99 hRd (by omega) rfl rfl ?_
    refine J_if_eq (q := 20) (tgt := 25) X dX7_takeNumber_17 (by decide) rfl (by omega) (fun cq17 => ?_) (fun cq17 => ?_)
    · refine J_bipush (q := 27) X dX7_takeNumber_25 rfl (by decide) ?_
      refine J_istore_n (q := 28) X dX7_takeNumber_27 (by decide) rfl rfl ?_
      first
        | (exfalso; omega)
        | exact jn28 _ _ (by rw [if_neg (by omega)]; done) (by rw [if_neg (by omega)]; done)
        | exact jn28 _ _ (by rw [if_pos (by omega)]; done) (by rw [if_pos (by omega)]; done)
    · refine J_bipush (q := 22) X dX7_takeNumber_20 rfl (by decide) ?_
      refine J_goto (q := 27) X dX7_takeNumber_22 (by decide) ?_
      refine J_istore_n (q := 28) X dX7_takeNumber_27 (by decide) rfl rfl ?_
      first
        | (exfalso; omega)
        | exact jn28 _ _ (by rw [if_neg (by omega)]; done) (by rw [if_neg (by omega)]; done)
        | exact jn28 _ _ (by rw [if_pos (by omega)]; done) (by rw [if_pos (by omega)]; done)

set_option maxRecDepth 100000 in
set_option maxHeartbeats 4000000 in
theorem c_X7_takeQuote {l : Launch} {Γ : JG} {ad : Nat → Nat} {E : Nat → va_E} {x mk ti k0 a b v n : Int} {f : Int → Int} {tl : Int} {tb : Int → Int} {b0 b1 b2 b3 b4 : Int} (hRd : E 1 = .inr (6, [.ref (ad 2), .ref (ad 3), .ref (ad 5), .ref (ad 6), .ref (ad 8), .int (jI x), .int (jI mk), .int (jI ti)])) (hK : E 2 = .inr (7, [.ref (ad 3), .ref (ad 5), .int (jI k0), .int (jI a), .int (jI b), .int (jI v)])) (hT : E 3 = .inr (5, [.ref (ad 4), .int (jI tl)])) (hY : E 4 = aI Γ 160 tb) (hB : E 5 = .inr (0, [.int (jI b0), .int (jI b1), .int (jI b2), .int (jI b3), .int (jI b4)])) (hD : E 6 = .inr (3, [.ref (ad 7), .int (jI n)])) (hDC : E 7 = aI Γ 60 f) (htb : TB tl tb) (hab : 0 ≤ a ∧ a + 2 ≤ b ∧ b ≤ tl) (hti : 1 ≤ ti ∧ ti ≤ 9) (hn : 0 ≤ n ∧ n ≤ 60) : JM l Γ yX7_takeQuote cX7_takeQuote 5 (some .boolean) 3 92 0 0 ad 95 E [.ref (ad 1)] (pI (fun z E' => z = bI (okC ti n a b) ∧ E' 1 = .inr (6, [.ref (ad 2), .ref (ad 3), .ref (ad 5), .ref (ad 6), .ref (ad 8), .int (jI (if okC ti n a b then 3 else x)), .int (jI mk), .int (jI ti)]) ∧ E' 5 = (if okC ti n a b then .inr (0, [.int (jI b0), .int (jI b1), .int (jI b2), .int (jI (b3 + 1)), .int (jI b4)]) else .inr (0, [.int (jI 5), .int (jI a), .int (jI b2), .int (jI b3), .int (jI b4)])) ∧ E' 6 = .inr (3, [.ref (ad 7), .int (jI (if okC ti n a b then n + ti * (b - a - 2) else n))]) ∧ E' 7 = aI Γ 60 (if okC ti n a b then apF f n tb (a + 1) (b - a - 2) (ti * (b - a - 2)) else f) ∧ ∀ j : Nat, j ≠ 1 ∧ j ≠ 5 ∧ j ≠ 6 ∧ j ≠ 7 → E' j = E j)) := by
  refine JM_intro (own := RX7) [some (.ref (ad 1)), none, none, none, none] rfl rfl rfl (Nat.le_of_ble_eq_true rfl) ?_
  intro Ω X R hin
  obtain ⟨E0, hE0⟩ : ∃ E0 : Nat → va_E, E0 = E := ⟨_, rfl⟩
  have hF : ∀ j : Nat, j ≠ 1 ∧ j ≠ 5 ∧ j ≠ 6 ∧ j ≠ 7 → E j = E0 j := fun _ _ => by rw [hE0]
  obtain ⟨htl, hbb⟩ := id htb
  obtain ⟨len, hlen⟩ : ∃ len : Int, len = b - a - 2 := ⟨_, rfl⟩
  have htot := mul_bd (a := ti) (b := len) (A := 9) (B := 160) (by omega) (by omega)
  refine J_aload_n (q := 1) X dX7_takeQuote_0 rfl rfl ?_
  refine J_get (q := 4) X dX7_takeQuote_1 fX7_12 hRd (by omega) rfl rfl ?_
  refine J_get (q := 7) X dX7_takeQuote_4 fX7_58 hK (by omega) rfl rfl ?_
  refine J_iconst (q := 8) X dX7_takeQuote_7 rfl ?_
  refine J_iadd (q := 9) X dX7_takeQuote_8 rfl ?_
  refine J_istore_n (q := 10) X dX7_takeQuote_9 (by decide) rfl rfl ?_
  refine J_aload_n (q := 11) X dX7_takeQuote_10 rfl rfl ?_
  refine J_get (q := 14) X dX7_takeQuote_11 fX7_12 hRd (by omega) rfl rfl ?_
  refine J_get (q := 17) X dX7_takeQuote_14 fX7_114 hK (by omega) rfl rfl ?_
  refine J_iconst (q := 18) X dX7_takeQuote_17 rfl ?_
  refine J_isub (q := 19) X dX7_takeQuote_18 rfl ?_
  refine J_istore_n (q := 20) X dX7_takeQuote_19 (by decide) rfl rfl ?_
  refine J_aload_n (q := 21) X dX7_takeQuote_20 rfl rfl ?_
  refine J_get (q := 24) X dX7_takeQuote_21 fX7_90 hRd (by omega) rfl rfl ?_
  refine J_iload_n (q := 25) X dX7_takeQuote_24 rfl rfl ?_
  refine J_iload_n (q := 26) X dX7_takeQuote_25 rfl rfl ?_
  refine J_isub (q := 27) X dX7_takeQuote_26 rfl ?_
  rw [show b - 1 - (a + 1) = len by omega]
  refine J_imul (q := 28) X dX7_takeQuote_27 rfl ?_
  refine J_aload_n (q := 29) X dX7_takeQuote_28 rfl rfl ?_
  refine J_get (q := 32) X dX7_takeQuote_29 fX7_31 hRd (by omega) rfl rfl ?_
  refine J_callP (q := 35) (jrV X mX7_117 dX7_takeQuote_32 (c_X3_room hD hDC (by omega) (by omega)) hD (by omega) rfl rfl rfl rfl (Nat.le_of_ble_eq_true rfl) (by decide)) rfl ?_
  refine J_icmp_le (q := 38) (tgt := 54) X dX7_takeQuote_35 (by decide) rfl (by omega) (by omega) (fun cq35 => ?_) (fun cq35 => ?_)
  · have hok : ti * len ≤ 60 - n := by omega
    refine J_iconst (q := 55) X dX7_takeQuote_54 rfl ?_
    refine J_istore_n (q := 56) X dX7_takeQuote_55 (by decide) rfl rfl ?_
    have lp56 : ∀ (m : Nat) (t : Int) (g : Int → Int) (E : Nat → va_E) (ht : 0 ≤ t ∧ t ≤ ti) (hg : ∀ j, g j = apF f n tb (a + 1) len (t * len) j) (hRd : E 1 = .inr (6, [.ref (ad 2), .ref (ad 3), .ref (ad 5), .ref (ad 6), .ref (ad 8), .int (jI x), .int (jI mk), .int (jI ti)])) (hK : E 2 = .inr (7, [.ref (ad 3), .ref (ad 5), .int (jI k0), .int (jI a), .int (jI b), .int (jI v)])) (hT : E 3 = .inr (5, [.ref (ad 4), .int (jI tl)])) (hY : E 4 = aI Γ 160 tb) (hB : E 5 = .inr (0, [.int (jI b0), .int (jI b1), .int (jI b2), .int (jI b3), .int (jI b4)])) (hD : E 6 = .inr (3, [.ref (ad 7), .int (jI (n + t * len))])) (hDC : E 7 = aI Γ 60 g) (hF : ∀ j : Nat, j ≠ 1 ∧ j ≠ 5 ∧ j ≠ 6 ∧ j ≠ 7 → E j = E0 j) (hm : ti - t + 1 ≤ (m : Int)), J l Γ Ω 5 ad 95 0 0 E 56 [some (.ref (ad 1)), some (.int (jI (a + 1))), some (.int (jI (b - 1))), some (.int (jI t)), none] [] := by
      intro m
      induction m with
      | zero => intro t g E ht hg hRd hK hT hY hB hD hDC hF hm; exfalso; omega
      | succ m ih56 =>
        intro t g E ht hg hRd hK hT hY hB hD hDC hF hm
        have htb1 := mul_bd (a := t) (b := len) (A := ti) (B := len) (by omega) (by omega)
        refine J_iload_n (q := 57) X dX7_takeQuote_56 rfl rfl ?_
        refine J_aload_n (q := 58) X dX7_takeQuote_57 rfl rfl ?_
        refine J_get (q := 61) X dX7_takeQuote_58 fX7_90 hRd (by omega) rfl rfl ?_
        refine J_icmp_ge (q := 64) (tgt := 109) X dX7_takeQuote_61 (by decide) rfl (by omega) (by omega) (fun cq61 => ?_) (fun cq61 => ?_)
        · refine J_aload_n (q := 110) X dX7_takeQuote_109 rfl rfl ?_
          refine J_iconst (q := 111) X dX7_takeQuote_110 rfl ?_
          refine J_callI (q := 114) (jrV X mX7_105 dX7_takeQuote_111 (c_X7_goOnWith hRd hB) hRd (by omega) rfl rfl rfl rfl (Nat.le_of_ble_eq_true rfl) (by decide)) rfl (fun zq111 Ew111 hpq111 => ?_)
          obtain ⟨hzq111, kRd, kB, hsq111⟩ := hpq111
          replace hRd := kRd
          replace hB := kB
          replace hK := (hsq111 2 (by omega)).trans hK
          replace hT := (hsq111 3 (by omega)).trans hT
          replace hY := (hsq111 4 (by omega)).trans hY
          replace hD := (hsq111 6 (by omega)).trans hD
          replace hDC := (hsq111 7 (by omega)).trans hDC
          replace hF : ∀ j : Nat, j ≠ 1 ∧ j ≠ 5 ∧ j ≠ 6 ∧ j ≠ 7 → Ew111 j = E0 j := fun j hj => (hsq111 j (by omega)).trans (hF j hj)
          refine J_zret X R dX7_takeQuote_114 (nrw_z (by first | omega | exact bI_bd _)) ?_
          rw [hE0] at hF
          have hyes : okC ti n a b := by show ti * (b - a - 2) ≤ 60 - n; rw [← hlen]; omega
          obtain rfl : t = ti := by omega
          rw [bI_t hyes, if_pos hyes, if_pos hyes, if_pos hyes, if_pos hyes, ← hlen]
          exact ⟨zq111, rfl, hzq111, hRd, hB, hD, by rw [hDC, show g = apF f n tb (a + 1) len (t * len) from funext hg], hF⟩
        · refine J_iload_n (q := 65) X dX7_takeQuote_64 rfl rfl ?_
          refine J_istore (q := 67) X dX7_takeQuote_65 (by decide) rfl rfl ?_
          have lp67 : ∀ (m2 : Nat) (u : Int) (g : Int → Int) (E : Nat → va_E) (hu : a + 1 ≤ u ∧ u ≤ b - 1) (hg2 : ∀ j, g j = apF f n tb (a + 1) len (t * len + (u - (a + 1))) j) (hRd : E 1 = .inr (6, [.ref (ad 2), .ref (ad 3), .ref (ad 5), .ref (ad 6), .ref (ad 8), .int (jI x), .int (jI mk), .int (jI ti)])) (hK : E 2 = .inr (7, [.ref (ad 3), .ref (ad 5), .int (jI k0), .int (jI a), .int (jI b), .int (jI v)])) (hT : E 3 = .inr (5, [.ref (ad 4), .int (jI tl)])) (hY : E 4 = aI Γ 160 tb) (hB : E 5 = .inr (0, [.int (jI b0), .int (jI b1), .int (jI b2), .int (jI b3), .int (jI b4)])) (hD : E 6 = .inr (3, [.ref (ad 7), .int (jI (n + t * len + (u - (a + 1))))])) (hDC : E 7 = aI Γ 60 g) (hF : ∀ j : Nat, j ≠ 1 ∧ j ≠ 5 ∧ j ≠ 6 ∧ j ≠ 7 → E j = E0 j) (hm2 : b - 1 - u + 1 ≤ (m2 : Int)), J l Γ Ω 5 ad 95 0 0 E 67 [some (.ref (ad 1)), some (.int (jI (a + 1))), some (.int (jI (b - 1))), some (.int (jI t)), some (.int (jI u))] [] := by
            intro m2
            induction m2 with
            | zero => intro u g E hu hg2 hRd hK hT hY hB hD hDC hF hm2; exfalso; omega
            | succ m2 ih67 =>
              intro u g E hu hg2 hRd hK hT hY hB hD hDC hF hm2
              have hsp : (t + 1) * len ≤ ti * len := Int.mul_le_mul_of_nonneg_right (by omega) (by omega)
              rw [Int.add_mul, Int.one_mul] at hsp
              refine J_iload (q := 69) X dX7_takeQuote_67 rfl rfl ?_
              refine J_iload_n (q := 70) X dX7_takeQuote_69 rfl rfl ?_
              refine J_icmp_ge (q := 73) (tgt := 103) X dX7_takeQuote_70 (by decide) rfl (by omega) (by omega) (fun cq70 => ?_) (fun cq70 => ?_)
              · refine J_iinc (q := 106) X dX7_takeQuote_103 rfl (by decide) rfl rfl ?_
                refine J_goto (q := 56) X dX7_takeQuote_106 (by decide) ?_
                refine J_kill 4 ?_
                exact ih56 _ _ _ (by omega) (fun j => by rw [hg2 j, show (t + 1) * len = t * len + len by rw [Int.add_mul, Int.one_mul]]; rw [show t * len + (u - (a + 1)) = t * len + len by omega]) hRd hK hT hY hB (by rw [show n + (t + 1) * len = n + t * len + (u - (a + 1)) by rw [Int.add_mul, Int.one_mul]; omega]; exact hD) hDC hF (by omega)
              · refine J_aload_n (q := 74) X dX7_takeQuote_73 rfl rfl ?_
                refine J_get (q := 77) X dX7_takeQuote_74 fX7_31 hRd (by omega) rfl rfl ?_
                refine J_aload_n (q := 78) X dX7_takeQuote_77 rfl rfl ?_
                refine J_get (q := 81) X dX7_takeQuote_78 fX7_31 hRd (by omega) rfl rfl ?_
                refine J_get (q := 84) X dX7_takeQuote_81 fX7_121 hD (by omega) rfl rfl ?_
                refine J_aload_n (q := 85) X dX7_takeQuote_84 rfl rfl ?_
                refine J_get (q := 88) X dX7_takeQuote_85 fX7_22 hRd (by omega) rfl rfl ?_
                refine J_get (q := 91) X dX7_takeQuote_88 fX7_124 hT (by omega) rfl rfl ?_
                refine J_iload (q := 93) X dX7_takeQuote_91 rfl rfl ?_
                refine J_iald (q := 94) X dX7_takeQuote_93 hY (by omega) (by omega) (by decide) rfl ?_
                refine J_callV (q := 97) (jrV X mX7_128 dX7_takeQuote_94 (c_X3_bringIn hD hDC (by omega) (by omega) (by omega)) hD (by omega) rfl rfl rfl rfl (Nat.le_of_ble_eq_true rfl) (by decide)) rfl (fun Ew94 hpq94 => ?_)
                obtain ⟨kD, kDC, hsq94⟩ := hpq94
                replace hD := kD
                replace hDC := kDC
                replace hRd := (hsq94 1 (by omega)).trans hRd
                replace hK := (hsq94 2 (by omega)).trans hK
                replace hT := (hsq94 3 (by omega)).trans hT
                replace hY := (hsq94 4 (by omega)).trans hY
                replace hB := (hsq94 5 (by omega)).trans hB
                replace hF : ∀ j : Nat, j ≠ 1 ∧ j ≠ 5 ∧ j ≠ 6 ∧ j ≠ 7 → Ew94 j = E0 j := fun j hj => (hsq94 j (by omega)).trans (hF j hj)
                refine J_iinc (q := 100) X dX7_takeQuote_97 rfl (by decide) rfl rfl ?_
                refine J_goto (q := 67) X dX7_takeQuote_100 (by decide) ?_
                refine ih67 _ _ _ (by omega) (fun j => ?_) hRd hK hT hY hB (by rw [show n + t * len + (u + 1 - (a + 1)) = n + t * len + (u - (a + 1)) + 1 by omega]; exact hD) hDC hF (by omega)
                simp only [iu, icp]
                by_cases hj : j = n + t * len + (u - (a + 1))
                · rw [if_pos hj]
                  unfold apF
                  rw [if_pos (by omega), show j - n = t * len + (u - (a + 1)) by omega, ap_mod (by omega) (by omega), show a + 1 + (u - (a + 1)) = u by omega]
                · rw [if_neg hj, if_neg (by omega), hg2 j]
                  unfold apF
                  by_cases hq : n ≤ j ∧ j < n + (t * len + (u - (a + 1)))
                  · rw [if_pos hq, if_pos (by omega)]
                  · rw [if_neg hq, if_neg (by omega)]
          exact lp67 300 _ _ _ (by omega) (fun j => by rw [hg j, Int.sub_self, Int.add_zero]) hRd hK hT hY hB (by rw [Int.sub_self, Int.add_zero]; exact hD) hDC hF (by omega)
    exact lp56 100 _ _ _ (by omega) (fun j => by unfold apF; rw [Int.zero_mul, if_neg (by omega)]) hRd hK hT hY hB (by rw [Int.zero_mul, Int.add_zero]; exact hD) hDC hF (by omega)
  · refine J_aload_n (q := 39) X dX7_takeQuote_38 rfl rfl ?_
    refine J_get (q := 42) X dX7_takeQuote_39 fX7_27 hRd (by omega) rfl rfl ?_
    refine J_iconst (q := 43) X dX7_takeQuote_42 rfl ?_
    refine J_aload_n (q := 44) X dX7_takeQuote_43 rfl rfl ?_
    refine J_get (q := 47) X dX7_takeQuote_44 fX7_12 hRd (by omega) rfl rfl ?_
    refine J_get (q := 50) X dX7_takeQuote_47 fX7_58 hK (by omega) rfl rfl ?_
    refine J_callI (q := 53) (jrV X mX7_61 dX7_takeQuote_50 (c_X0_stopAt hB) hB (by omega) rfl rfl rfl rfl (Nat.le_of_ble_eq_true rfl) (by decide)) rfl (fun zq50 Ew50 hpq50 => ?_)
    obtain ⟨hzq50, kB, hsq50⟩ := hpq50
    replace hB := kB
    replace hRd := (hsq50 1 (by omega)).trans hRd
    replace hK := (hsq50 2 (by omega)).trans hK
    replace hT := (hsq50 3 (by omega)).trans hT
    replace hY := (hsq50 4 (by omega)).trans hY
    replace hD := (hsq50 6 (by omega)).trans hD
    replace hDC := (hsq50 7 (by omega)).trans hDC
    replace hF : ∀ j : Nat, j ≠ 1 ∧ j ≠ 5 ∧ j ≠ 6 ∧ j ≠ 7 → Ew50 j = E0 j := fun j hj => (hsq50 j (by omega)).trans (hF j hj)
    refine J_zret X R dX7_takeQuote_53 (nrw_z (by first | omega | exact bI_bd _)) ?_
    rw [hE0] at hF
    have hno : ¬ okC ti n a b := by show ¬ (ti * (b - a - 2) ≤ 60 - n); rw [← hlen]; omega
    rw [bI_f hno, if_neg hno, if_neg hno, if_neg hno, if_neg hno]
    exact ⟨zq50, rfl, hzq50, hRd, hB, hD, hDC, hF⟩

set_option maxRecDepth 100000 in
set_option maxHeartbeats 4000000 in
theorem c_X7_takeMarks {l : Launch} {Γ : JG} {ad : Nat → Nat} {E : Nat → va_E} {x mk ti n tl : Int} {f ma : Int → Int} {b0 b1 b2 b3 b4 : Int} (hRd : E 1 = .inr (6, [.ref (ad 2), .ref (ad 3), .ref (ad 5), .ref (ad 6), .ref (ad 8), .int (jI x), .int (jI mk), .int (jI ti)])) (hT : E 3 = .inr (5, [.ref (ad 4), .int (jI tl)])) (hB : E 5 = .inr (0, [.int (jI b0), .int (jI b1), .int (jI b2), .int (jI b3), .int (jI b4)])) (hD : E 6 = .inr (3, [.ref (ad 7), .int (jI n)])) (hDC : E 7 = aI Γ 60 f) (hMk : E 8 = aZ Γ 60 ma) (hn : 0 ≤ n ∧ n ≤ 60) (htl : 0 ≤ tl ∧ tl ≤ 160) (hma : ∀ j, 0 ≤ j → j < 60 → ma j = 0 ∨ ma j = 1) : JM l Γ yX7_takeMarks cX7_takeMarks 2 (some .boolean) 2 43 0 0 ad 95 E [.ref (ad 1)] (pI (fun z E' => z = bI (okM ma f n) ∧ E' 5 = (if okM ma f n then .inr (0, [.int (jI b0), .int (jI b1), .int (jI b2), .int (jI b3), .int (jI b4)]) else .inr (0, [.int (jI 6), .int (jI tl), .int (jI b2), .int (jI b3), .int (jI b4)])) ∧ (∃ g : Int → Int, E' 7 = aI Γ 60 g ∧ (okM ma f n → ∀ j, g j = mkF ma f j)) ∧ ∀ j : Nat, j ≠ 5 ∧ j ≠ 7 → E' j = E j)) := by
  refine JM_intro (own := RX7) [some (.ref (ad 1)), none] rfl rfl rfl (Nat.le_of_ble_eq_true rfl) ?_
  intro Ω X R hin
  obtain ⟨E0, hE0⟩ : ∃ E0 : Nat → va_E, E0 = E := ⟨_, rfl⟩
  have hF : ∀ j : Nat, j ≠ 5 ∧ j ≠ 7 → E j = E0 j := fun _ _ => by rw [hE0]
  refine J_iconst (q := 1) X dX7_takeMarks_0 rfl ?_
  refine J_istore_n (q := 2) X dX7_takeMarks_1 (by decide) rfl rfl ?_
  have lp2 : ∀ (m : Nat) (i : Int) (g : Int → Int) (E : Nat → va_E) (hi : 0 ≤ i ∧ i ≤ 60) (hsc : sc (fun i => okP ma f n i) 60 i = sc (fun i => okP ma f n i) 60 0) (hg : ∀ j, g j = if 0 ≤ j ∧ j < i ∧ ma j ≠ 0 then f j % 128 + 128 else f j) (hRd : E 1 = .inr (6, [.ref (ad 2), .ref (ad 3), .ref (ad 5), .ref (ad 6), .ref (ad 8), .int (jI x), .int (jI mk), .int (jI ti)])) (hT : E 3 = .inr (5, [.ref (ad 4), .int (jI tl)])) (hB : E 5 = .inr (0, [.int (jI b0), .int (jI b1), .int (jI b2), .int (jI b3), .int (jI b4)])) (hD : E 6 = .inr (3, [.ref (ad 7), .int (jI n)])) (hDC : E 7 = aI Γ 60 g) (hMk : E 8 = aZ Γ 60 ma) (hF : ∀ j : Nat, j ≠ 5 ∧ j ≠ 7 → E j = E0 j) (hm : 60 - i + 1 ≤ (m : Int)), J l Γ Ω 2 ad 95 0 0 E 2 [some (.ref (ad 1)), some (.int (jI i))] [] := by
    intro m
    induction m with
    | zero => intro i g E hi hsc hg hRd hT hB hD hDC hMk hF hm; exfalso; omega
    | succ m ih2 =>
      intro i g E hi hsc hg hRd hT hB hD hDC hMk hF hm
      have hgi : g i = f i := by rw [hg i, if_neg (by omega)]
      refine J_iload_n (q := 3) X dX7_takeMarks_2 rfl rfl ?_
      refine J_bipush (q := 5) X dX7_takeMarks_3 rfl (by decide) ?_
      refine J_icmp_ge (q := 8) (tgt := 74) X dX7_takeMarks_5 (by decide) rfl (by omega) (by omega) (fun cq5 => ?_) (fun cq5 => ?_)
      · refine J_iconst (q := 75) X dX7_takeMarks_74 rfl ?_
        refine J_zret X R dX7_takeMarks_75 (nrw_z (by first | omega | exact bI_bd _)) ?_
        rw [hE0] at hF
        obtain rfl : i = 60 := by omega
        have hyes : okM ma f n := by show sc (fun i => okP ma f n i) 60 0 = 60; rw [← hsc, sc_stop (P := (fun i => okP ma f n i)) (by omega)]
        rw [bI_t hyes, if_pos hyes]
        exact ⟨1, rfl, rfl, hB, ⟨g, hDC, fun _ j => hg j⟩, hF⟩
      · refine J_aload_n (q := 9) X dX7_takeMarks_8 rfl rfl ?_
        refine J_get (q := 12) X dX7_takeMarks_9 fX7_35 hRd (by omega) rfl rfl ?_
        refine J_iload_n (q := 13) X dX7_takeMarks_12 rfl rfl ?_
        refine J_zald (q := 14) X dX7_takeMarks_13 hMk (by omega) (by omega) (by decide) rfl ?_
        refine J_if_eq (q := 17) (tgt := 68) X dX7_takeMarks_14 (by decide) rfl (by have := hma i hi.1 (by omega); omega) (fun cq14 => ?_) (fun cq14 => ?_)
        · refine J_iinc (q := 71) X dX7_takeMarks_68 rfl (by decide) rfl rfl ?_
          refine J_goto (q := 2) X dX7_takeMarks_71 (by decide) ?_
          first
            | (refine ih2 _ _ _ (by omega) (by rw [sc_go (P := (fun i => okP ma f n i)) (by omega) (Or.inl cq14)]; exact hsc) (fun j => ?_) hRd hT hB hD hDC hMk hF (by omega)
               rw [hg j]
               by_cases hj : j = i
               · rw [hj, if_neg (by omega), if_neg (by omega)]
               · by_cases hq : 0 ≤ j ∧ j < i ∧ ma j ≠ 0
                 · rw [if_pos hq, if_pos (by omega)]
                 · rw [if_neg hq, if_neg (by omega)])
            | (refine ih2 _ _ _ (by omega) (by rw [sc_go (P := (fun i => okP ma f n i)) (by omega) (Or.inr ⟨by omega, by rw [hgi] at cq39; exact cq39⟩)]; exact hsc) (fun j => ?_) hRd hT hB hD hDC hMk hF (by omega)
               simp only [iu]
               by_cases hj : j = i
               · rw [if_pos hj, hj, if_pos (by omega), hgi]; omega
               · rw [if_neg hj, hg j]
                 by_cases hq : 0 ≤ j ∧ j < i ∧ ma j ≠ 0
                 · rw [if_pos hq, if_pos (by omega)]
                 · rw [if_neg hq, if_neg (by omega)])
        · refine J_aload_n (q := 18) X dX7_takeMarks_17 rfl rfl ?_
          refine J_get (q := 21) X dX7_takeMarks_18 fX7_31 hRd (by omega) rfl rfl ?_
          refine J_iload_n (q := 22) X dX7_takeMarks_21 rfl rfl ?_
          refine J_callP (q := 25) (jrV X mX7_135 dX7_takeMarks_22 (c_X3_hasSign hD hDC (by omega) (by omega) (by omega)) hD (by omega) rfl rfl rfl rfl (Nat.le_of_ble_eq_true rfl) (by decide)) rfl ?_
          refine J_if_eqB (q := 28) (tgt := 42) X dX7_takeMarks_25 (by decide) rfl (fun cq25 => ?_) (fun cq25 => ?_)
          · refine J_aload_n (q := 43) X dX7_takeMarks_42 rfl rfl ?_
            refine J_get (q := 46) X dX7_takeMarks_43 fX7_27 hRd (by omega) rfl rfl ?_
            refine J_bipush (q := 48) X dX7_takeMarks_46 rfl (by decide) ?_
            refine J_aload_n (q := 49) X dX7_takeMarks_48 rfl rfl ?_
            refine J_get (q := 52) X dX7_takeMarks_49 fX7_22 hRd (by omega) rfl rfl ?_
            refine J_get (q := 55) X dX7_takeMarks_52 fX7_68 hT (by omega) rfl rfl ?_
            refine J_callI (q := 58) (jrV X mX7_61 dX7_takeMarks_55 (c_X0_stopAt hB) hB (by omega) rfl rfl rfl rfl (Nat.le_of_ble_eq_true rfl) (by decide)) rfl (fun zq55 Ew55 hpq55 => ?_)
            obtain ⟨hzq55, kB, hsq55⟩ := hpq55
            replace hB := kB
            replace hRd := (hsq55 1 (by omega)).trans hRd
            replace hT := (hsq55 3 (by omega)).trans hT
            replace hD := (hsq55 6 (by omega)).trans hD
            replace hDC := (hsq55 7 (by omega)).trans hDC
            replace hMk := (hsq55 8 (by omega)).trans hMk
            replace hF : ∀ j : Nat, j ≠ 5 ∧ j ≠ 7 → Ew55 j = E0 j := fun j hj => (hsq55 j (by omega)).trans (hF j hj)
            refine J_zret X R dX7_takeMarks_58 (nrw_z (by first | omega | exact bI_bd _)) ?_
            rw [hE0] at hF
            have hno : ¬ okM ma f n := by
              rw [sc_stop (P := (fun i => okP ma f n i)) (fun z => by rcases z.2 with z2 | z2 <;> first | omega | (exact cq25 (by omega)) | (rw [hgi] at cq39; exact cq39 z2.2))] at hsc
              intro z; have z1 : sc (fun i => okP ma f n i) 60 0 = 60 := z; omega
            rw [bI_f hno, if_neg hno]
            exact ⟨zq55, rfl, hzq55, hB, ⟨g, hDC, fun z => absurd z hno⟩, hF⟩
          · refine J_aload_n (q := 29) X dX7_takeMarks_28 rfl rfl ?_
            refine J_get (q := 32) X dX7_takeMarks_29 fX7_31 hRd (by omega) rfl rfl ?_
            refine J_iload_n (q := 33) X dX7_takeMarks_32 rfl rfl ?_
            refine J_callP (q := 36) (jrV X mX7_138 dX7_takeMarks_33 (c_X3_byteAt hD hDC (by omega) (by omega) (by omega)) hD (by omega) rfl rfl rfl rfl (Nat.le_of_ble_eq_true rfl) (by decide)) rfl ?_
            refine J_callP (q := 39) (jrS X mX7_142 dX7_takeMarks_36 (c_X5_opens (by omega)) rfl rfl (Nat.le_of_ble_eq_true rfl) (by decide)) rfl ?_
            refine J_if_neB (q := 42) (tgt := 59) X dX7_takeMarks_39 (by decide) rfl (fun cq39 => ?_) (fun cq39 => ?_)
            · refine J_aload_n (q := 60) X dX7_takeMarks_59 rfl rfl ?_
              refine J_get (q := 63) X dX7_takeMarks_60 fX7_31 hRd (by omega) rfl rfl ?_
              refine J_iload_n (q := 64) X dX7_takeMarks_63 rfl rfl ?_
              refine J_iconst (q := 65) X dX7_takeMarks_64 rfl ?_
              refine J_callV (q := 68) (jrV X mX7_147 dX7_takeMarks_65 (c_X3_setMark hD hDC (by omega) (by omega) (by omega) (by omega)) hD (by omega) rfl rfl rfl rfl (Nat.le_of_ble_eq_true rfl) (by decide)) rfl (fun Ew65 hpq65 => ?_)
              obtain ⟨kDC, hsq65⟩ := hpq65
              replace hDC := kDC
              replace hRd := (hsq65 1 (by omega)).trans hRd
              replace hT := (hsq65 3 (by omega)).trans hT
              replace hB := (hsq65 5 (by omega)).trans hB
              replace hD := (hsq65 6 (by omega)).trans hD
              replace hMk := (hsq65 8 (by omega)).trans hMk
              replace hF : ∀ j : Nat, j ≠ 5 ∧ j ≠ 7 → Ew65 j = E0 j := fun j hj => (hsq65 j (by omega)).trans (hF j hj)
              refine J_iinc (q := 71) X dX7_takeMarks_68 rfl (by decide) rfl rfl ?_
              refine J_goto (q := 2) X dX7_takeMarks_71 (by decide) ?_
              first
                | (refine ih2 _ _ _ (by omega) (by rw [sc_go (P := (fun i => okP ma f n i)) (by omega) (Or.inl cq14)]; exact hsc) (fun j => ?_) hRd hT hB hD hDC hMk hF (by omega)
                   rw [hg j]
                   by_cases hj : j = i
                   · rw [hj, if_neg (by omega), if_neg (by omega)]
                   · by_cases hq : 0 ≤ j ∧ j < i ∧ ma j ≠ 0
                     · rw [if_pos hq, if_pos (by omega)]
                     · rw [if_neg hq, if_neg (by omega)])
                | (refine ih2 _ _ _ (by omega) (by rw [sc_go (P := (fun i => okP ma f n i)) (by omega) (Or.inr ⟨by omega, by rw [hgi] at cq39; exact cq39⟩)]; exact hsc) (fun j => ?_) hRd hT hB hD hDC hMk hF (by omega)
                   simp only [iu]
                   by_cases hj : j = i
                   · rw [if_pos hj, hj, if_pos (by omega), hgi]; omega
                   · rw [if_neg hj, hg j]
                     by_cases hq : 0 ≤ j ∧ j < i ∧ ma j ≠ 0
                     · rw [if_pos hq, if_pos (by omega)]
                     · rw [if_neg hq, if_neg (by omega)])
            · refine J_aload_n (q := 43) X dX7_takeMarks_42 rfl rfl ?_
              refine J_get (q := 46) X dX7_takeMarks_43 fX7_27 hRd (by omega) rfl rfl ?_
              refine J_bipush (q := 48) X dX7_takeMarks_46 rfl (by decide) ?_
              refine J_aload_n (q := 49) X dX7_takeMarks_48 rfl rfl ?_
              refine J_get (q := 52) X dX7_takeMarks_49 fX7_22 hRd (by omega) rfl rfl ?_
              refine J_get (q := 55) X dX7_takeMarks_52 fX7_68 hT (by omega) rfl rfl ?_
              refine J_callI (q := 58) (jrV X mX7_61 dX7_takeMarks_55 (c_X0_stopAt hB) hB (by omega) rfl rfl rfl rfl (Nat.le_of_ble_eq_true rfl) (by decide)) rfl (fun zq55 Ew55 hpq55 => ?_)
              obtain ⟨hzq55, kB, hsq55⟩ := hpq55
              replace hB := kB
              replace hRd := (hsq55 1 (by omega)).trans hRd
              replace hT := (hsq55 3 (by omega)).trans hT
              replace hD := (hsq55 6 (by omega)).trans hD
              replace hDC := (hsq55 7 (by omega)).trans hDC
              replace hMk := (hsq55 8 (by omega)).trans hMk
              replace hF : ∀ j : Nat, j ≠ 5 ∧ j ≠ 7 → Ew55 j = E0 j := fun j hj => (hsq55 j (by omega)).trans (hF j hj)
              refine J_zret X R dX7_takeMarks_58 (nrw_z (by first | omega | exact bI_bd _)) ?_
              rw [hE0] at hF
              have hno : ¬ okM ma f n := by
                rw [sc_stop (P := (fun i => okP ma f n i)) (fun z => by rcases z.2 with z2 | z2 <;> first | omega | (exact cq25 (by omega)) | (rw [hgi] at cq39; exact cq39 z2.2))] at hsc
                intro z; have z1 : sc (fun i => okP ma f n i) 60 0 = 60 := z; omega
              rw [bI_f hno, if_neg hno]
              exact ⟨zq55, rfl, hzq55, hB, ⟨g, hDC, fun z => absurd z hno⟩, hF⟩
  exact lp2 100 _ _ _ (by omega) rfl (fun j => by rw [if_neg (by omega)]) hRd hT hB hD hDC hMk hF (by omega)
