set_option maxRecDepth 100000 in
set_option maxHeartbeats 4000000 in
theorem c_X9_undo {l : Launch} {Γ : JG} {ad : Nat → Nat} {E : Nat → va_E} {s : KS} (hc : KI Γ ad E s) : JM l Γ yX9_undo cX9_undo 1 (some .int) 5 107 0 0 ad 95 E [.ref (ad 0)] (pI (fun z E' => z = (qUndo s).1 ∧ KI Γ ad E' (qUndo s).2 ∧ ∀ j : Nat, 78 ≤ j → E' j = E j)) := by
  refine JM_intro (own := RX9) [some (.ref (ad 0))] rfl rfl rfl (Nat.le_of_ble_eq_true rfl) ?_
  intro Ω X R hin
  obtain ⟨E0, hE0⟩ : ∃ E0 : Nat → va_E, E0 = E := ⟨_, rfl⟩
  have hF : ∀ j : Nat, 78 ≤ j → E j = E0 j := fun _ _ => by rw [hE0]
  obtain ⟨hj, hk⟩ := id hc
  obtain ⟨hk0, -⟩ := id hk
  obtain ⟨x, mk, ti, k0, ka, kb, kv, dm, b1, df, ma, pa, al, hp, de, sl, le, hi, hFk, hRd, hK, hT, hY, hBl, hDr, hDC, hMk, hB, hR, hC, hP, hA, hH, hD, hS, hV, hZ, hHs, hSt, hHR, hHC, hIm, hIR, hIC, hKp, hSh, hSR, hSC, hdm, hmk, hQ⟩ := hj
  have hv := hk0.hv
  obtain ⟨hn, -⟩ := id hv
  have ho := hk0.ho
  have htb := hk0.htb
  obtain ⟨htl, -⟩ := id htb
  have hb := hk0.hb
  obtain ⟨hpa, hal, hde, hsl, hle, hhi⟩ := id hQ
  have hd0 : de 0 = 0 := by rw [hde 0 (by omega) (by omega)]; rfl
  have hs0 : sl 0 = 0 := by rw [hsl 0 (by omega) (by omega)]; rfl
  refine J_aload_n (q := 1) X dX9_undo_0 rfl rfl ?_
  refine J_get (q := 4) X dX9_undo_1 fX9_36 hFk (by omega) rfl rfl ?_
  refine J_get (q := 7) X dX9_undo_4 fX9_112 hHs (by omega) rfl rfl ?_
  refine J_iconst (q := 8) X dX9_undo_7 rfl ?_
  refine J_icmp_ge (q := 11) (tgt := 14) X dX9_undo_8 (by decide) rfl (by omega) (by omega) (fun cq8 => ?_) (fun cq8 => ?_)
  · have hPz := hHR ((s.o + (s.p - 1)) % 21).toNat (by omega)
    have hPc := hHC ((s.o + (s.p - 1)) % 21).toNat (by omega)
    refine J_aload_n (q := 15) X dX9_undo_14 rfl rfl ?_
    refine J_get (q := 18) X dX9_undo_15 fX9_32 hFk (by omega) rfl rfl ?_
    refine J_aload_n (q := 19) X dX9_undo_18 rfl rfl ?_
    refine J_get (q := 22) X dX9_undo_19 fX9_36 hFk (by omega) rfl rfl ?_
    refine J_callR (q := 25) (jrV X mX9_225 dX9_undo_22 (c_X2_stepBack hHs hSt (by omega)) hHs (by omega) rfl rfl rfl rfl (Nat.le_of_ble_eq_true rfl) (by decide)) rfl (fun Ew22 hpq22 => ?_)
    obtain ⟨kHs, hsq22⟩ := hpq22
    replace hHs := kHs
    replace hFk := (hsq22 0 (by omega)).trans hFk
    replace hRd := (hsq22 1 (by omega)).trans hRd
    replace hK := (hsq22 2 (by omega)).trans hK
    replace hT := (hsq22 3 (by omega)).trans hT
    replace hY := (hsq22 4 (by omega)).trans hY
    replace hBl := (hsq22 5 (by omega)).trans hBl
    replace hDr := (hsq22 6 (by omega)).trans hDr
    replace hDC := (hsq22 7 (by omega)).trans hDC
    replace hMk := (hsq22 8 (by omega)).trans hMk
    replace hB := (hsq22 9 (by omega)).trans hB
    replace hR := (hsq22 10 (by omega)).trans hR
    replace hC := (hsq22 11 (by omega)).trans hC
    replace hP := (hsq22 12 (by omega)).trans hP
    replace hA := (hsq22 13 (by omega)).trans hA
    replace hH := (hsq22 14 (by omega)).trans hH
    replace hD := (hsq22 15 (by omega)).trans hD
    replace hS := (hsq22 16 (by omega)).trans hS
    replace hV := (hsq22 17 (by omega)).trans hV
    replace hZ := (hsq22 18 (by omega)).trans hZ
    replace hSt := (hsq22 20 (by omega)).trans hSt
    replace hHR := (fun i hi => (hsq22 (21 + 2 * i) (by omega)).trans (hHR i hi))
    replace hHC := (fun i hi => (hsq22 (22 + 2 * i) (by omega)).trans (hHC i hi))
    replace hIm := (hsq22 63 (by omega)).trans hIm
    replace hIR := (fun i hi => (hsq22 (64 + 2 * i) (by omega)).trans (hIR i hi))
    replace hIC := (fun i hi => (hsq22 (65 + 2 * i) (by omega)).trans (hIC i hi))
    replace hKp := (hsq22 68 (by omega)).trans hKp
    replace hSh := (hsq22 69 (by omega)).trans hSh
    replace hSR := (fun i hi => (hsq22 (70 + 2 * i) (by omega)).trans (hSR i hi))
    replace hSC := (fun i hi => (hsq22 (71 + 2 * i) (by omega)).trans (hSC i hi))
    replace hPz := (hsq22 (21 + 2 * ((s.o + (s.p - 1)) % 21).toNat) (by omega)).trans hPz
    replace hPc := (hsq22 (22 + 2 * ((s.o + (s.p - 1)) % 21).toNat) (by omega)).trans hPc
    replace hF : ∀ j : Nat, 78 ≤ j → Ew22 j = E0 j := fun j hj => (hsq22 j (by omega)).trans (hF j hj)
    refine J_callV (q := 28) (jrV X mX9_87 dX9_undo_25 (c_X3_become hR hC hPz hPc (by omega) ((hk0.hh ((s.o + (s.p - 1)) % 21).toNat (by omega)).1)) hR (by omega) rfl rfl rfl rfl (Nat.le_of_ble_eq_true rfl) (by decide)) rfl (fun Ew25 hpq25 => ?_)
    obtain ⟨kR, kC, hsq25⟩ := hpq25
    replace hR := kR
    replace hC := kC
    replace hFk := (hsq25 0 (by omega)).trans hFk
    replace hRd := (hsq25 1 (by omega)).trans hRd
    replace hK := (hsq25 2 (by omega)).trans hK
    replace hT := (hsq25 3 (by omega)).trans hT
    replace hY := (hsq25 4 (by omega)).trans hY
    replace hBl := (hsq25 5 (by omega)).trans hBl
    replace hDr := (hsq25 6 (by omega)).trans hDr
    replace hDC := (hsq25 7 (by omega)).trans hDC
    replace hMk := (hsq25 8 (by omega)).trans hMk
    replace hB := (hsq25 9 (by omega)).trans hB
    replace hP := (hsq25 12 (by omega)).trans hP
    replace hA := (hsq25 13 (by omega)).trans hA
    replace hH := (hsq25 14 (by omega)).trans hH
    replace hD := (hsq25 15 (by omega)).trans hD
    replace hS := (hsq25 16 (by omega)).trans hS
    replace hV := (hsq25 17 (by omega)).trans hV
    replace hZ := (hsq25 18 (by omega)).trans hZ
    replace hHs := (hsq25 19 (by omega)).trans hHs
    replace hSt := (hsq25 20 (by omega)).trans hSt
    replace hHR := (fun i hi => (hsq25 (21 + 2 * i) (by omega)).trans (hHR i hi))
    replace hHC := (fun i hi => (hsq25 (22 + 2 * i) (by omega)).trans (hHC i hi))
    replace hIm := (hsq25 63 (by omega)).trans hIm
    replace hIR := (fun i hi => (hsq25 (64 + 2 * i) (by omega)).trans (hIR i hi))
    replace hIC := (fun i hi => (hsq25 (65 + 2 * i) (by omega)).trans (hIC i hi))
    replace hKp := (hsq25 68 (by omega)).trans hKp
    replace hSh := (hsq25 69 (by omega)).trans hSh
    replace hSR := (fun i hi => (hsq25 (70 + 2 * i) (by omega)).trans (hSR i hi))
    replace hSC := (fun i hi => (hsq25 (71 + 2 * i) (by omega)).trans (hSC i hi))
    replace hPz := (hsq25 (21 + 2 * ((s.o + (s.p - 1)) % 21).toNat) (by omega)).trans hPz
    replace hPc := (hsq25 (22 + 2 * ((s.o + (s.p - 1)) % 21).toNat) (by omega)).trans hPc
    replace hF : ∀ j : Nat, 78 ≤ j → Ew25 j = E0 j := fun j hj => (hsq25 j (by omega)).trans (hF j hj)
    refine J_aload_n (q := 29) X dX9_undo_28 rfl rfl ?_
    refine J_get (q := 32) X dX9_undo_29 fX9_24 hFk (by omega) rfl rfl ?_
    refine J_callV (q := 35) (jrV X mX9_229 dX9_undo_32 (c_X1_survey hB hR hC hP hA hH hD hS hV hZ (VR_icp (hk0.hh ((s.o + (s.p - 1)) % 21).toNat (by omega))) hd0 hs0) hB (by omega) rfl rfl rfl rfl (Nat.le_of_ble_eq_true rfl) (by decide)) rfl (fun Ew32 hpq32 => ?_)
    obtain ⟨paq32, alq32, hpqq32, deq32, slq32, leq32, hiq32, kP, kA, kH, kD, kS, kV, kZ, hsvq32, hsq32⟩ := hpq32
    replace hP := kP
    replace hA := kA
    replace hH := kH
    replace hD := kD
    replace hS := kS
    replace hV := kV
    replace hZ := kZ
    replace hFk := (hsq32 0 (by omega)).trans hFk
    replace hRd := (hsq32 1 (by omega)).trans hRd
    replace hK := (hsq32 2 (by omega)).trans hK
    replace hT := (hsq32 3 (by omega)).trans hT
    replace hY := (hsq32 4 (by omega)).trans hY
    replace hBl := (hsq32 5 (by omega)).trans hBl
    replace hDr := (hsq32 6 (by omega)).trans hDr
    replace hDC := (hsq32 7 (by omega)).trans hDC
    replace hMk := (hsq32 8 (by omega)).trans hMk
    replace hB := (hsq32 9 (by omega)).trans hB
    replace hR := (hsq32 10 (by omega)).trans hR
    replace hC := (hsq32 11 (by omega)).trans hC
    replace hHs := (hsq32 19 (by omega)).trans hHs
    replace hSt := (hsq32 20 (by omega)).trans hSt
    replace hHR := (fun i hi => (hsq32 (21 + 2 * i) (by omega)).trans (hHR i hi))
    replace hHC := (fun i hi => (hsq32 (22 + 2 * i) (by omega)).trans (hHC i hi))
    replace hIm := (hsq32 63 (by omega)).trans hIm
    replace hIR := (fun i hi => (hsq32 (64 + 2 * i) (by omega)).trans (hIR i hi))
    replace hIC := (fun i hi => (hsq32 (65 + 2 * i) (by omega)).trans (hIC i hi))
    replace hKp := (hsq32 68 (by omega)).trans hKp
    replace hSh := (hsq32 69 (by omega)).trans hSh
    replace hSR := (fun i hi => (hsq32 (70 + 2 * i) (by omega)).trans (hSR i hi))
    replace hSC := (fun i hi => (hsq32 (71 + 2 * i) (by omega)).trans (hSC i hi))
    replace hPz := (hsq32 (21 + 2 * ((s.o + (s.p - 1)) % 21).toNat) (by omega)).trans hPz
    replace hPc := (hsq32 (22 + 2 * ((s.o + (s.p - 1)) % 21).toNat) (by omega)).trans hPc
    replace hF : ∀ j : Nat, 78 ≤ j → Ew32 j = E0 j := fun j hj => (hsq32 j (by omega)).trans (hF j hj)
    refine J_aload_n (q := 36) X dX9_undo_35 rfl rfl ?_
    refine J_get (q := 39) X dX9_undo_36 fX9_32 hFk (by omega) rfl rfl ?_
    refine J_get (q := 42) X dX9_undo_39 fX9_102 hR (by omega) rfl rfl ?_
    refine J_iret X R dX9_undo_42 ?_
    rw [hE0] at hF
    rw [show qUndo s = (s.hn ((s.o + (s.p - 1)) % 21).toNat, s.to (s.p - 1) (s.a + 1)) by unfold qUndo; rw [if_neg (by omega)]]
    exact ⟨_, rfl, rfl, ⟨⟨_, _, _, _, _, _, _, _, _, _, _, _, _, _, _, _, _, _, hFk, hRd, hK, hT, hY, hBl, hDr, hDC, hMk, hB, hR, hC, hP, hA, hH, hD, hS, hV, hZ, hHs, hSt, hHR, hHC, hIm, hIR, hIC, hKp, hSh, hSR, hSC, hdm, hmk, hsvq32⟩, kv_to hk (by omega)⟩, hF⟩
  · refine J_bipush (q := 13) X dX9_undo_11 rfl (by decide) ?_
    refine J_iret X R dX9_undo_13 ?_
    rw [hE0] at hF
    rw [show qUndo s = (-2, s) by unfold qUndo; rw [if_pos (by omega)]]
    exact ⟨_, rfl, rfl, hc, hF⟩

set_option maxRecDepth 100000 in
set_option maxHeartbeats 4000000 in
theorem c_X9_redo {l : Launch} {Γ : JG} {ad : Nat → Nat} {E : Nat → va_E} {s : KS} (hc : KI Γ ad E s) : JM l Γ yX9_redo cX9_redo 1 (some .int) 5 107 0 0 ad 95 E [.ref (ad 0)] (pI (fun z E' => z = (qRedo s).1 ∧ KI Γ ad E' (qRedo s).2 ∧ ∀ j : Nat, 78 ≤ j → E' j = E j)) := by
  refine JM_intro (own := RX9) [some (.ref (ad 0))] rfl rfl rfl (Nat.le_of_ble_eq_true rfl) ?_
  intro Ω X R hin
  obtain ⟨E0, hE0⟩ : ∃ E0 : Nat → va_E, E0 = E := ⟨_, rfl⟩
  have hF : ∀ j : Nat, 78 ≤ j → E j = E0 j := fun _ _ => by rw [hE0]
  obtain ⟨hj, hk⟩ := id hc
  obtain ⟨hk0, -⟩ := id hk
  obtain ⟨x, mk, ti, k0, ka, kb, kv, dm, b1, df, ma, pa, al, hp, de, sl, le, hi, hFk, hRd, hK, hT, hY, hBl, hDr, hDC, hMk, hB, hR, hC, hP, hA, hH, hD, hS, hV, hZ, hHs, hSt, hHR, hHC, hIm, hIR, hIC, hKp, hSh, hSR, hSC, hdm, hmk, hQ⟩ := hj
  have hv := hk0.hv
  obtain ⟨hn, -⟩ := id hv
  have ho := hk0.ho
  have htb := hk0.htb
  obtain ⟨htl, -⟩ := id htb
  have hb := hk0.hb
  obtain ⟨hpa, hal, hde, hsl, hle, hhi⟩ := id hQ
  have hd0 : de 0 = 0 := by rw [hde 0 (by omega) (by omega)]; rfl
  have hs0 : sl 0 = 0 := by rw [hsl 0 (by omega) (by omega)]; rfl
  refine J_aload_n (q := 1) X dX9_redo_0 rfl rfl ?_
  refine J_get (q := 4) X dX9_redo_1 fX9_36 hFk (by omega) rfl rfl ?_
  refine J_get (q := 7) X dX9_redo_4 fX9_115 hHs (by omega) rfl rfl ?_
  refine J_iconst (q := 8) X dX9_redo_7 rfl ?_
  refine J_icmp_ge (q := 11) (tgt := 14) X dX9_redo_8 (by decide) rfl (by omega) (by omega) (fun cq8 => ?_) (fun cq8 => ?_)
  · have hPz := hHR ((s.o + (s.p + 1)) % 21).toNat (by omega)
    have hPc := hHC ((s.o + (s.p + 1)) % 21).toNat (by omega)
    refine J_aload_n (q := 15) X dX9_redo_14 rfl rfl ?_
    refine J_get (q := 18) X dX9_redo_15 fX9_32 hFk (by omega) rfl rfl ?_
    refine J_aload_n (q := 19) X dX9_redo_18 rfl rfl ?_
    refine J_get (q := 22) X dX9_redo_19 fX9_36 hFk (by omega) rfl rfl ?_
    refine J_callR (q := 25) (jrV X mX9_232 dX9_redo_22 (c_X2_stepOn hHs hSt (by omega)) hHs (by omega) rfl rfl rfl rfl (Nat.le_of_ble_eq_true rfl) (by decide)) rfl (fun Ew22 hpq22 => ?_)
    obtain ⟨kHs, hsq22⟩ := hpq22
    replace hHs := kHs
    replace hFk := (hsq22 0 (by omega)).trans hFk
    replace hRd := (hsq22 1 (by omega)).trans hRd
    replace hK := (hsq22 2 (by omega)).trans hK
    replace hT := (hsq22 3 (by omega)).trans hT
    replace hY := (hsq22 4 (by omega)).trans hY
    replace hBl := (hsq22 5 (by omega)).trans hBl
    replace hDr := (hsq22 6 (by omega)).trans hDr
    replace hDC := (hsq22 7 (by omega)).trans hDC
    replace hMk := (hsq22 8 (by omega)).trans hMk
    replace hB := (hsq22 9 (by omega)).trans hB
    replace hR := (hsq22 10 (by omega)).trans hR
    replace hC := (hsq22 11 (by omega)).trans hC
    replace hP := (hsq22 12 (by omega)).trans hP
    replace hA := (hsq22 13 (by omega)).trans hA
    replace hH := (hsq22 14 (by omega)).trans hH
    replace hD := (hsq22 15 (by omega)).trans hD
    replace hS := (hsq22 16 (by omega)).trans hS
    replace hV := (hsq22 17 (by omega)).trans hV
    replace hZ := (hsq22 18 (by omega)).trans hZ
    replace hSt := (hsq22 20 (by omega)).trans hSt
    replace hHR := (fun i hi => (hsq22 (21 + 2 * i) (by omega)).trans (hHR i hi))
    replace hHC := (fun i hi => (hsq22 (22 + 2 * i) (by omega)).trans (hHC i hi))
    replace hIm := (hsq22 63 (by omega)).trans hIm
    replace hIR := (fun i hi => (hsq22 (64 + 2 * i) (by omega)).trans (hIR i hi))
    replace hIC := (fun i hi => (hsq22 (65 + 2 * i) (by omega)).trans (hIC i hi))
    replace hKp := (hsq22 68 (by omega)).trans hKp
    replace hSh := (hsq22 69 (by omega)).trans hSh
    replace hSR := (fun i hi => (hsq22 (70 + 2 * i) (by omega)).trans (hSR i hi))
    replace hSC := (fun i hi => (hsq22 (71 + 2 * i) (by omega)).trans (hSC i hi))
    replace hPz := (hsq22 (21 + 2 * ((s.o + (s.p + 1)) % 21).toNat) (by omega)).trans hPz
    replace hPc := (hsq22 (22 + 2 * ((s.o + (s.p + 1)) % 21).toNat) (by omega)).trans hPc
    replace hF : ∀ j : Nat, 78 ≤ j → Ew22 j = E0 j := fun j hj => (hsq22 j (by omega)).trans (hF j hj)
    refine J_callV (q := 28) (jrV X mX9_87 dX9_redo_25 (c_X3_become hR hC hPz hPc (by omega) ((hk0.hh ((s.o + (s.p + 1)) % 21).toNat (by omega)).1)) hR (by omega) rfl rfl rfl rfl (Nat.le_of_ble_eq_true rfl) (by decide)) rfl (fun Ew25 hpq25 => ?_)
    obtain ⟨kR, kC, hsq25⟩ := hpq25
    replace hR := kR
    replace hC := kC
    replace hFk := (hsq25 0 (by omega)).trans hFk
    replace hRd := (hsq25 1 (by omega)).trans hRd
    replace hK := (hsq25 2 (by omega)).trans hK
    replace hT := (hsq25 3 (by omega)).trans hT
    replace hY := (hsq25 4 (by omega)).trans hY
    replace hBl := (hsq25 5 (by omega)).trans hBl
    replace hDr := (hsq25 6 (by omega)).trans hDr
    replace hDC := (hsq25 7 (by omega)).trans hDC
    replace hMk := (hsq25 8 (by omega)).trans hMk
    replace hB := (hsq25 9 (by omega)).trans hB
    replace hP := (hsq25 12 (by omega)).trans hP
    replace hA := (hsq25 13 (by omega)).trans hA
    replace hH := (hsq25 14 (by omega)).trans hH
    replace hD := (hsq25 15 (by omega)).trans hD
    replace hS := (hsq25 16 (by omega)).trans hS
    replace hV := (hsq25 17 (by omega)).trans hV
    replace hZ := (hsq25 18 (by omega)).trans hZ
    replace hHs := (hsq25 19 (by omega)).trans hHs
    replace hSt := (hsq25 20 (by omega)).trans hSt
    replace hHR := (fun i hi => (hsq25 (21 + 2 * i) (by omega)).trans (hHR i hi))
    replace hHC := (fun i hi => (hsq25 (22 + 2 * i) (by omega)).trans (hHC i hi))
    replace hIm := (hsq25 63 (by omega)).trans hIm
    replace hIR := (fun i hi => (hsq25 (64 + 2 * i) (by omega)).trans (hIR i hi))
    replace hIC := (fun i hi => (hsq25 (65 + 2 * i) (by omega)).trans (hIC i hi))
    replace hKp := (hsq25 68 (by omega)).trans hKp
    replace hSh := (hsq25 69 (by omega)).trans hSh
    replace hSR := (fun i hi => (hsq25 (70 + 2 * i) (by omega)).trans (hSR i hi))
    replace hSC := (fun i hi => (hsq25 (71 + 2 * i) (by omega)).trans (hSC i hi))
    replace hPz := (hsq25 (21 + 2 * ((s.o + (s.p + 1)) % 21).toNat) (by omega)).trans hPz
    replace hPc := (hsq25 (22 + 2 * ((s.o + (s.p + 1)) % 21).toNat) (by omega)).trans hPc
    replace hF : ∀ j : Nat, 78 ≤ j → Ew25 j = E0 j := fun j hj => (hsq25 j (by omega)).trans (hF j hj)
    refine J_aload_n (q := 29) X dX9_redo_28 rfl rfl ?_
    refine J_get (q := 32) X dX9_redo_29 fX9_24 hFk (by omega) rfl rfl ?_
    refine J_callV (q := 35) (jrV X mX9_229 dX9_redo_32 (c_X1_survey hB hR hC hP hA hH hD hS hV hZ (VR_icp (hk0.hh ((s.o + (s.p + 1)) % 21).toNat (by omega))) hd0 hs0) hB (by omega) rfl rfl rfl rfl (Nat.le_of_ble_eq_true rfl) (by decide)) rfl (fun Ew32 hpq32 => ?_)
    obtain ⟨paq32, alq32, hpqq32, deq32, slq32, leq32, hiq32, kP, kA, kH, kD, kS, kV, kZ, hsvq32, hsq32⟩ := hpq32
    replace hP := kP
    replace hA := kA
    replace hH := kH
    replace hD := kD
    replace hS := kS
    replace hV := kV
    replace hZ := kZ
    replace hFk := (hsq32 0 (by omega)).trans hFk
    replace hRd := (hsq32 1 (by omega)).trans hRd
    replace hK := (hsq32 2 (by omega)).trans hK
    replace hT := (hsq32 3 (by omega)).trans hT
    replace hY := (hsq32 4 (by omega)).trans hY
    replace hBl := (hsq32 5 (by omega)).trans hBl
    replace hDr := (hsq32 6 (by omega)).trans hDr
    replace hDC := (hsq32 7 (by omega)).trans hDC
    replace hMk := (hsq32 8 (by omega)).trans hMk
    replace hB := (hsq32 9 (by omega)).trans hB
    replace hR := (hsq32 10 (by omega)).trans hR
    replace hC := (hsq32 11 (by omega)).trans hC
    replace hHs := (hsq32 19 (by omega)).trans hHs
    replace hSt := (hsq32 20 (by omega)).trans hSt
    replace hHR := (fun i hi => (hsq32 (21 + 2 * i) (by omega)).trans (hHR i hi))
    replace hHC := (fun i hi => (hsq32 (22 + 2 * i) (by omega)).trans (hHC i hi))
    replace hIm := (hsq32 63 (by omega)).trans hIm
    replace hIR := (fun i hi => (hsq32 (64 + 2 * i) (by omega)).trans (hIR i hi))
    replace hIC := (fun i hi => (hsq32 (65 + 2 * i) (by omega)).trans (hIC i hi))
    replace hKp := (hsq32 68 (by omega)).trans hKp
    replace hSh := (hsq32 69 (by omega)).trans hSh
    replace hSR := (fun i hi => (hsq32 (70 + 2 * i) (by omega)).trans (hSR i hi))
    replace hSC := (fun i hi => (hsq32 (71 + 2 * i) (by omega)).trans (hSC i hi))
    replace hPz := (hsq32 (21 + 2 * ((s.o + (s.p + 1)) % 21).toNat) (by omega)).trans hPz
    replace hPc := (hsq32 (22 + 2 * ((s.o + (s.p + 1)) % 21).toNat) (by omega)).trans hPc
    replace hF : ∀ j : Nat, 78 ≤ j → Ew32 j = E0 j := fun j hj => (hsq32 j (by omega)).trans (hF j hj)
    refine J_aload_n (q := 36) X dX9_redo_35 rfl rfl ?_
    refine J_get (q := 39) X dX9_redo_36 fX9_32 hFk (by omega) rfl rfl ?_
    refine J_get (q := 42) X dX9_redo_39 fX9_102 hR (by omega) rfl rfl ?_
    refine J_iret X R dX9_redo_42 ?_
    rw [hE0] at hF
    rw [show qRedo s = (s.hn ((s.o + (s.p + 1)) % 21).toNat, s.to (s.p + 1) (s.a - 1)) by unfold qRedo; rw [if_neg (by omega)]]
    exact ⟨_, rfl, rfl, ⟨⟨_, _, _, _, _, _, _, _, _, _, _, _, _, _, _, _, _, _, hFk, hRd, hK, hT, hY, hBl, hDr, hDC, hMk, hB, hR, hC, hP, hA, hH, hD, hS, hV, hZ, hHs, hSt, hHR, hHC, hIm, hIR, hIC, hKp, hSh, hSR, hSC, hdm, hmk, hsvq32⟩, kv_to hk (by omega)⟩, hF⟩
  · refine J_bipush (q := 13) X dX9_redo_11 rfl (by decide) ?_
    refine J_iret X R dX9_redo_13 ?_
    rw [hE0] at hF
    rw [show qRedo s = (-2, s) by unfold qRedo; rw [if_pos (by omega)]]
    exact ⟨_, rfl, rfl, hc, hF⟩

set_option maxRecDepth 100000 in
set_option maxHeartbeats 4000000 in
theorem c_X9_keep {l : Launch} {Γ : JG} {ad : Nat → Nat} {E : Nat → va_E} {s : KS} {k : Int} (hc : KI Γ ad E s) (hbk : -2147483648 ≤ k ∧ k < 2147483648) : JM l Γ yX9_keep cX9_keep 3 (some .int) 2 69 0 0 ad 95 E [.ref (ad 0), .int (jI k)] (pI (fun z E' => z = (qKeep s k).1 ∧ KI Γ ad E' (qKeep s k).2 ∧ ∀ j : Nat, 78 ≤ j → E' j = E j)) := by
  refine JM_intro (own := RX9) [some (.ref (ad 0)), some (.int (jI k)), none] rfl rfl rfl (Nat.le_of_ble_eq_true rfl) ?_
  intro Ω X R hin
  obtain ⟨E0, hE0⟩ : ∃ E0 : Nat → va_E, E0 = E := ⟨_, rfl⟩
  have hF : ∀ j : Nat, 78 ≤ j → E j = E0 j := fun _ _ => by rw [hE0]
  obtain ⟨hj, hk⟩ := id hc
  obtain ⟨hk0, -⟩ := id hk
  obtain ⟨x, mk, ti, k0, ka, kb, kv, dm, b1, df, ma, pa, al, hp, de, sl, le, hi, hFk, hRd, hK, hT, hY, hBl, hDr, hDC, hMk, hB, hR, hC, hP, hA, hH, hD, hS, hV, hZ, hHs, hSt, hHR, hHC, hIm, hIR, hIC, hKp, hSh, hSR, hSC, hdm, hmk, hQ⟩ := hj
  have hv := hk0.hv
  obtain ⟨hn, -⟩ := id hv
  have ho := hk0.ho
  have htb := hk0.htb
  obtain ⟨htl, -⟩ := id htb
  have hb := hk0.hb
  obtain ⟨hpa, hal, hde, hsl, hle, hhi⟩ := id hQ
  have hd0 : de 0 = 0 := by rw [hde 0 (by omega) (by omega)]; rfl
  have hs0 : sl 0 = 0 := by rw [hsl 0 (by omega) (by omega)]; rfl
  refine J_iload_n (q := 1) X dX9_keep_0 rfl rfl ?_
  refine J_if_lt (q := 4) (tgt := 9) X dX9_keep_1 (by decide) rfl (by omega) (fun cq1 => ?_) (fun cq1 => ?_)
  · refine J_iconst (q := 10) X dX9_keep_9 rfl ?_
    refine J_iret X R dX9_keep_10 ?_
    rw [hE0] at hF
    rw [show qKeep s k = (-1, s) by unfold qKeep; rw [if_pos (by omega)]]
    exact ⟨_, rfl, rfl, hc, hF⟩
  · refine J_iload_n (q := 5) X dX9_keep_4 rfl rfl ?_
    refine J_iconst (q := 6) X dX9_keep_5 rfl ?_
    refine J_icmp_lt (q := 9) (tgt := 11) X dX9_keep_6 (by decide) rfl (by omega) (by omega) (fun cq6 => ?_) (fun cq6 => ?_)
    · have hPz := hIR k.toNat (by omega)
      have hPc := hIC k.toNat (by omega)
      have hkk := hk0.hkp k (by omega) (by omega)
      refine J_aload_n (q := 12) X dX9_keep_11 rfl rfl ?_
      refine J_get (q := 15) X dX9_keep_12 fX9_47 hFk (by omega) rfl rfl ?_
      refine J_iload_n (q := 16) X dX9_keep_15 rfl rfl ?_
      refine J_zald (q := 17) X dX9_keep_16 hKp (by omega) (by omega) (by decide) rfl ?_
      refine J_callP (q := 20) (jrS X mX9_143 dX9_keep_17 (c_X9_oneIf hkk) rfl rfl (Nat.le_of_ble_eq_true rfl) (by decide)) rfl ?_
      refine J_istore_n (q := 21) X dX9_keep_20 (by decide) rfl rfl ?_
      refine J_aload_n (q := 22) X dX9_keep_21 rfl rfl ?_
      refine J_get (q := 25) X dX9_keep_22 fX9_42 hFk (by omega) rfl rfl ?_
      refine J_iload_n (q := 26) X dX9_keep_25 rfl rfl ?_
      refine J_aald (q := 27) X dX9_keep_26 (by decide) hIm (by omega) (by omega) (by decide) rfl rfl ?_
      refine J_aload_n (q := 28) X dX9_keep_27 rfl rfl ?_
      refine J_get (q := 31) X dX9_keep_28 fX9_32 hFk (by omega) rfl rfl ?_
      refine J_callV (q := 34) (jrV X mX9_87 dX9_keep_31 (c_X3_become hPz hPc hR hC (by omega) (by omega)) hPz (by omega) rfl rfl rfl rfl (Nat.le_of_ble_eq_true rfl) (by decide)) rfl (fun Ew31 hpq31 => ?_)
      obtain ⟨kPz, kPc, hsq31⟩ := hpq31
      replace hPz := kPz
      replace hPc := kPc
      have hIR2 : ∀ i : Nat, i < 2 → Ew31 (64 + 2 * i) = .inr (3, [.ref (ad (65 + 2 * i)), .int (jI (if i = k.toNat then s.n else s.im i))]) := fun i hi => by
        by_cases h : i = k.toNat
        · subst h; rw [if_pos rfl]; exact hPz
        · rw [if_neg h]; exact (hsq31 (64 + 2 * i) (by omega)).trans (hIR i hi)
      have hIC2 : ∀ i : Nat, i < 2 → Ew31 (65 + 2 * i) = aI Γ 60 (if i = k.toNat then icp s.f (s.imf i) 0 0 s.n else s.imf i) := fun i hi => by
        by_cases h : i = k.toNat
        · subst h; rw [if_pos rfl]; exact hPc
        · rw [if_neg h]; exact (hsq31 (65 + 2 * i) (by omega)).trans (hIC i hi)
      replace hIR := hIR2
      replace hIC := hIC2
      replace hFk := (hsq31 0 (by omega)).trans hFk
      replace hRd := (hsq31 1 (by omega)).trans hRd
      replace hK := (hsq31 2 (by omega)).trans hK
      replace hT := (hsq31 3 (by omega)).trans hT
      replace hY := (hsq31 4 (by omega)).trans hY
      replace hBl := (hsq31 5 (by omega)).trans hBl
      replace hDr := (hsq31 6 (by omega)).trans hDr
      replace hDC := (hsq31 7 (by omega)).trans hDC
      replace hMk := (hsq31 8 (by omega)).trans hMk
      replace hB := (hsq31 9 (by omega)).trans hB
      replace hR := (hsq31 10 (by omega)).trans hR
      replace hC := (hsq31 11 (by omega)).trans hC
      replace hP := (hsq31 12 (by omega)).trans hP
      replace hA := (hsq31 13 (by omega)).trans hA
      replace hH := (hsq31 14 (by omega)).trans hH
      replace hD := (hsq31 15 (by omega)).trans hD
      replace hS := (hsq31 16 (by omega)).trans hS
      replace hV := (hsq31 17 (by omega)).trans hV
      replace hZ := (hsq31 18 (by omega)).trans hZ
      replace hHs := (hsq31 19 (by omega)).trans hHs
      replace hSt := (hsq31 20 (by omega)).trans hSt
      replace hHR := (fun i hi => (hsq31 (21 + 2 * i) (by omega)).trans (hHR i hi))
      replace hHC := (fun i hi => (hsq31 (22 + 2 * i) (by omega)).trans (hHC i hi))
      replace hIm := (hsq31 63 (by omega)).trans hIm
      replace hKp := (hsq31 68 (by omega)).trans hKp
      replace hSh := (hsq31 69 (by omega)).trans hSh
      replace hSR := (fun i hi => (hsq31 (70 + 2 * i) (by omega)).trans (hSR i hi))
      replace hSC := (fun i hi => (hsq31 (71 + 2 * i) (by omega)).trans (hSC i hi))
      replace hF : ∀ j : Nat, 78 ≤ j → Ew31 j = E0 j := fun j hj => (hsq31 j (by omega)).trans (hF j hj)
      refine J_aload_n (q := 35) X dX9_keep_34 rfl rfl ?_
      refine J_get (q := 38) X dX9_keep_35 fX9_47 hFk (by omega) rfl rfl ?_
      refine J_iload_n (q := 39) X dX9_keep_38 rfl rfl ?_
      refine J_iconst (q := 40) X dX9_keep_39 rfl ?_
      refine J_zast (q := 41) X dX9_keep_40 hKp (by omega) (by omega) (by decide) (by omega) rfl (fun Ew40 hkq40 hsq40 => ?_)
      replace hKp := hkq40
      replace hFk := (hsq40 0 (by omega)).trans hFk
      replace hRd := (hsq40 1 (by omega)).trans hRd
      replace hK := (hsq40 2 (by omega)).trans hK
      replace hT := (hsq40 3 (by omega)).trans hT
      replace hY := (hsq40 4 (by omega)).trans hY
      replace hBl := (hsq40 5 (by omega)).trans hBl
      replace hDr := (hsq40 6 (by omega)).trans hDr
      replace hDC := (hsq40 7 (by omega)).trans hDC
      replace hMk := (hsq40 8 (by omega)).trans hMk
      replace hB := (hsq40 9 (by omega)).trans hB
      replace hR := (hsq40 10 (by omega)).trans hR
      replace hC := (hsq40 11 (by omega)).trans hC
      replace hP := (hsq40 12 (by omega)).trans hP
      replace hA := (hsq40 13 (by omega)).trans hA
      replace hH := (hsq40 14 (by omega)).trans hH
      replace hD := (hsq40 15 (by omega)).trans hD
      replace hS := (hsq40 16 (by omega)).trans hS
      replace hV := (hsq40 17 (by omega)).trans hV
      replace hZ := (hsq40 18 (by omega)).trans hZ
      replace hHs := (hsq40 19 (by omega)).trans hHs
      replace hSt := (hsq40 20 (by omega)).trans hSt
      replace hHR := (fun i hi => (hsq40 (21 + 2 * i) (by omega)).trans (hHR i hi))
      replace hHC := (fun i hi => (hsq40 (22 + 2 * i) (by omega)).trans (hHC i hi))
      replace hIm := (hsq40 63 (by omega)).trans hIm
      replace hIR := (fun i hi => (hsq40 (64 + 2 * i) (by omega)).trans (hIR i hi))
      replace hIC := (fun i hi => (hsq40 (65 + 2 * i) (by omega)).trans (hIC i hi))
      replace hSh := (hsq40 69 (by omega)).trans hSh
      replace hSR := (fun i hi => (hsq40 (70 + 2 * i) (by omega)).trans (hSR i hi))
      replace hSC := (fun i hi => (hsq40 (71 + 2 * i) (by omega)).trans (hSC i hi))
      replace hPz := (hsq40 (64 + 2 * k.toNat) (by omega)).trans hPz
      replace hPc := (hsq40 (65 + 2 * k.toNat) (by omega)).trans hPc
      replace hF : ∀ j : Nat, 78 ≤ j → Ew40 j = E0 j := fun j hj => (hsq40 j (by omega)).trans (hF j hj)
      refine J_iload_n (q := 42) X dX9_keep_41 rfl rfl ?_
      refine J_iret X R dX9_keep_42 ?_
      rw [hE0] at hF
      rw [show qKeep s k = (s.kp k, s.kept k) by unfold qKeep; rw [if_neg (by omega)]]
      exact ⟨_, rfl, rfl, ⟨⟨_, _, _, _, _, _, _, _, _, _, _, _, _, _, _, _, _, _, hFk, hRd, hK, hT, hY, hBl, hDr, hDC, hMk, hB, hR, hC, hP, hA, hH, hD, hS, hV, hZ, hHs, hSt, hHR, hHC, hIm, hIR, hIC, hKp, hSh, hSR, hSC, hdm, hmk, hQ⟩, kv_kept hk k⟩, hF⟩
    · refine J_iconst (q := 10) X dX9_keep_9 rfl ?_
      refine J_iret X R dX9_keep_10 ?_
      rw [hE0] at hF
      rw [show qKeep s k = (-1, s) by unfold qKeep; rw [if_pos (by omega)]]
      exact ⟨_, rfl, rfl, hc, hF⟩

set_option maxRecDepth 100000 in
set_option maxHeartbeats 4000000 in
theorem c_X9_back {l : Launch} {Γ : JG} {ad : Nat → Nat} {E : Nat → va_E} {s : KS} {k : Int} (hc : KI Γ ad E s) (hbk : -2147483648 ≤ k ∧ k < 2147483648) : JM l Γ yX9_back cX9_back 2 (some .int) 6 127 0 0 ad 95 E [.ref (ad 0), .int (jI k)] (pI (fun z E' => z = (qBack s k).1 ∧ KI Γ ad E' (qBack s k).2 ∧ ∀ j : Nat, 78 ≤ j → E' j = E j)) := by
  refine JM_intro (own := RX9) [some (.ref (ad 0)), some (.int (jI k))] rfl rfl rfl (Nat.le_of_ble_eq_true rfl) ?_
  intro Ω X R hin
  obtain ⟨E0, hE0⟩ : ∃ E0 : Nat → va_E, E0 = E := ⟨_, rfl⟩
  have hF : ∀ j : Nat, 78 ≤ j → E j = E0 j := fun _ _ => by rw [hE0]
  obtain ⟨hj, hk⟩ := id hc
  obtain ⟨hk0, -⟩ := id hk
  obtain ⟨x, mk, ti, k0, ka, kb, kv, dm, b1, df, ma, pa, al, hp, de, sl, le, hi, hFk, hRd, hK, hT, hY, hBl, hDr, hDC, hMk, hB, hR, hC, hP, hA, hH, hD, hS, hV, hZ, hHs, hSt, hHR, hHC, hIm, hIR, hIC, hKp, hSh, hSR, hSC, hdm, hmk, hQ⟩ := hj
  have hv := hk0.hv
  obtain ⟨hn, -⟩ := id hv
  have ho := hk0.ho
  have htb := hk0.htb
  obtain ⟨htl, -⟩ := id htb
  have hb := hk0.hb
  obtain ⟨hpa, hal, hde, hsl, hle, hhi⟩ := id hQ
  have hd0 : de 0 = 0 := by rw [hde 0 (by omega) (by omega)]; rfl
  have hs0 : sl 0 = 0 := by rw [hsl 0 (by omega) (by omega)]; rfl
  refine J_iload_n (q := 1) X dX9_back_0 rfl rfl ?_
  refine J_if_lt (q := 4) (tgt := 9) X dX9_back_1 (by decide) rfl (by omega) (fun cq1 => ?_) (fun cq1 => ?_)
  · refine J_iconst (q := 10) X dX9_back_9 rfl ?_
    refine J_iret X R dX9_back_10 ?_
    rw [hE0] at hF
    rw [show qBack s k = (-1, s) by unfold qBack; rw [if_pos (by omega)]]
    exact ⟨_, rfl, rfl, hc, hF⟩
  · refine J_iload_n (q := 5) X dX9_back_4 rfl rfl ?_
    refine J_iconst (q := 6) X dX9_back_5 rfl ?_
    refine J_icmp_lt (q := 9) (tgt := 11) X dX9_back_6 (by decide) rfl (by omega) (by omega) (fun cq6 => ?_) (fun cq6 => ?_)
    · have hPz := hIR k.toNat (by omega)
      have hPc := hIC k.toNat (by omega)
      have hkk := hk0.hkp k (by omega) (by omega)
      refine J_aload_n (q := 12) X dX9_back_11 rfl rfl ?_
      refine J_get (q := 15) X dX9_back_12 fX9_47 hFk (by omega) rfl rfl ?_
      refine J_iload_n (q := 16) X dX9_back_15 rfl rfl ?_
      refine J_zald (q := 17) X dX9_back_16 hKp (by omega) (by omega) (by decide) rfl ?_
      refine J_if_ne (q := 20) (tgt := 23) X dX9_back_17 (by decide) rfl (by omega) (fun cq17 => ?_) (fun cq17 => ?_)
      · refine J_aload_n (q := 24) X dX9_back_23 rfl rfl ?_
        refine J_get (q := 27) X dX9_back_24 fX9_32 hFk (by omega) rfl rfl ?_
        refine J_aload_n (q := 28) X dX9_back_27 rfl rfl ?_
        refine J_get (q := 31) X dX9_back_28 fX9_42 hFk (by omega) rfl rfl ?_
        refine J_iload_n (q := 32) X dX9_back_31 rfl rfl ?_
        refine J_aald (q := 33) X dX9_back_32 (by decide) hIm (by omega) (by omega) (by decide) rfl rfl ?_
        refine J_callV (q := 36) (jrV X mX9_87 dX9_back_33 (c_X3_become hR hC hPz hPc (by omega) ((hk0.hi k.toNat (by omega)).1)) hR (by omega) rfl rfl rfl rfl (Nat.le_of_ble_eq_true rfl) (by decide)) rfl (fun Ew33 hpq33 => ?_)
        obtain ⟨kR, kC, hsq33⟩ := hpq33
        replace hR := kR
        replace hC := kC
        replace hFk := (hsq33 0 (by omega)).trans hFk
        replace hRd := (hsq33 1 (by omega)).trans hRd
        replace hK := (hsq33 2 (by omega)).trans hK
        replace hT := (hsq33 3 (by omega)).trans hT
        replace hY := (hsq33 4 (by omega)).trans hY
        replace hBl := (hsq33 5 (by omega)).trans hBl
        replace hDr := (hsq33 6 (by omega)).trans hDr
        replace hDC := (hsq33 7 (by omega)).trans hDC
        replace hMk := (hsq33 8 (by omega)).trans hMk
        replace hB := (hsq33 9 (by omega)).trans hB
        replace hP := (hsq33 12 (by omega)).trans hP
        replace hA := (hsq33 13 (by omega)).trans hA
        replace hH := (hsq33 14 (by omega)).trans hH
        replace hD := (hsq33 15 (by omega)).trans hD
        replace hS := (hsq33 16 (by omega)).trans hS
        replace hV := (hsq33 17 (by omega)).trans hV
        replace hZ := (hsq33 18 (by omega)).trans hZ
        replace hHs := (hsq33 19 (by omega)).trans hHs
        replace hSt := (hsq33 20 (by omega)).trans hSt
        replace hHR := (fun i hi => (hsq33 (21 + 2 * i) (by omega)).trans (hHR i hi))
        replace hHC := (fun i hi => (hsq33 (22 + 2 * i) (by omega)).trans (hHC i hi))
        replace hIm := (hsq33 63 (by omega)).trans hIm
        replace hIR := (fun i hi => (hsq33 (64 + 2 * i) (by omega)).trans (hIR i hi))
        replace hIC := (fun i hi => (hsq33 (65 + 2 * i) (by omega)).trans (hIC i hi))
        replace hKp := (hsq33 68 (by omega)).trans hKp
        replace hSh := (hsq33 69 (by omega)).trans hSh
        replace hSR := (fun i hi => (hsq33 (70 + 2 * i) (by omega)).trans (hSR i hi))
        replace hSC := (fun i hi => (hsq33 (71 + 2 * i) (by omega)).trans (hSC i hi))
        replace hPz := (hsq33 (64 + 2 * k.toNat) (by omega)).trans hPz
        replace hPc := (hsq33 (65 + 2 * k.toNat) (by omega)).trans hPc
        replace hF : ∀ j : Nat, 78 ≤ j → Ew33 j = E0 j := fun j hj => (hsq33 j (by omega)).trans (hF j hj)
        refine J_aload_n (q := 37) X dX9_back_36 rfl rfl ?_
        refine J_callI (q := 40) (jrV X mX9_91 dX9_back_37 (c_X9_startedAnew (s := s.row (s.im k.toNat) (icp (s.imf k.toNat) s.f 0 0 (s.im k.toNat))) (show KJ Γ ad _ (s.row (s.im k.toNat) (icp (s.imf k.toNat) s.f 0 0 (s.im k.toNat))) KQ from ⟨_, _, _, _, _, _, _, _, _, _, _, _, _, _, _, _, _, _, hFk, hRd, hK, hT, hY, hBl, hDr, hDC, hMk, hB, hR, hC, hP, hA, hH, hD, hS, hV, hZ, hHs, hSt, hHR, hHC, hIm, hIR, hIC, hKp, hSh, hSR, hSC, hdm, hmk, ⟨hd0, hs0⟩⟩) (kv_row hk0 (VR_icp (hk0.hi k.toNat (by omega))))) hFk (by omega) rfl rfl rfl rfl (Nat.le_of_ble_eq_true rfl) (by decide)) rfl (fun zq37 Ew37 hpq37 => ?_)
        obtain ⟨hzq37, hkqq37, hsq37⟩ := hpq37
        replace hF : ∀ j : Nat, 78 ≤ j → Ew37 j = E0 j := fun j hj => (hsq37 j (by omega)).trans (hF j hj)
        refine J_iret X R dX9_back_40 ?_
        rw [hE0] at hF
        rw [show qBack s k = (s.im k.toNat, (s.row (s.im k.toNat) (icp (s.imf k.toNat) s.f 0 0 (s.im k.toNat))).anew) by unfold qBack; rw [if_neg (by omega), if_neg (by omega)]]
        exact ⟨_, rfl, hzq37, hkqq37, hF⟩
      · refine J_bipush (q := 22) X dX9_back_20 rfl (by decide) ?_
        refine J_iret X R dX9_back_22 ?_
        rw [hE0] at hF
        rw [show qBack s k = (-2, s) by unfold qBack; rw [if_neg (by omega), if_pos (by omega)]]
        exact ⟨_, rfl, rfl, hc, hF⟩
    · refine J_iconst (q := 10) X dX9_back_9 rfl ?_
      refine J_iret X R dX9_back_10 ?_
      rw [hE0] at hF
      rw [show qBack s k = (-1, s) by unfold qBack; rw [if_pos (by omega)]]
      exact ⟨_, rfl, rfl, hc, hF⟩

set_option maxRecDepth 100000 in
set_option maxHeartbeats 4000000 in
theorem c_X9_sheet {l : Launch} {Γ : JG} {ad : Nat → Nat} {E : Nat → va_E} {s : KS} {k w m : Int} (hc : KI Γ ad E s) (hbk : -2147483648 ≤ k ∧ k < 2147483648) (hbw : -2147483648 ≤ w ∧ w < 2147483648) (hbm : -2147483648 ≤ m ∧ m < 2147483648) : JM l Γ yX9_sheet cX9_sheet 4 (some .int) 1 23 0 0 ad 95 E [.ref (ad 0), .int (jI k), .int (jI w), .int (jI m)] (pI (fun z E' => z = (qSheet s k w m).1 ∧ KI Γ ad E' (qSheet s k w m).2 ∧ ∀ j : Nat, 78 ≤ j → E' j = E j)) := by
  refine JM_intro (own := RX9) [some (.ref (ad 0)), some (.int (jI k)), some (.int (jI w)), some (.int (jI m))] rfl rfl rfl (Nat.le_of_ble_eq_true rfl) ?_
  intro Ω X R hin
  obtain ⟨E0, hE0⟩ : ∃ E0 : Nat → va_E, E0 = E := ⟨_, rfl⟩
  have hF : ∀ j : Nat, 78 ≤ j → E j = E0 j := fun _ _ => by rw [hE0]
  obtain ⟨hj, hk⟩ := id hc
  obtain ⟨hk0, -⟩ := id hk
  obtain ⟨x, mk, ti, k0, ka, kb, kv, dm, b1, df, ma, pa, al, hp, de, sl, le, hi, hFk, hRd, hK, hT, hY, hBl, hDr, hDC, hMk, hB, hR, hC, hP, hA, hH, hD, hS, hV, hZ, hHs, hSt, hHR, hHC, hIm, hIR, hIC, hKp, hSh, hSR, hSC, hdm, hmk, hQ⟩ := hj
  have hv := hk0.hv
  obtain ⟨hn, -⟩ := id hv
  have ho := hk0.ho
  have htb := hk0.htb
  obtain ⟨htl, -⟩ := id htb
  have hb := hk0.hb
  obtain ⟨hpa, hal, hde, hsl, hle, hhi⟩ := id hQ
  have hd0 : de 0 = 0 := by rw [hde 0 (by omega) (by omega)]; rfl
  have hs0 : sl 0 = 0 := by rw [hsl 0 (by omega) (by omega)]; rfl
  refine J_iload_n (q := 1) X dX9_sheet_0 rfl rfl ?_
  refine J_callP (q := 4) (jrS X mX9_235 dX9_sheet_1 (c_X9_hasSheet (by omega)) rfl rfl (Nat.le_of_ble_eq_true rfl) (by decide)) rfl ?_
  refine J_if_eqB (q := 7) (tgt := 20) X dX9_sheet_4 (by decide) rfl (fun cq4 => ?_) (fun cq4 => ?_)
  · refine J_iconst (q := 21) X dX9_sheet_20 rfl ?_
    refine J_iret X R dX9_sheet_21 ?_
    rw [hE0] at hF
    rw [show qSheet s k w m = (-1, s) by unfold qSheet; rw [if_pos (fun z => by obtain ⟨z1, z2, z3⟩ := z; omega)]]
    exact ⟨_, rfl, rfl, hc, hF⟩
  · refine J_iload_n (q := 8) X dX9_sheet_7 rfl rfl ?_
    refine J_callP (q := 11) (jrS X mX9_238 dX9_sheet_8 (c_X9_isLane (by omega)) rfl rfl (Nat.le_of_ble_eq_true rfl) (by decide)) rfl ?_
    refine J_if_eqB (q := 14) (tgt := 20) X dX9_sheet_11 (by decide) rfl (fun cq11 => ?_) (fun cq11 => ?_)
    · refine J_iconst (q := 21) X dX9_sheet_20 rfl ?_
      refine J_iret X R dX9_sheet_21 ?_
      rw [hE0] at hF
      rw [show qSheet s k w m = (-1, s) by unfold qSheet; rw [if_pos (fun z => by obtain ⟨z1, z2, z3⟩ := z; omega)]]
      exact ⟨_, rfl, rfl, hc, hF⟩
    · refine J_iload_n (q := 15) X dX9_sheet_14 rfl rfl ?_
      refine J_bipush (q := 17) X dX9_sheet_15 rfl (by decide) ?_
      refine J_icmp_le (q := 20) (tgt := 22) X dX9_sheet_17 (by decide) rfl (by omega) (by omega) (fun cq17 => ?_) (fun cq17 => ?_)
      · refine J_iload_n (q := 23) X dX9_sheet_22 rfl rfl ?_
        refine J_if_ge (q := 26) (tgt := 29) X dX9_sheet_23 (by decide) rfl (by omega) (fun cq23 => ?_) (fun cq23 => ?_)
        · have hPz := hSR k.toNat (by omega)
          have hPc := hSC k.toNat (by omega)
          refine J_aload_n (q := 30) X dX9_sheet_29 rfl rfl ?_
          refine J_get (q := 33) X dX9_sheet_30 fX9_53 hFk (by omega) rfl rfl ?_
          refine J_iload_n (q := 34) X dX9_sheet_33 rfl rfl ?_
          refine J_aald (q := 35) X dX9_sheet_34 (by decide) hSh (by omega) (by omega) (by decide) rfl rfl ?_
          refine J_iload_n (q := 36) X dX9_sheet_35 rfl rfl ?_
          refine J_iload_n (q := 37) X dX9_sheet_36 rfl rfl ?_
          refine J_callV (q := 40) (jrV X mX9_241 dX9_sheet_37 (c_X4_makeNew hPz hPc (by omega) (by omega)) hPz (by omega) rfl rfl rfl rfl (Nat.le_of_ble_eq_true rfl) (by decide)) rfl (fun Ew37 hpq37 => ?_)
          obtain ⟨kPz, kPc, hsq37⟩ := hpq37
          replace hPz := kPz
          replace hPc := kPc
          have hSR2 : ∀ i : Nat, i < 4 → Ew37 (70 + 2 * i) = .inr (4, [.ref (ad (71 + 2 * i)), .int (jI (if i = k.toNat then 1 else s.th i)), .int (jI (if i = k.toNat then w else s.la i)), .int (jI (if i = k.toNat then m else s.sn i))]) := fun i hi => by
            by_cases h : i = k.toNat
            · subst h; rw [if_pos rfl, if_pos rfl, if_pos rfl]; exact hPz
            · rw [if_neg h, if_neg h, if_neg h]; exact (hsq37 (70 + 2 * i) (by omega)).trans (hSR i hi)
          have hSC2 : ∀ i : Nat, i < 4 → Ew37 (71 + 2 * i) = aI Γ 40 (if i = k.toNat then (fun t => if 0 ≤ t ∧ t < m then 0 else s.sf i t) else s.sf i) := fun i hi => by
            by_cases h : i = k.toNat
            · subst h; rw [if_pos rfl]; exact hPc
            · rw [if_neg h]; exact (hsq37 (71 + 2 * i) (by omega)).trans (hSC i hi)
          replace hSR := hSR2
          replace hSC := hSC2
          replace hFk := (hsq37 0 (by omega)).trans hFk
          replace hRd := (hsq37 1 (by omega)).trans hRd
          replace hK := (hsq37 2 (by omega)).trans hK
          replace hT := (hsq37 3 (by omega)).trans hT
          replace hY := (hsq37 4 (by omega)).trans hY
          replace hBl := (hsq37 5 (by omega)).trans hBl
          replace hDr := (hsq37 6 (by omega)).trans hDr
          replace hDC := (hsq37 7 (by omega)).trans hDC
          replace hMk := (hsq37 8 (by omega)).trans hMk
          replace hB := (hsq37 9 (by omega)).trans hB
          replace hR := (hsq37 10 (by omega)).trans hR
          replace hC := (hsq37 11 (by omega)).trans hC
          replace hP := (hsq37 12 (by omega)).trans hP
          replace hA := (hsq37 13 (by omega)).trans hA
          replace hH := (hsq37 14 (by omega)).trans hH
          replace hD := (hsq37 15 (by omega)).trans hD
          replace hS := (hsq37 16 (by omega)).trans hS
          replace hV := (hsq37 17 (by omega)).trans hV
          replace hZ := (hsq37 18 (by omega)).trans hZ
          replace hHs := (hsq37 19 (by omega)).trans hHs
          replace hSt := (hsq37 20 (by omega)).trans hSt
          replace hHR := (fun i hi => (hsq37 (21 + 2 * i) (by omega)).trans (hHR i hi))
          replace hHC := (fun i hi => (hsq37 (22 + 2 * i) (by omega)).trans (hHC i hi))
          replace hIm := (hsq37 63 (by omega)).trans hIm
          replace hIR := (fun i hi => (hsq37 (64 + 2 * i) (by omega)).trans (hIR i hi))
          replace hIC := (fun i hi => (hsq37 (65 + 2 * i) (by omega)).trans (hIC i hi))
          replace hKp := (hsq37 68 (by omega)).trans hKp
          replace hSh := (hsq37 69 (by omega)).trans hSh
          replace hF : ∀ j : Nat, 78 ≤ j → Ew37 j = E0 j := fun j hj => (hsq37 j (by omega)).trans (hF j hj)
          refine J_iconst (q := 41) X dX9_sheet_40 rfl ?_
          refine J_iret X R dX9_sheet_41 ?_
          rw [hE0] at hF
          rw [show qSheet s k w m = (1, s.made k w m) by unfold qSheet; rw [if_neg (fun z => z ⟨cq4, cq11, by omega⟩), if_neg (by omega)]]
          exact ⟨_, rfl, rfl, ⟨⟨_, _, _, _, _, _, _, _, _, _, _, _, _, _, _, _, _, _, hFk, hRd, hK, hT, hY, hBl, hDr, hDC, hMk, hB, hR, hC, hP, hA, hH, hD, hS, hV, hZ, hHs, hSt, hHR, hHC, hIm, hIR, hIC, hKp, hSh, hSR, hSC, hdm, hmk, hQ⟩, kv_made hk (by omega) (by omega)⟩, hF⟩
        · refine J_bipush (q := 28) X dX9_sheet_26 rfl (by decide) ?_
          refine J_iret X R dX9_sheet_28 ?_
          rw [hE0] at hF
          rw [show qSheet s k w m = (-14, s) by unfold qSheet; rw [if_neg (fun z => z ⟨cq4, cq11, by omega⟩), if_pos (by omega)]]
          exact ⟨_, rfl, rfl, hc, hF⟩
      · refine J_iconst (q := 21) X dX9_sheet_20 rfl ?_
        refine J_iret X R dX9_sheet_21 ?_
        rw [hE0] at hF
        rw [show qSheet s k w m = (-1, s) by unfold qSheet; rw [if_pos (fun z => by obtain ⟨z1, z2, z3⟩ := z; omega)]]
        exact ⟨_, rfl, rfl, hc, hF⟩

set_option maxRecDepth 100000 in
set_option maxHeartbeats 4000000 in
theorem c_X9_lay {l : Launch} {Γ : JG} {ad : Nat → Nat} {E : Nat → va_E} {s : KS} {k ic v : Int} (hc : KI Γ ad E s) (hbk : -2147483648 ≤ k ∧ k < 2147483648) (hbic : -2147483648 ≤ ic ∧ ic < 2147483648) (hbv : -2147483648 ≤ v ∧ v < 2147483648) : JM l Γ yX9_lay cX9_lay 5 (some .int) 1 22 0 0 ad 95 E [.ref (ad 0), .int (jI k), .int (jI ic), .int (jI v)] (pI (fun z E' => z = (qLay s k ic v).1 ∧ KI Γ ad E' (qLay s k ic v).2 ∧ ∀ j : Nat, 78 ≤ j → E' j = E j)) := by
  refine JM_intro (own := RX9) [some (.ref (ad 0)), some (.int (jI k)), some (.int (jI ic)), some (.int (jI v)), none] rfl rfl rfl (Nat.le_of_ble_eq_true rfl) ?_
  intro Ω X R hin
  obtain ⟨E0, hE0⟩ : ∃ E0 : Nat → va_E, E0 = E := ⟨_, rfl⟩
  have hF : ∀ j : Nat, 78 ≤ j → E j = E0 j := fun _ _ => by rw [hE0]
  obtain ⟨hj, hk⟩ := id hc
  obtain ⟨hk0, -⟩ := id hk
  obtain ⟨x, mk, ti, k0, ka, kb, kv, dm, b1, df, ma, pa, al, hp, de, sl, le, hi, hFk, hRd, hK, hT, hY, hBl, hDr, hDC, hMk, hB, hR, hC, hP, hA, hH, hD, hS, hV, hZ, hHs, hSt, hHR, hHC, hIm, hIR, hIC, hKp, hSh, hSR, hSC, hdm, hmk, hQ⟩ := hj
  have hv := hk0.hv
  obtain ⟨hn, -⟩ := id hv
  have ho := hk0.ho
  have htb := hk0.htb
  obtain ⟨htl, -⟩ := id htb
  have hb := hk0.hb
  obtain ⟨hpa, hal, hde, hsl, hle, hhi⟩ := id hQ
  have hd0 : de 0 = 0 := by rw [hde 0 (by omega) (by omega)]; rfl
  have hs0 : sl 0 = 0 := by rw [hsl 0 (by omega) (by omega)]; rfl
  refine J_iload_n (q := 1) X dX9_lay_0 rfl rfl ?_
  refine J_callP (q := 4) (jrS X mX9_235 dX9_lay_1 (c_X9_hasSheet (by omega)) rfl rfl (Nat.le_of_ble_eq_true rfl) (by decide)) rfl ?_
  refine J_if_neB (q := 7) (tgt := 9) X dX9_lay_4 (by decide) rfl (fun cq4 => ?_) (fun cq4 => ?_)
  · have hPz := hSR k.toNat (by omega)
    have hPc := hSC k.toNat (by omega)
    have hfb : 0 ≤ faN s k (s.la k.toNat) ic ∧ faN s k (s.la k.toNat) ic ≤ 3 := by
      simp only [faN]
      repeat' split
      all_goals omega
    refine J_aload_n (q := 10) X dX9_lay_9 rfl rfl ?_
    refine J_get (q := 13) X dX9_lay_10 fX9_53 hFk (by omega) rfl rfl ?_
    refine J_iload_n (q := 14) X dX9_lay_13 rfl rfl ?_
    refine J_aald (q := 15) X dX9_lay_14 (by decide) hSh (by omega) (by omega) (by decide) rfl rfl ?_
    refine J_aload_n (q := 16) X dX9_lay_15 rfl rfl ?_
    refine J_get (q := 19) X dX9_lay_16 fX9_53 hFk (by omega) rfl rfl ?_
    refine J_iload_n (q := 20) X dX9_lay_19 rfl rfl ?_
    refine J_aald (q := 21) X dX9_lay_20 (by decide) hSh (by omega) (by omega) (by decide) rfl rfl ?_
    refine J_get (q := 24) X dX9_lay_21 fX9_244 hPz (by omega) rfl rfl ?_
    refine J_iload_n (q := 25) X dX9_lay_24 rfl rfl ?_
    refine J_callP (q := 28) (jrV X mX9_247 dX9_lay_25 (c_X4_faultAt hPz hPc (by omega) (hk0.hs k.toNat (by omega)).1 (hk0.hs k.toNat (by omega)).2.1 (hk0.hs k.toNat (by omega)).2.2.1 (by have := (hk0.hs k.toNat (by omega)).2.1; omega) (by omega)) hPz (by omega) rfl rfl rfl rfl (Nat.le_of_ble_eq_true rfl) (by decide)) rfl ?_
    refine J_istore (q := 30) X dX9_lay_28 (by decide) rfl rfl ?_
    refine J_iload (q := 32) X dX9_lay_30 rfl rfl ?_
    refine J_if_eq (q := 35) (tgt := 41) X dX9_lay_32 (by decide) rfl (by omega) (fun cq32 => ?_) (fun cq32 => ?_)
    · have hic : 0 ≤ ic ∧ ic < 40 := by
        have := (hk0.hs k.toNat (by omega)).2.2.1
        repeat' split at cq32
        all_goals omega
      refine J_aload_n (q := 42) X dX9_lay_41 rfl rfl ?_
      refine J_get (q := 45) X dX9_lay_42 fX9_53 hFk (by omega) rfl rfl ?_
      refine J_iload_n (q := 46) X dX9_lay_45 rfl rfl ?_
      refine J_aald (q := 47) X dX9_lay_46 (by decide) hSh (by omega) (by omega) (by decide) rfl rfl ?_
      refine J_iload_n (q := 48) X dX9_lay_47 rfl rfl ?_
      refine J_iload_n (q := 49) X dX9_lay_48 rfl rfl ?_
      refine J_callV (q := 52) (jrV X mX9_250 dX9_lay_49 (c_X4_setCell hPz hPc (by omega) (hk0.hs k.toNat (by omega)).1 (hk0.hs k.toNat (by omega)).2.1 (hk0.hs k.toNat (by omega)).2.2.1 (by omega)) hPz (by omega) rfl rfl rfl rfl (Nat.le_of_ble_eq_true rfl) (by decide)) rfl (fun Ew49 hpq49 => ?_)
      obtain ⟨kPc, hsq49⟩ := hpq49
      replace hPc := kPc
      have hSC2 : ∀ i : Nat, i < 4 → Ew49 (71 + 2 * i) = aI Γ 40 (if i = k.toNat then iu (s.sf i) ic (lanev (s.la i) v) else s.sf i) := fun i hi => by
        by_cases h : i = k.toNat
        · subst h; rw [if_pos rfl]; exact hPc
        · rw [if_neg h]; exact (hsq49 (71 + 2 * i) (by omega)).trans (hSC i hi)
      replace hSC := hSC2
      replace hFk := (hsq49 0 (by omega)).trans hFk
      replace hRd := (hsq49 1 (by omega)).trans hRd
      replace hK := (hsq49 2 (by omega)).trans hK
      replace hT := (hsq49 3 (by omega)).trans hT
      replace hY := (hsq49 4 (by omega)).trans hY
      replace hBl := (hsq49 5 (by omega)).trans hBl
      replace hDr := (hsq49 6 (by omega)).trans hDr
      replace hDC := (hsq49 7 (by omega)).trans hDC
      replace hMk := (hsq49 8 (by omega)).trans hMk
      replace hB := (hsq49 9 (by omega)).trans hB
      replace hR := (hsq49 10 (by omega)).trans hR
      replace hC := (hsq49 11 (by omega)).trans hC
      replace hP := (hsq49 12 (by omega)).trans hP
      replace hA := (hsq49 13 (by omega)).trans hA
      replace hH := (hsq49 14 (by omega)).trans hH
      replace hD := (hsq49 15 (by omega)).trans hD
      replace hS := (hsq49 16 (by omega)).trans hS
      replace hV := (hsq49 17 (by omega)).trans hV
      replace hZ := (hsq49 18 (by omega)).trans hZ
      replace hHs := (hsq49 19 (by omega)).trans hHs
      replace hSt := (hsq49 20 (by omega)).trans hSt
      replace hHR := (fun i hi => (hsq49 (21 + 2 * i) (by omega)).trans (hHR i hi))
      replace hHC := (fun i hi => (hsq49 (22 + 2 * i) (by omega)).trans (hHC i hi))
      replace hIm := (hsq49 63 (by omega)).trans hIm
      replace hIR := (fun i hi => (hsq49 (64 + 2 * i) (by omega)).trans (hIR i hi))
      replace hIC := (fun i hi => (hsq49 (65 + 2 * i) (by omega)).trans (hIC i hi))
      replace hKp := (hsq49 68 (by omega)).trans hKp
      replace hSh := (hsq49 69 (by omega)).trans hSh
      replace hSR := (fun i hi => (hsq49 (70 + 2 * i) (by omega)).trans (hSR i hi))
      replace hPz := (hsq49 (70 + 2 * k.toNat) (by omega)).trans hPz
      replace hF : ∀ j : Nat, 78 ≤ j → Ew49 j = E0 j := fun j hj => (hsq49 j (by omega)).trans (hF j hj)
      refine J_iconst (q := 53) X dX9_lay_52 rfl ?_
      refine J_iret X R dX9_lay_53 ?_
      rw [hE0] at hF
      rw [show qLay s k ic v = (1, s.laid k ic v) by unfold qLay; rw [if_neg (fun z => z cq4), if_neg (fun z => z cq32)]]
      exact ⟨_, rfl, rfl, ⟨⟨_, _, _, _, _, _, _, _, _, _, _, _, _, _, _, _, _, _, hFk, hRd, hK, hT, hY, hBl, hDr, hDC, hMk, hB, hR, hC, hP, hA, hH, hD, hS, hV, hZ, hHs, hSt, hHR, hHC, hIm, hIR, hIC, hKp, hSh, hSR, hSC, hdm, hmk, hQ⟩, kv_laid hk hbv⟩, hF⟩
    · refine J_bipush (q := 37) X dX9_lay_35 rfl (by decide) ?_
      refine J_iload (q := 39) X dX9_lay_37 rfl rfl ?_
      refine J_isub (q := 40) X dX9_lay_39 rfl ?_
      refine J_iret X R dX9_lay_40 ?_
      rw [hE0] at hF
      rw [show qLay s k ic v = (-10 - faN s k (s.la k.toNat) ic, s) by unfold qLay; rw [if_neg (fun z => z cq4), if_pos cq32]]
      exact ⟨_, rfl, rfl, hc, hF⟩
  · refine J_iconst (q := 8) X dX9_lay_7 rfl ?_
    refine J_iret X R dX9_lay_8 ?_
    rw [hE0] at hF
    rw [show qLay s k ic v = (-1, s) by unfold qLay; rw [if_pos cq4]]
    exact ⟨_, rfl, rfl, hc, hF⟩
