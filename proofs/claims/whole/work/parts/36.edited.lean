set_option maxRecDepth 100000 in
set_option maxHeartbeats 4000000 in
theorem c_X9_edited {l : Launch} {Γ : JG} {ad : Nat → Nat} {E : Nat → va_E} {s : KS} {v : Int} (hj : KJ Γ ad E s KQ) (hk : KV0 s) : JM l Γ yX9_edited cX9_edited 2 (some .int) 5 107 0 0 ad 95 E [.ref (ad 0), .int (jI v)] (pI (fun z E' => z = v ∧ KI Γ ad E' (s.ed) ∧ ∀ j : Nat, 78 ≤ j → E' j = E j)) := by
  refine JM_intro (own := RX9) [some (.ref (ad 0)), some (.int (jI v))] rfl rfl rfl (Nat.le_of_ble_eq_true rfl) ?_
  intro Ω X R hin
  obtain ⟨E0, hE0⟩ : ∃ E0 : Nat → va_E, E0 = E := ⟨_, rfl⟩
  have hF : ∀ j : Nat, 78 ≤ j → E j = E0 j := fun _ _ => by rw [hE0]
  obtain ⟨x, mk, ti, k0, ka, kb, kv, dm, b1, df, ma, pa, al, hp, de, sl, le, hi, hFk, hRd, hK, hT, hY, hBl, hDr, hDC, hMk, hB, hR, hC, hP, hA, hH, hD, hS, hV, hZ, hHs, hSt, hHR, hHC, hIm, hIR, hIC, hKp, hSh, hSR, hSC, hdm, hmk, hQ⟩ := hj
  have hv := hk.hv
  have ho := hk.ho
  obtain ⟨hn, -⟩ := id hv
  refine J_aload_n (q := 1) X dX9_edited_0 rfl rfl ?_
  refine J_get (q := 4) X dX9_edited_1 fX9_36 hFk (by omega) rfl rfl ?_
  refine J_aload_n (q := 5) X dX9_edited_4 rfl rfl ?_
  refine J_get (q := 8) X dX9_edited_5 fX9_32 hFk (by omega) rfl rfl ?_
  refine J_callV (q := 11) (jrV X mX9_270 dX9_edited_8 (c_X2_add hHs hSt hHR hHC hR hC (by omega) (by omega)) hHs (by omega) rfl rfl rfl rfl (Nat.le_of_ble_eq_true rfl) (by decide)) rfl (fun Ew8 hpq8 => ?_)
  obtain ⟨oq8, pq8, ixq8, hrlq8, hixq8, hixlq8, kHs, kHR, kHC, hsq8⟩ := hpq8
  replace hHs := kHs
  replace hHR := kHR
  replace hHC := kHC
  have eo : oq8 = (if s.p < 20 then s.o else (s.o + 1) % 21) := by
    rcases hrlq8 with z | z
    · rw [if_pos z.1]; exact z.2.1
    · rw [if_neg (by omega)]; exact z.2.1
  have ep : pq8 = (if s.p < 20 then s.p + 1 else s.p) := by
    rcases hrlq8 with z | z
    · rw [if_pos z.1]; exact z.2.2
    · rw [if_neg (by omega)]; exact z.2.2
  subst eo ep hixq8
  replace hFk := (hsq8 0 (by omega)).trans hFk
  replace hRd := (hsq8 1 (by omega)).trans hRd
  replace hK := (hsq8 2 (by omega)).trans hK
  replace hT := (hsq8 3 (by omega)).trans hT
  replace hY := (hsq8 4 (by omega)).trans hY
  replace hBl := (hsq8 5 (by omega)).trans hBl
  replace hDr := (hsq8 6 (by omega)).trans hDr
  replace hDC := (hsq8 7 (by omega)).trans hDC
  replace hMk := (hsq8 8 (by omega)).trans hMk
  replace hB := (hsq8 9 (by omega)).trans hB
  replace hR := (hsq8 10 (by omega)).trans hR
  replace hC := (hsq8 11 (by omega)).trans hC
  replace hP := (hsq8 12 (by omega)).trans hP
  replace hA := (hsq8 13 (by omega)).trans hA
  replace hH := (hsq8 14 (by omega)).trans hH
  replace hD := (hsq8 15 (by omega)).trans hD
  replace hS := (hsq8 16 (by omega)).trans hS
  replace hV := (hsq8 17 (by omega)).trans hV
  replace hZ := (hsq8 18 (by omega)).trans hZ
  replace hSt := (hsq8 20 (by omega)).trans hSt
  replace hIm := (hsq8 63 (by omega)).trans hIm
  replace hIR := (fun i hi => (hsq8 (64 + 2 * i) (by omega)).trans (hIR i hi))
  replace hIC := (fun i hi => (hsq8 (65 + 2 * i) (by omega)).trans (hIC i hi))
  replace hKp := (hsq8 68 (by omega)).trans hKp
  replace hSh := (hsq8 69 (by omega)).trans hSh
  replace hSR := (fun i hi => (hsq8 (70 + 2 * i) (by omega)).trans (hSR i hi))
  replace hSC := (fun i hi => (hsq8 (71 + 2 * i) (by omega)).trans (hSC i hi))
  replace hF : ∀ j : Nat, 78 ≤ j → Ew8 j = E0 j := fun j hj => (hsq8 j (by omega)).trans (hF j hj)
  refine J_aload_n (q := 12) X dX9_edited_11 rfl rfl ?_
  refine J_get (q := 15) X dX9_edited_12 fX9_24 hFk (by omega) rfl rfl ?_
  refine J_callV (q := 18) (jrV X mX9_229 dX9_edited_15 (c_X1_survey hB hR hC hP hA hH hD hS hV hZ hv hQ.1 hQ.2) hB (by omega) rfl rfl rfl rfl (Nat.le_of_ble_eq_true rfl) (by decide)) rfl (fun Ew15 hpq15 => ?_)
  obtain ⟨paq15, alq15, hpqq15, deq15, slq15, leq15, hiq15, kP, kA, kH, kD, kS, kV, kZ, hsvq15, hsq15⟩ := hpq15
  replace hP := kP
  replace hA := kA
  replace hH := kH
  replace hD := kD
  replace hS := kS
  replace hV := kV
  replace hZ := kZ
  replace hFk := (hsq15 0 (by omega)).trans hFk
  replace hRd := (hsq15 1 (by omega)).trans hRd
  replace hK := (hsq15 2 (by omega)).trans hK
  replace hT := (hsq15 3 (by omega)).trans hT
  replace hY := (hsq15 4 (by omega)).trans hY
  replace hBl := (hsq15 5 (by omega)).trans hBl
  replace hDr := (hsq15 6 (by omega)).trans hDr
  replace hDC := (hsq15 7 (by omega)).trans hDC
  replace hMk := (hsq15 8 (by omega)).trans hMk
  replace hB := (hsq15 9 (by omega)).trans hB
  replace hR := (hsq15 10 (by omega)).trans hR
  replace hC := (hsq15 11 (by omega)).trans hC
  replace hHs := (hsq15 19 (by omega)).trans hHs
  replace hSt := (hsq15 20 (by omega)).trans hSt
  replace hHR := (fun i hi => (hsq15 (21 + 2 * i) (by omega)).trans (hHR i hi))
  replace hHC := (fun i hi => (hsq15 (22 + 2 * i) (by omega)).trans (hHC i hi))
  replace hIm := (hsq15 63 (by omega)).trans hIm
  replace hIR := (fun i hi => (hsq15 (64 + 2 * i) (by omega)).trans (hIR i hi))
  replace hIC := (fun i hi => (hsq15 (65 + 2 * i) (by omega)).trans (hIC i hi))
  replace hKp := (hsq15 68 (by omega)).trans hKp
  replace hSh := (hsq15 69 (by omega)).trans hSh
  replace hSR := (fun i hi => (hsq15 (70 + 2 * i) (by omega)).trans (hSR i hi))
  replace hSC := (fun i hi => (hsq15 (71 + 2 * i) (by omega)).trans (hSC i hi))
  replace hF : ∀ j : Nat, 78 ≤ j → Ew15 j = E0 j := fun j hj => (hsq15 j (by omega)).trans (hF j hj)
  refine J_iload_n (q := 19) X dX9_edited_18 rfl rfl ?_
  refine J_iret X R dX9_edited_19 ?_
  rw [hE0] at hF
  exact ⟨_, rfl, rfl, ⟨⟨_, _, _, _, _, _, _, _, _, _, _, _, _, _, _, _, _, _, hFk, hRd, hK, hT, hY, hBl, hDr, hDC, hMk, hB, hR, hC, hP, hA, hH, hD, hS, hV, hZ, hHs, hSt, hHR, hHC, hIm, hIR, hIC, hKp, hSh, hSR, hSC, hdm, hmk, hsvq15⟩, ed_KV hk⟩, hF⟩

set_option maxRecDepth 100000 in
set_option maxHeartbeats 4000000 in
theorem c_X9_startedAnew {l : Launch} {Γ : JG} {ad : Nat → Nat} {E : Nat → va_E} {s : KS} (hj : KJ Γ ad E s KQ) (hk : KV0 s) : JM l Γ yX9_startedAnew cX9_startedAnew 1 (some .int) 5 107 0 0 ad 95 E [.ref (ad 0)] (pI (fun z E' => z = s.n ∧ KI Γ ad E' (s.anew) ∧ ∀ j : Nat, 78 ≤ j → E' j = E j)) := by
  refine JM_intro (own := RX9) [some (.ref (ad 0))] rfl rfl rfl (Nat.le_of_ble_eq_true rfl) ?_
  intro Ω X R hin
  obtain ⟨E0, hE0⟩ : ∃ E0 : Nat → va_E, E0 = E := ⟨_, rfl⟩
  have hF : ∀ j : Nat, 78 ≤ j → E j = E0 j := fun _ _ => by rw [hE0]
  obtain ⟨x, mk, ti, k0, ka, kb, kv, dm, b1, df, ma, pa, al, hp, de, sl, le, hi, hFk, hRd, hK, hT, hY, hBl, hDr, hDC, hMk, hB, hR, hC, hP, hA, hH, hD, hS, hV, hZ, hHs, hSt, hHR, hHC, hIm, hIR, hIC, hKp, hSh, hSR, hSC, hdm, hmk, hQ⟩ := hj
  have hv := hk.hv
  have ho := hk.ho
  obtain ⟨hn, -⟩ := id hv
  refine J_aload_n (q := 1) X dX9_startedAnew_0 rfl rfl ?_
  refine J_get (q := 4) X dX9_startedAnew_1 fX9_36 hFk (by omega) rfl rfl ?_
  refine J_aload_n (q := 5) X dX9_startedAnew_4 rfl rfl ?_
  refine J_get (q := 8) X dX9_startedAnew_5 fX9_32 hFk (by omega) rfl rfl ?_
  refine J_callV (q := 11) (jrV X mX9_273 dX9_startedAnew_8 (c_X2_restart hHs hSt hHR hHC hR hC (by omega) (by omega)) hHs (by omega) rfl rfl rfl rfl (Nat.le_of_ble_eq_true rfl) (by decide)) rfl (fun Ew8 hpq8 => ?_)
  obtain ⟨oq8, pq8, ixq8, hrlq8, hixq8, hixlq8, kHs, kHR, kHC, hsq8⟩ := hpq8
  replace hHs := kHs
  replace hHR := kHR
  replace hHC := kHC
  obtain ⟨rfl, rfl⟩ := hrlq8
  subst hixq8
  replace hFk := (hsq8 0 (by omega)).trans hFk
  replace hRd := (hsq8 1 (by omega)).trans hRd
  replace hK := (hsq8 2 (by omega)).trans hK
  replace hT := (hsq8 3 (by omega)).trans hT
  replace hY := (hsq8 4 (by omega)).trans hY
  replace hBl := (hsq8 5 (by omega)).trans hBl
  replace hDr := (hsq8 6 (by omega)).trans hDr
  replace hDC := (hsq8 7 (by omega)).trans hDC
  replace hMk := (hsq8 8 (by omega)).trans hMk
  replace hB := (hsq8 9 (by omega)).trans hB
  replace hR := (hsq8 10 (by omega)).trans hR
  replace hC := (hsq8 11 (by omega)).trans hC
  replace hP := (hsq8 12 (by omega)).trans hP
  replace hA := (hsq8 13 (by omega)).trans hA
  replace hH := (hsq8 14 (by omega)).trans hH
  replace hD := (hsq8 15 (by omega)).trans hD
  replace hS := (hsq8 16 (by omega)).trans hS
  replace hV := (hsq8 17 (by omega)).trans hV
  replace hZ := (hsq8 18 (by omega)).trans hZ
  replace hSt := (hsq8 20 (by omega)).trans hSt
  replace hIm := (hsq8 63 (by omega)).trans hIm
  replace hIR := (fun i hi => (hsq8 (64 + 2 * i) (by omega)).trans (hIR i hi))
  replace hIC := (fun i hi => (hsq8 (65 + 2 * i) (by omega)).trans (hIC i hi))
  replace hKp := (hsq8 68 (by omega)).trans hKp
  replace hSh := (hsq8 69 (by omega)).trans hSh
  replace hSR := (fun i hi => (hsq8 (70 + 2 * i) (by omega)).trans (hSR i hi))
  replace hSC := (fun i hi => (hsq8 (71 + 2 * i) (by omega)).trans (hSC i hi))
  replace hF : ∀ j : Nat, 78 ≤ j → Ew8 j = E0 j := fun j hj => (hsq8 j (by omega)).trans (hF j hj)
  refine J_aload_n (q := 12) X dX9_startedAnew_11 rfl rfl ?_
  refine J_get (q := 15) X dX9_startedAnew_12 fX9_24 hFk (by omega) rfl rfl ?_
  refine J_callV (q := 18) (jrV X mX9_229 dX9_startedAnew_15 (c_X1_survey hB hR hC hP hA hH hD hS hV hZ hv hQ.1 hQ.2) hB (by omega) rfl rfl rfl rfl (Nat.le_of_ble_eq_true rfl) (by decide)) rfl (fun Ew15 hpq15 => ?_)
  obtain ⟨paq15, alq15, hpqq15, deq15, slq15, leq15, hiq15, kP, kA, kH, kD, kS, kV, kZ, hsvq15, hsq15⟩ := hpq15
  replace hP := kP
  replace hA := kA
  replace hH := kH
  replace hD := kD
  replace hS := kS
  replace hV := kV
  replace hZ := kZ
  replace hFk := (hsq15 0 (by omega)).trans hFk
  replace hRd := (hsq15 1 (by omega)).trans hRd
  replace hK := (hsq15 2 (by omega)).trans hK
  replace hT := (hsq15 3 (by omega)).trans hT
  replace hY := (hsq15 4 (by omega)).trans hY
  replace hBl := (hsq15 5 (by omega)).trans hBl
  replace hDr := (hsq15 6 (by omega)).trans hDr
  replace hDC := (hsq15 7 (by omega)).trans hDC
  replace hMk := (hsq15 8 (by omega)).trans hMk
  replace hB := (hsq15 9 (by omega)).trans hB
  replace hR := (hsq15 10 (by omega)).trans hR
  replace hC := (hsq15 11 (by omega)).trans hC
  replace hHs := (hsq15 19 (by omega)).trans hHs
  replace hSt := (hsq15 20 (by omega)).trans hSt
  replace hHR := (fun i hi => (hsq15 (21 + 2 * i) (by omega)).trans (hHR i hi))
  replace hHC := (fun i hi => (hsq15 (22 + 2 * i) (by omega)).trans (hHC i hi))
  replace hIm := (hsq15 63 (by omega)).trans hIm
  replace hIR := (fun i hi => (hsq15 (64 + 2 * i) (by omega)).trans (hIR i hi))
  replace hIC := (fun i hi => (hsq15 (65 + 2 * i) (by omega)).trans (hIC i hi))
  replace hKp := (hsq15 68 (by omega)).trans hKp
  replace hSh := (hsq15 69 (by omega)).trans hSh
  replace hSR := (fun i hi => (hsq15 (70 + 2 * i) (by omega)).trans (hSR i hi))
  replace hSC := (fun i hi => (hsq15 (71 + 2 * i) (by omega)).trans (hSC i hi))
  replace hF : ∀ j : Nat, 78 ≤ j → Ew15 j = E0 j := fun j hj => (hsq15 j (by omega)).trans (hF j hj)
  refine J_aload_n (q := 19) X dX9_startedAnew_18 rfl rfl ?_
  refine J_get (q := 22) X dX9_startedAnew_19 fX9_32 hFk (by omega) rfl rfl ?_
  refine J_get (q := 25) X dX9_startedAnew_22 fX9_102 hR (by omega) rfl rfl ?_
  refine J_iret X R dX9_startedAnew_25 ?_
  rw [hE0] at hF
  exact ⟨_, rfl, rfl, ⟨⟨_, _, _, _, _, _, _, _, _, _, _, _, _, _, _, _, _, _, hFk, hRd, hK, hT, hY, hBl, hDr, hDC, hMk, hB, hR, hC, hP, hA, hH, hD, hS, hV, hZ, hHs, hSt, hHR, hHC, hIm, hIR, hIC, hKp, hSh, hSR, hSC, hdm, hmk, hsvq15⟩, anew_KV hk⟩, hF⟩
