set_option maxRecDepth 100000 in
set_option maxHeartbeats 4000000 in
theorem c_X9_feed {l : Launch} {Γ : JG} {ad : Nat → Nat} {E : Nat → va_E} {s : KS} {c : Int} (hc : KI Γ ad E s) (hbc : -2147483648 ≤ c ∧ c < 2147483648) : JM l Γ yX9_feed cX9_feed 2 (some .int) 1 21 0 0 ad 95 E [.ref (ad 0), .int (jI c)] (pI (fun z E' => z = (qFeed s c).1 ∧ KI Γ ad E' (qFeed s c).2 ∧ ∀ j : Nat, 78 ≤ j → E' j = E j)) := by
  refine JM_intro (own := RX9) [some (.ref (ad 0)), some (.int (jI c))] rfl rfl rfl (Nat.le_of_ble_eq_true rfl) ?_
  intro Ω X R hin
  obtain ⟨E0, hE0⟩ : ∃ E0 : Nat → va_E, E0 = E := ⟨_, rfl⟩
  have hF : ∀ j : Nat, 78 ≤ j → E j = E0 j := fun _ _ => by rw [hE0]
  obtain ⟨hj, hk⟩ := id hc
  obtain ⟨hk0, -⟩ := id hk
  obtain ⟨x, mk, ti, k0, ka, kb, kv, dm, b1, df, ma, pa, al, hp, de, sl, le, hi, hFk, hRd, hK, hT, hY, hBl, hDr, hDC, hMk, hB, hR, hC, hP, hA, hH, hD, hS, hV, hZ, hHs, hSt, hHR, hHC, hIm, hIR, hIC, hKp, hSh, hSR, hSC, hdm, hmk, hQ⟩ := hj
  have hv := hk0.hv
  obtain ⟨hn, -⟩ := id hv
  have ho := hk0.ho
  have htb := hk0.htb
  obtain ⟨htl, -⟩ := id htb
  have hb := hk0.hb
  obtain ⟨hpa, hal, hde, hsl, hle, hhi⟩ := id hQ
  have hd0 : de 0 = 0 := by rw [hde 0 (by omega) (by omega)]; rfl
  have hs0 : sl 0 = 0 := by rw [hsl 0 (by omega) (by omega)]; rfl
  refine J_iload_n (q := 1) X dX9_feed_0 rfl rfl ?_
  refine J_if_lt (q := 4) (tgt := 10) X dX9_feed_1 (by decide) rfl (by omega) (fun cq1 => ?_) (fun cq1 => ?_)
  · refine J_iconst (q := 11) X dX9_feed_10 rfl ?_
    refine J_iret X R dX9_feed_11 ?_
    rw [hE0] at hF
    rw [show qFeed s c = (-1, s) by unfold qFeed; rw [if_pos (by omega)]]
    exact ⟨_, rfl, rfl, hc, hF⟩
  · refine J_iload_n (q := 5) X dX9_feed_4 rfl rfl ?_
    refine J_bipush (q := 7) X dX9_feed_5 rfl (by decide) ?_
    refine J_icmp_le (q := 10) (tgt := 12) X dX9_feed_7 (by decide) rfl (by omega) (by omega) (fun cq7 => ?_) (fun cq7 => ?_)
    · refine J_aload_n (q := 13) X dX9_feed_12 rfl rfl ?_
      refine J_get (q := 16) X dX9_feed_13 fX9_20 hFk (by omega) rfl rfl ?_
      refine J_get (q := 19) X dX9_feed_16 fX9_58 hT (by omega) rfl rfl ?_
      refine J_sipush (q := 22) X dX9_feed_19 rfl (by decide) ?_
      refine J_icmp_lt (q := 25) (tgt := 28) X dX9_feed_22 (by decide) rfl (by omega) (by omega) (fun cq22 => ?_) (fun cq22 => ?_)
      · refine J_aload_n (q := 29) X dX9_feed_28 rfl rfl ?_
        refine J_get (q := 32) X dX9_feed_29 fX9_20 hFk (by omega) rfl rfl ?_
        refine J_iload_n (q := 33) X dX9_feed_32 rfl rfl ?_
        refine J_callV (q := 36) (jrV X mX9_64 dX9_feed_33 (c_X6_append hT hY (by omega)) hT (by omega) rfl rfl rfl rfl (Nat.le_of_ble_eq_true rfl) (by decide)) rfl (fun Ew33 hpq33 => ?_)
        obtain ⟨kT, kY, hsq33⟩ := hpq33
        replace hT := kT
        replace hY := kY
        replace hFk := (hsq33 0 (by omega)).trans hFk
        replace hRd := (hsq33 1 (by omega)).trans hRd
        replace hK := (hsq33 2 (by omega)).trans hK
        replace hBl := (hsq33 5 (by omega)).trans hBl
        replace hDr := (hsq33 6 (by omega)).trans hDr
        replace hDC := (hsq33 7 (by omega)).trans hDC
        replace hMk := (hsq33 8 (by omega)).trans hMk
        replace hB := (hsq33 9 (by omega)).trans hB
        replace hR := (hsq33 10 (by omega)).trans hR
        replace hC := (hsq33 11 (by omega)).trans hC
        replace hP := (hsq33 12 (by omega)).trans hP
        replace hA := (hsq33 13 (by omega)).trans hA
        replace hH := (hsq33 14 (by omega)).trans hH
        replace hD := (hsq33 15 (by omega)).trans hD
        replace hS := (hsq33 16 (by omega)).trans hS
        replace hV := (hsq33 17 (by omega)).trans hV
        replace hZ := (hsq33 18 (by omega)).trans hZ
        replace hHs := (hsq33 19 (by omega)).trans hHs
        replace hSt := (hsq33 20 (by omega)).trans hSt
        replace hHR := (fun i hi => (hsq33 (21 + 2 * i) (by omega)).trans (hHR i hi))
        replace hHC := (fun i hi => (hsq33 (22 + 2 * i) (by omega)).trans (hHC i hi))
        replace hIm := (hsq33 63 (by omega)).trans hIm
        replace hIR := (fun i hi => (hsq33 (64 + 2 * i) (by omega)).trans (hIR i hi))
        replace hIC := (fun i hi => (hsq33 (65 + 2 * i) (by omega)).trans (hIC i hi))
        replace hKp := (hsq33 68 (by omega)).trans hKp
        replace hSh := (hsq33 69 (by omega)).trans hSh
        replace hSR := (fun i hi => (hsq33 (70 + 2 * i) (by omega)).trans (hSR i hi))
        replace hSC := (fun i hi => (hsq33 (71 + 2 * i) (by omega)).trans (hSC i hi))
        replace hF : ∀ j : Nat, 78 ≤ j → Ew33 j = E0 j := fun j hj => (hsq33 j (by omega)).trans (hF j hj)
        refine J_aload_n (q := 37) X dX9_feed_36 rfl rfl ?_
        refine J_get (q := 40) X dX9_feed_37 fX9_20 hFk (by omega) rfl rfl ?_
        refine J_get (q := 43) X dX9_feed_40 fX9_58 hT (by omega) rfl rfl ?_
        refine J_iret X R dX9_feed_43 ?_
        rw [hE0] at hF
        rw [show qFeed s c = (s.tl + 1, s.tape (s.tl + 1) (iu s.tb s.tl c)) by unfold qFeed; rw [if_neg (by omega), if_neg (by omega)]]
        exact ⟨_, rfl, rfl, ⟨⟨_, _, _, _, _, _, _, _, _, _, _, _, _, _, _, _, _, _, hFk, hRd, hK, hT, hY, hBl, hDr, hDC, hMk, hB, hR, hC, hP, hA, hH, hD, hS, hV, hZ, hHs, hSt, hHR, hHC, hIm, hIR, hIC, hKp, hSh, hSR, hSC, hdm, hmk, hQ⟩, kv_tape hk (TB_app htb (by omega) (by omega))⟩, hF⟩
      · refine J_bipush (q := 27) X dX9_feed_25 rfl (by decide) ?_
        refine J_iret X R dX9_feed_27 ?_
        rw [hE0] at hF
        rw [show qFeed s c = (-3, s) by unfold qFeed; rw [if_neg (by omega), if_pos (by omega)]]
        exact ⟨_, rfl, rfl, hc, hF⟩
    · refine J_iconst (q := 11) X dX9_feed_10 rfl ?_
      refine J_iret X R dX9_feed_11 ?_
      rw [hE0] at hF
      rw [show qFeed s c = (-1, s) by unfold qFeed; rw [if_pos (by omega)]]
      exact ⟨_, rfl, rfl, hc, hF⟩

set_option maxRecDepth 100000 in
set_option maxHeartbeats 4000000 in
theorem c_X9_end {l : Launch} {Γ : JG} {ad : Nat → Nat} {E : Nat → va_E} {s : KS} {c : Int} (hc : KI Γ ad E s) (hbc : -2147483648 ≤ c ∧ c < 2147483648) : JM l Γ yX9_end cX9_end 3 (some .int) 1 21 0 0 ad 95 E [.ref (ad 0), .int (jI c)] (pI (fun z E' => z = (qEnd s c).1 ∧ KI Γ ad E' (qEnd s c).2 ∧ ∀ j : Nat, 78 ≤ j → E' j = E j)) := by
  refine JM_intro (own := RX9) [some (.ref (ad 0)), some (.int (jI c)), none] rfl rfl rfl (Nat.le_of_ble_eq_true rfl) ?_
  intro Ω X R hin
  obtain ⟨E0, hE0⟩ : ∃ E0 : Nat → va_E, E0 = E := ⟨_, rfl⟩
  have hF : ∀ j : Nat, 78 ≤ j → E j = E0 j := fun _ _ => by rw [hE0]
  obtain ⟨hj, hk⟩ := id hc
  obtain ⟨hk0, -⟩ := id hk
  obtain ⟨x, mk, ti, k0, ka, kb, kv, dm, b1, df, ma, pa, al, hp, de, sl, le, hi, hFk, hRd, hK, hT, hY, hBl, hDr, hDC, hMk, hB, hR, hC, hP, hA, hH, hD, hS, hV, hZ, hHs, hSt, hHR, hHC, hIm, hIR, hIC, hKp, hSh, hSR, hSC, hdm, hmk, hQ⟩ := hj
  have hv := hk0.hv
  obtain ⟨hn, -⟩ := id hv
  have ho := hk0.ho
  have htb := hk0.htb
  obtain ⟨htl, -⟩ := id htb
  have hb := hk0.hb
  obtain ⟨hpa, hal, hde, hsl, hle, hhi⟩ := id hQ
  have hd0 : de 0 = 0 := by rw [hde 0 (by omega) (by omega)]; rfl
  have hs0 : sl 0 = 0 := by rw [hsl 0 (by omega) (by omega)]; rfl
  refine J_iload_n (q := 1) X dX9_end_0 rfl rfl ?_
  refine J_if_lt (q := 4) (tgt := 15) X dX9_end_1 (by decide) rfl (by omega) (fun cq1 => ?_) (fun cq1 => ?_)
  · refine J_iconst (q := 16) X dX9_end_15 rfl ?_
    refine J_iret X R dX9_end_16 ?_
    rw [hE0] at hF
    rw [show qEnd s c = (-1, s) by unfold qEnd; rw [if_pos (by omega)]]
    exact ⟨_, rfl, rfl, hc, hF⟩
  · refine J_iload_n (q := 5) X dX9_end_4 rfl rfl ?_
    refine J_aload_n (q := 6) X dX9_end_5 rfl rfl ?_
    refine J_get (q := 9) X dX9_end_6 fX9_20 hFk (by omega) rfl rfl ?_
    refine J_get (q := 12) X dX9_end_9 fX9_58 hT (by omega) rfl rfl ?_
    refine J_icmp_le (q := 15) (tgt := 17) X dX9_end_12 (by decide) rfl (by omega) (by omega) (fun cq12 => ?_) (fun cq12 => ?_)
    · refine J_aload_n (q := 18) X dX9_end_17 rfl rfl ?_
      refine J_get (q := 21) X dX9_end_18 fX9_20 hFk (by omega) rfl rfl ?_
      refine J_get (q := 24) X dX9_end_21 fX9_58 hT (by omega) rfl rfl ?_
      refine J_istore_n (q := 25) X dX9_end_24 (by decide) rfl rfl ?_
      refine J_aload_n (q := 26) X dX9_end_25 rfl rfl ?_
      refine J_get (q := 29) X dX9_end_26 fX9_20 hFk (by omega) rfl rfl ?_
      refine J_iload_n (q := 30) X dX9_end_29 rfl rfl ?_
      refine J_callV (q := 33) (jrV X mX9_68 dX9_end_30 (c_X6_shorten hT hY) hT (by omega) rfl rfl rfl rfl (Nat.le_of_ble_eq_true rfl) (by decide)) rfl (fun Ew30 hpq30 => ?_)
      obtain ⟨kT, hsq30⟩ := hpq30
      replace hT := kT
      replace hFk := (hsq30 0 (by omega)).trans hFk
      replace hRd := (hsq30 1 (by omega)).trans hRd
      replace hK := (hsq30 2 (by omega)).trans hK
      replace hY := (hsq30 4 (by omega)).trans hY
      replace hBl := (hsq30 5 (by omega)).trans hBl
      replace hDr := (hsq30 6 (by omega)).trans hDr
      replace hDC := (hsq30 7 (by omega)).trans hDC
      replace hMk := (hsq30 8 (by omega)).trans hMk
      replace hB := (hsq30 9 (by omega)).trans hB
      replace hR := (hsq30 10 (by omega)).trans hR
      replace hC := (hsq30 11 (by omega)).trans hC
      replace hP := (hsq30 12 (by omega)).trans hP
      replace hA := (hsq30 13 (by omega)).trans hA
      replace hH := (hsq30 14 (by omega)).trans hH
      replace hD := (hsq30 15 (by omega)).trans hD
      replace hS := (hsq30 16 (by omega)).trans hS
      replace hV := (hsq30 17 (by omega)).trans hV
      replace hZ := (hsq30 18 (by omega)).trans hZ
      replace hHs := (hsq30 19 (by omega)).trans hHs
      replace hSt := (hsq30 20 (by omega)).trans hSt
      replace hHR := (fun i hi => (hsq30 (21 + 2 * i) (by omega)).trans (hHR i hi))
      replace hHC := (fun i hi => (hsq30 (22 + 2 * i) (by omega)).trans (hHC i hi))
      replace hIm := (hsq30 63 (by omega)).trans hIm
      replace hIR := (fun i hi => (hsq30 (64 + 2 * i) (by omega)).trans (hIR i hi))
      replace hIC := (fun i hi => (hsq30 (65 + 2 * i) (by omega)).trans (hIC i hi))
      replace hKp := (hsq30 68 (by omega)).trans hKp
      replace hSh := (hsq30 69 (by omega)).trans hSh
      replace hSR := (fun i hi => (hsq30 (70 + 2 * i) (by omega)).trans (hSR i hi))
      replace hSC := (fun i hi => (hsq30 (71 + 2 * i) (by omega)).trans (hSC i hi))
      replace hF : ∀ j : Nat, 78 ≤ j → Ew30 j = E0 j := fun j hj => (hsq30 j (by omega)).trans (hF j hj)
      refine J_iload_n (q := 34) X dX9_end_33 rfl rfl ?_
      refine J_iret X R dX9_end_34 ?_
      rw [hE0] at hF
      rw [show qEnd s c = (s.tl, s.tape c s.tb) by unfold qEnd; rw [if_neg (by omega)]]
      exact ⟨_, rfl, rfl, ⟨⟨_, _, _, _, _, _, _, _, _, _, _, _, _, _, _, _, _, _, hFk, hRd, hK, hT, hY, hBl, hDr, hDC, hMk, hB, hR, hC, hP, hA, hH, hD, hS, hV, hZ, hHs, hSt, hHR, hHC, hIm, hIR, hIC, hKp, hSh, hSR, hSC, hdm, hmk, hQ⟩, kv_tape hk ⟨by omega, fun j a b => htb.2 j a (by omega)⟩⟩, hF⟩
    · refine J_iconst (q := 16) X dX9_end_15 rfl ?_
      refine J_iret X R dX9_end_16 ?_
      rw [hE0] at hF
      rw [show qEnd s c = (-1, s) by unfold qEnd; rw [if_pos (by omega)]]
      exact ⟨_, rfl, rfl, hc, hF⟩

set_option maxRecDepth 100000 in
set_option maxHeartbeats 4000000 in
theorem c_X9_put {l : Launch} {Γ : JG} {ad : Nat → Nat} {E : Nat → va_E} {s : KS} {i c : Int} (hc : KI Γ ad E s) (hbi : -2147483648 ≤ i ∧ i < 2147483648) (hbc : -2147483648 ≤ c ∧ c < 2147483648) : JM l Γ yX9_put cX9_put 4 (some .int) 6 128 0 0 ad 95 E [.ref (ad 0), .int (jI i), .int (jI c)] (pI (fun z E' => z = (qPut s i c).1 ∧ KI Γ ad E' (qPut s i c).2 ∧ ∀ j : Nat, 78 ≤ j → E' j = E j)) := by
  refine JM_intro (own := RX9) [some (.ref (ad 0)), some (.int (jI i)), some (.int (jI c)), none] rfl rfl rfl (Nat.le_of_ble_eq_true rfl) ?_
  intro Ω X R hin
  obtain ⟨E0, hE0⟩ : ∃ E0 : Nat → va_E, E0 = E := ⟨_, rfl⟩
  have hF : ∀ j : Nat, 78 ≤ j → E j = E0 j := fun _ _ => by rw [hE0]
  obtain ⟨hj, hk⟩ := id hc
  obtain ⟨hk0, -⟩ := id hk
  obtain ⟨x, mk, ti, k0, ka, kb, kv, dm, b1, df, ma, pa, al, hp, de, sl, le, hi, hFk, hRd, hK, hT, hY, hBl, hDr, hDC, hMk, hB, hR, hC, hP, hA, hH, hD, hS, hV, hZ, hHs, hSt, hHR, hHC, hIm, hIR, hIC, hKp, hSh, hSR, hSC, hdm, hmk, hQ⟩ := hj
  have hv := hk0.hv
  obtain ⟨hn, -⟩ := id hv
  have ho := hk0.ho
  have htb := hk0.htb
  obtain ⟨htl, -⟩ := id htb
  have hb := hk0.hb
  obtain ⟨hpa, hal, hde, hsl, hle, hhi⟩ := id hQ
  have hd0 : de 0 = 0 := by rw [hde 0 (by omega) (by omega)]; rfl
  have hs0 : sl 0 = 0 := by rw [hsl 0 (by omega) (by omega)]; rfl
  refine J_aload_n (q := 1) X dX9_put_0 rfl rfl ?_
  refine J_get (q := 4) X dX9_put_1 fX9_32 hFk (by omega) rfl rfl ?_
  refine J_iload_n (q := 5) X dX9_put_4 rfl rfl ?_
  refine J_callP (q := 8) (jrV X mX9_121 dX9_put_5 (c_X3_hasSign hR hC (by omega) (by omega) (by omega)) hR (by omega) rfl rfl rfl rfl (Nat.le_of_ble_eq_true rfl) (by decide)) rfl ?_
  refine J_if_eqB (q := 11) (tgt := 18) X dX9_put_8 (by decide) rfl (fun cq8 => ?_) (fun cq8 => ?_)
  · refine J_iconst (q := 19) X dX9_put_18 rfl ?_
    refine J_iret X R dX9_put_19 ?_
    rw [hE0] at hF
    rw [show qPut s i c = (-1, s) by unfold qPut; first | (rw [if_pos (by omega)]; done) | (rw [if_pos (Or.inr cq15)]; done) | (rw [if_pos (Or.inl cq8)]; done)]
    exact ⟨_, rfl, rfl, hc, hF⟩
  · refine J_iload_n (q := 12) X dX9_put_11 rfl rfl ?_
    refine J_callP (q := 15) (jrS X mX9_178 dX9_put_12 (c_X5_isSign (by omega)) rfl rfl (Nat.le_of_ble_eq_true rfl) (by decide)) rfl ?_
    refine J_if_neB (q := 18) (tgt := 20) X dX9_put_15 (by decide) rfl (fun cq15 => ?_) (fun cq15 => ?_)
    · refine J_aload_n (q := 21) X dX9_put_20 rfl rfl ?_
      refine J_get (q := 24) X dX9_put_21 fX9_32 hFk (by omega) rfl rfl ?_
      refine J_iload_n (q := 25) X dX9_put_24 rfl rfl ?_
      refine J_callP (q := 28) (jrV X mX9_125 dX9_put_25 (c_X3_byteAt hR hC (by omega) (by omega) (by omega)) hR (by omega) rfl rfl rfl rfl (Nat.le_of_ble_eq_true rfl) (by decide)) rfl ?_
      refine J_istore_n (q := 29) X dX9_put_28 (by decide) rfl rfl ?_
      refine J_aload_n (q := 30) X dX9_put_29 rfl rfl ?_
      refine J_get (q := 33) X dX9_put_30 fX9_32 hFk (by omega) rfl rfl ?_
      refine J_iload_n (q := 34) X dX9_put_33 rfl rfl ?_
      refine J_iload_n (q := 35) X dX9_put_34 rfl rfl ?_
      refine J_callV (q := 38) (jrV X mX9_183 dX9_put_35 (c_X3_setByte hR hC (by omega) (by omega) (by omega)) hR (by omega) rfl rfl rfl rfl (Nat.le_of_ble_eq_true rfl) (by decide)) rfl (fun Ew35 hpq35 => ?_)
      obtain ⟨kC, hsq35⟩ := hpq35
      replace hC := kC
      replace hFk := (hsq35 0 (by omega)).trans hFk
      replace hRd := (hsq35 1 (by omega)).trans hRd
      replace hK := (hsq35 2 (by omega)).trans hK
      replace hT := (hsq35 3 (by omega)).trans hT
      replace hY := (hsq35 4 (by omega)).trans hY
      replace hBl := (hsq35 5 (by omega)).trans hBl
      replace hDr := (hsq35 6 (by omega)).trans hDr
      replace hDC := (hsq35 7 (by omega)).trans hDC
      replace hMk := (hsq35 8 (by omega)).trans hMk
      replace hB := (hsq35 9 (by omega)).trans hB
      replace hR := (hsq35 10 (by omega)).trans hR
      replace hP := (hsq35 12 (by omega)).trans hP
      replace hA := (hsq35 13 (by omega)).trans hA
      replace hH := (hsq35 14 (by omega)).trans hH
      replace hD := (hsq35 15 (by omega)).trans hD
      replace hS := (hsq35 16 (by omega)).trans hS
      replace hV := (hsq35 17 (by omega)).trans hV
      replace hZ := (hsq35 18 (by omega)).trans hZ
      replace hHs := (hsq35 19 (by omega)).trans hHs
      replace hSt := (hsq35 20 (by omega)).trans hSt
      replace hHR := (fun i hi => (hsq35 (21 + 2 * i) (by omega)).trans (hHR i hi))
      replace hHC := (fun i hi => (hsq35 (22 + 2 * i) (by omega)).trans (hHC i hi))
      replace hIm := (hsq35 63 (by omega)).trans hIm
      replace hIR := (fun i hi => (hsq35 (64 + 2 * i) (by omega)).trans (hIR i hi))
      replace hIC := (fun i hi => (hsq35 (65 + 2 * i) (by omega)).trans (hIC i hi))
      replace hKp := (hsq35 68 (by omega)).trans hKp
      replace hSh := (hsq35 69 (by omega)).trans hSh
      replace hSR := (fun i hi => (hsq35 (70 + 2 * i) (by omega)).trans (hSR i hi))
      replace hSC := (fun i hi => (hsq35 (71 + 2 * i) (by omega)).trans (hSC i hi))
      replace hF : ∀ j : Nat, 78 ≤ j → Ew35 j = E0 j := fun j hj => (hsq35 j (by omega)).trans (hF j hj)
      refine J_aload_n (q := 39) X dX9_put_38 rfl rfl ?_
      refine J_iload_n (q := 40) X dX9_put_39 rfl rfl ?_
      refine J_callI (q := 43) (jrV X mX9_187 dX9_put_40 (c_X9_edited (s := s.row (s.n) (iu s.f i c)) (show KJ Γ ad _ (s.row (s.n) (iu s.f i c)) KQ from ⟨_, _, _, _, _, _, _, _, _, _, _, _, _, _, _, _, _, _, hFk, hRd, hK, hT, hY, hBl, hDr, hDC, hMk, hB, hR, hC, hP, hA, hH, hD, hS, hV, hZ, hHs, hSt, hHR, hHC, hIm, hIR, hIC, hKp, hSh, hSR, hSC, hdm, hmk, ⟨hd0, hs0⟩⟩) (kv_row hk0 (VR_iu hv (gd_sgn cq15)))) hFk (by omega) rfl rfl rfl rfl (Nat.le_of_ble_eq_true rfl) (by decide)) rfl (fun zq40 Ew40 hpq40 => ?_)
      obtain ⟨hzq40, hkqq40, hsq40⟩ := hpq40
      replace hF : ∀ j : Nat, 78 ≤ j → Ew40 j = E0 j := fun j hj => (hsq40 j (by omega)).trans (hF j hj)
      refine J_iret X R dX9_put_43 ?_
      rw [hE0] at hF
      rw [show qPut s i c = (s.f i % 128, (s.row (s.n) (iu s.f i c)).ed) by unfold qPut; rw [if_neg (fun z => z.elim (fun z => z cq8) (fun z => z cq15))]]
      exact ⟨_, rfl, hzq40, hkqq40, hF⟩
    · refine J_iconst (q := 19) X dX9_put_18 rfl ?_
      refine J_iret X R dX9_put_19 ?_
      rw [hE0] at hF
      rw [show qPut s i c = (-1, s) by unfold qPut; first | (rw [if_pos (by omega)]; done) | (rw [if_pos (Or.inr cq15)]; done) | (rw [if_pos (Or.inl cq8)]; done)]
      exact ⟨_, rfl, rfl, hc, hF⟩

set_option maxRecDepth 100000 in
set_option maxHeartbeats 4000000 in
theorem c_X9_insert {l : Launch} {Γ : JG} {ad : Nat → Nat} {E : Nat → va_E} {s : KS} {i c : Int} (hc : KI Γ ad E s) (hbi : -2147483648 ≤ i ∧ i < 2147483648) (hbc : -2147483648 ≤ c ∧ c < 2147483648) : JM l Γ yX9_insert cX9_insert 3 (some .int) 6 128 0 0 ad 95 E [.ref (ad 0), .int (jI i), .int (jI c)] (pI (fun z E' => z = (qInsert s i c).1 ∧ KI Γ ad E' (qInsert s i c).2 ∧ ∀ j : Nat, 78 ≤ j → E' j = E j)) := by
  refine JM_intro (own := RX9) [some (.ref (ad 0)), some (.int (jI i)), some (.int (jI c))] rfl rfl rfl (Nat.le_of_ble_eq_true rfl) ?_
  intro Ω X R hin
  obtain ⟨E0, hE0⟩ : ∃ E0 : Nat → va_E, E0 = E := ⟨_, rfl⟩
  have hF : ∀ j : Nat, 78 ≤ j → E j = E0 j := fun _ _ => by rw [hE0]
  obtain ⟨hj, hk⟩ := id hc
  obtain ⟨hk0, -⟩ := id hk
  obtain ⟨x, mk, ti, k0, ka, kb, kv, dm, b1, df, ma, pa, al, hp, de, sl, le, hi, hFk, hRd, hK, hT, hY, hBl, hDr, hDC, hMk, hB, hR, hC, hP, hA, hH, hD, hS, hV, hZ, hHs, hSt, hHR, hHC, hIm, hIR, hIC, hKp, hSh, hSR, hSC, hdm, hmk, hQ⟩ := hj
  have hv := hk0.hv
  obtain ⟨hn, -⟩ := id hv
  have ho := hk0.ho
  have htb := hk0.htb
  obtain ⟨htl, -⟩ := id htb
  have hb := hk0.hb
  obtain ⟨hpa, hal, hde, hsl, hle, hhi⟩ := id hQ
  have hd0 : de 0 = 0 := by rw [hde 0 (by omega) (by omega)]; rfl
  have hs0 : sl 0 = 0 := by rw [hsl 0 (by omega) (by omega)]; rfl
  refine J_aload_n (q := 1) X dX9_insert_0 rfl rfl ?_
  refine J_get (q := 4) X dX9_insert_1 fX9_32 hFk (by omega) rfl rfl ?_
  refine J_iload_n (q := 5) X dX9_insert_4 rfl rfl ?_
  refine J_callP (q := 8) (jrV X mX9_153 dX9_insert_5 (c_X3_hasPlace hR hC (by omega) (by omega) (by omega)) hR (by omega) rfl rfl rfl rfl (Nat.le_of_ble_eq_true rfl) (by decide)) rfl ?_
  refine J_if_eqB (q := 11) (tgt := 18) X dX9_insert_8 (by decide) rfl (fun cq8 => ?_) (fun cq8 => ?_)
  · refine J_iconst (q := 19) X dX9_insert_18 rfl ?_
    refine J_iret X R dX9_insert_19 ?_
    rw [hE0] at hF
    rw [show qInsert s i c = (-1, s) by unfold qInsert; first | (rw [if_pos (by omega)]; done) | (rw [if_pos (Or.inr cq15)]; done) | (rw [if_pos (Or.inl cq8)]; done)]
    exact ⟨_, rfl, rfl, hc, hF⟩
  · refine J_iload_n (q := 12) X dX9_insert_11 rfl rfl ?_
    refine J_callP (q := 15) (jrS X mX9_178 dX9_insert_12 (c_X5_isSign (by omega)) rfl rfl (Nat.le_of_ble_eq_true rfl) (by decide)) rfl ?_
    refine J_if_neB (q := 18) (tgt := 20) X dX9_insert_15 (by decide) rfl (fun cq15 => ?_) (fun cq15 => ?_)
    · refine J_aload_n (q := 21) X dX9_insert_20 rfl rfl ?_
      refine J_get (q := 24) X dX9_insert_21 fX9_32 hFk (by omega) rfl rfl ?_
      refine J_callP (q := 27) (jrV X mX9_190 dX9_insert_24 (c_X3_room hR hC (by omega) (by omega)) hR (by omega) rfl rfl rfl rfl (Nat.le_of_ble_eq_true rfl) (by decide)) rfl ?_
      refine J_iconst (q := 28) X dX9_insert_27 rfl ?_
      refine J_icmp_ge (q := 31) (tgt := 34) X dX9_insert_28 (by decide) rfl (by omega) (by omega) (fun cq28 => ?_) (fun cq28 => ?_)
      · refine J_aload_n (q := 35) X dX9_insert_34 rfl rfl ?_
        refine J_get (q := 38) X dX9_insert_35 fX9_32 hFk (by omega) rfl rfl ?_
        refine J_iload_n (q := 39) X dX9_insert_38 rfl rfl ?_
        refine J_iload_n (q := 40) X dX9_insert_39 rfl rfl ?_
        refine J_callV (q := 43) (jrV X mX9_193 dX9_insert_40 (c_X3_bringIn hR hC (by omega) (by omega) (by omega)) hR (by omega) rfl rfl rfl rfl (Nat.le_of_ble_eq_true rfl) (by decide)) rfl (fun Ew40 hpq40 => ?_)
        obtain ⟨kR, kC, hsq40⟩ := hpq40
        replace hR := kR
        replace hC := kC
        replace hFk := (hsq40 0 (by omega)).trans hFk
        replace hRd := (hsq40 1 (by omega)).trans hRd
        replace hK := (hsq40 2 (by omega)).trans hK
        replace hT := (hsq40 3 (by omega)).trans hT
        replace hY := (hsq40 4 (by omega)).trans hY
        replace hBl := (hsq40 5 (by omega)).trans hBl
        replace hDr := (hsq40 6 (by omega)).trans hDr
        replace hDC := (hsq40 7 (by omega)).trans hDC
        replace hMk := (hsq40 8 (by omega)).trans hMk
        replace hB := (hsq40 9 (by omega)).trans hB
        replace hP := (hsq40 12 (by omega)).trans hP
        replace hA := (hsq40 13 (by omega)).trans hA
        replace hH := (hsq40 14 (by omega)).trans hH
        replace hD := (hsq40 15 (by omega)).trans hD
        replace hS := (hsq40 16 (by omega)).trans hS
        replace hV := (hsq40 17 (by omega)).trans hV
        replace hZ := (hsq40 18 (by omega)).trans hZ
        replace hHs := (hsq40 19 (by omega)).trans hHs
        replace hSt := (hsq40 20 (by omega)).trans hSt
        replace hHR := (fun i hi => (hsq40 (21 + 2 * i) (by omega)).trans (hHR i hi))
        replace hHC := (fun i hi => (hsq40 (22 + 2 * i) (by omega)).trans (hHC i hi))
        replace hIm := (hsq40 63 (by omega)).trans hIm
        replace hIR := (fun i hi => (hsq40 (64 + 2 * i) (by omega)).trans (hIR i hi))
        replace hIC := (fun i hi => (hsq40 (65 + 2 * i) (by omega)).trans (hIC i hi))
        replace hKp := (hsq40 68 (by omega)).trans hKp
        replace hSh := (hsq40 69 (by omega)).trans hSh
        replace hSR := (fun i hi => (hsq40 (70 + 2 * i) (by omega)).trans (hSR i hi))
        replace hSC := (fun i hi => (hsq40 (71 + 2 * i) (by omega)).trans (hSC i hi))
        replace hF : ∀ j : Nat, 78 ≤ j → Ew40 j = E0 j := fun j hj => (hsq40 j (by omega)).trans (hF j hj)
        refine J_aload_n (q := 44) X dX9_insert_43 rfl rfl ?_
        refine J_aload_n (q := 45) X dX9_insert_44 rfl rfl ?_
        refine J_get (q := 48) X dX9_insert_45 fX9_32 hFk (by omega) rfl rfl ?_
        refine J_get (q := 51) X dX9_insert_48 fX9_102 hR (by omega) rfl rfl ?_
        refine J_callI (q := 54) (jrV X mX9_187 dX9_insert_51 (c_X9_edited (s := s.row (s.n + 1) (iu (icp s.f s.f i (i + 1) (s.n - i)) i c)) (show KJ Γ ad _ (s.row (s.n + 1) (iu (icp s.f s.f i (i + 1) (s.n - i)) i c)) KQ from ⟨_, _, _, _, _, _, _, _, _, _, _, _, _, _, _, _, _, _, hFk, hRd, hK, hT, hY, hBl, hDr, hDC, hMk, hB, hR, hC, hP, hA, hH, hD, hS, hV, hZ, hHs, hSt, hHR, hHC, hIm, hIR, hIC, hKp, hSh, hSR, hSC, hdm, hmk, ⟨hd0, hs0⟩⟩) (kv_row hk0 (VR_ins hv (by omega) (gd_sgn cq15)))) hFk (by omega) rfl rfl rfl rfl (Nat.le_of_ble_eq_true rfl) (by decide)) rfl (fun zq51 Ew51 hpq51 => ?_)
        obtain ⟨hzq51, hkqq51, hsq51⟩ := hpq51
        replace hF : ∀ j : Nat, 78 ≤ j → Ew51 j = E0 j := fun j hj => (hsq51 j (by omega)).trans (hF j hj)
        refine J_iret X R dX9_insert_54 ?_
        rw [hE0] at hF
        rw [show qInsert s i c = (s.n + 1, (s.row (s.n + 1) (iu (icp s.f s.f i (i + 1) (s.n - i)) i c)).ed) by unfold qInsert; rw [if_neg (fun z => z.elim (fun z => z cq8) (fun z => z cq15)), if_neg (by omega)]]
        exact ⟨_, rfl, hzq51, hkqq51, hF⟩
      · refine J_bipush (q := 33) X dX9_insert_31 rfl (by decide) ?_
        refine J_iret X R dX9_insert_33 ?_
        rw [hE0] at hF
        rw [show qInsert s i c = (-3, s) by unfold qInsert; rw [if_neg (fun z => z.elim (fun z => z cq8) (fun z => z cq15)), if_pos (by omega)]]
        exact ⟨_, rfl, rfl, hc, hF⟩
    · refine J_iconst (q := 19) X dX9_insert_18 rfl ?_
      refine J_iret X R dX9_insert_19 ?_
      rw [hE0] at hF
      rw [show qInsert s i c = (-1, s) by unfold qInsert; first | (rw [if_pos (by omega)]; done) | (rw [if_pos (Or.inr cq15)]; done) | (rw [if_pos (Or.inl cq8)]; done)]
      exact ⟨_, rfl, rfl, hc, hF⟩

set_option maxRecDepth 100000 in
set_option maxHeartbeats 4000000 in
theorem c_X9_drop {l : Launch} {Γ : JG} {ad : Nat → Nat} {E : Nat → va_E} {s : KS} {i m : Int} (hc : KI Γ ad E s) (hbi : -2147483648 ≤ i ∧ i < 2147483648) (hbm : -2147483648 ≤ m ∧ m < 2147483648) : JM l Γ yX9_drop cX9_drop 3 (some .int) 6 128 0 0 ad 95 E [.ref (ad 0), .int (jI i), .int (jI m)] (pI (fun z E' => z = (qDrop s i m).1 ∧ KI Γ ad E' (qDrop s i m).2 ∧ ∀ j : Nat, 78 ≤ j → E' j = E j)) := by
  refine JM_intro (own := RX9) [some (.ref (ad 0)), some (.int (jI i)), some (.int (jI m))] rfl rfl rfl (Nat.le_of_ble_eq_true rfl) ?_
  intro Ω X R hin
  obtain ⟨E0, hE0⟩ : ∃ E0 : Nat → va_E, E0 = E := ⟨_, rfl⟩
  have hF : ∀ j : Nat, 78 ≤ j → E j = E0 j := fun _ _ => by rw [hE0]
  obtain ⟨hj, hk⟩ := id hc
  obtain ⟨hk0, -⟩ := id hk
  obtain ⟨x, mk, ti, k0, ka, kb, kv, dm, b1, df, ma, pa, al, hp, de, sl, le, hi, hFk, hRd, hK, hT, hY, hBl, hDr, hDC, hMk, hB, hR, hC, hP, hA, hH, hD, hS, hV, hZ, hHs, hSt, hHR, hHC, hIm, hIR, hIC, hKp, hSh, hSR, hSC, hdm, hmk, hQ⟩ := hj
  have hv := hk0.hv
  obtain ⟨hn, -⟩ := id hv
  have ho := hk0.ho
  have htb := hk0.htb
  obtain ⟨htl, -⟩ := id htb
  have hb := hk0.hb
  obtain ⟨hpa, hal, hde, hsl, hle, hhi⟩ := id hQ
  have hd0 : de 0 = 0 := by rw [hde 0 (by omega) (by omega)]; rfl
  have hs0 : sl 0 = 0 := by rw [hsl 0 (by omega) (by omega)]; rfl
  refine J_aload_n (q := 1) X dX9_drop_0 rfl rfl ?_
  refine J_get (q := 4) X dX9_drop_1 fX9_32 hFk (by omega) rfl rfl ?_
  refine J_iload_n (q := 5) X dX9_drop_4 rfl rfl ?_
  refine J_iload_n (q := 6) X dX9_drop_5 rfl rfl ?_
  refine J_callP (q := 9) (jrV X mX9_196 dX9_drop_6 (c_X3_hasPart hR hC (by omega) (by omega) (by omega) (by omega)) hR (by omega) rfl rfl rfl rfl (Nat.le_of_ble_eq_true rfl) (by decide)) rfl ?_
  refine J_if_neB (q := 12) (tgt := 14) X dX9_drop_9 (by decide) rfl (fun cq9 => ?_) (fun cq9 => ?_)
  · refine J_aload_n (q := 15) X dX9_drop_14 rfl rfl ?_
    refine J_get (q := 18) X dX9_drop_15 fX9_32 hFk (by omega) rfl rfl ?_
    refine J_iload_n (q := 19) X dX9_drop_18 rfl rfl ?_
    refine J_iload_n (q := 20) X dX9_drop_19 rfl rfl ?_
    refine J_callV (q := 23) (jrV X mX9_200 dX9_drop_20 (c_X3_takeOut hR hC (by omega) (by omega) (by omega)) hR (by omega) rfl rfl rfl rfl (Nat.le_of_ble_eq_true rfl) (by decide)) rfl (fun Ew20 hpq20 => ?_)
    obtain ⟨kR, kC, hsq20⟩ := hpq20
    replace hR := kR
    replace hC := kC
    replace hFk := (hsq20 0 (by omega)).trans hFk
    replace hRd := (hsq20 1 (by omega)).trans hRd
    replace hK := (hsq20 2 (by omega)).trans hK
    replace hT := (hsq20 3 (by omega)).trans hT
    replace hY := (hsq20 4 (by omega)).trans hY
    replace hBl := (hsq20 5 (by omega)).trans hBl
    replace hDr := (hsq20 6 (by omega)).trans hDr
    replace hDC := (hsq20 7 (by omega)).trans hDC
    replace hMk := (hsq20 8 (by omega)).trans hMk
    replace hB := (hsq20 9 (by omega)).trans hB
    replace hP := (hsq20 12 (by omega)).trans hP
    replace hA := (hsq20 13 (by omega)).trans hA
    replace hH := (hsq20 14 (by omega)).trans hH
    replace hD := (hsq20 15 (by omega)).trans hD
    replace hS := (hsq20 16 (by omega)).trans hS
    replace hV := (hsq20 17 (by omega)).trans hV
    replace hZ := (hsq20 18 (by omega)).trans hZ
    replace hHs := (hsq20 19 (by omega)).trans hHs
    replace hSt := (hsq20 20 (by omega)).trans hSt
    replace hHR := (fun i hi => (hsq20 (21 + 2 * i) (by omega)).trans (hHR i hi))
    replace hHC := (fun i hi => (hsq20 (22 + 2 * i) (by omega)).trans (hHC i hi))
    replace hIm := (hsq20 63 (by omega)).trans hIm
    replace hIR := (fun i hi => (hsq20 (64 + 2 * i) (by omega)).trans (hIR i hi))
    replace hIC := (fun i hi => (hsq20 (65 + 2 * i) (by omega)).trans (hIC i hi))
    replace hKp := (hsq20 68 (by omega)).trans hKp
    replace hSh := (hsq20 69 (by omega)).trans hSh
    replace hSR := (fun i hi => (hsq20 (70 + 2 * i) (by omega)).trans (hSR i hi))
    replace hSC := (fun i hi => (hsq20 (71 + 2 * i) (by omega)).trans (hSC i hi))
    replace hF : ∀ j : Nat, 78 ≤ j → Ew20 j = E0 j := fun j hj => (hsq20 j (by omega)).trans (hF j hj)
    refine J_aload_n (q := 24) X dX9_drop_23 rfl rfl ?_
    refine J_aload_n (q := 25) X dX9_drop_24 rfl rfl ?_
    refine J_get (q := 28) X dX9_drop_25 fX9_32 hFk (by omega) rfl rfl ?_
    refine J_get (q := 31) X dX9_drop_28 fX9_102 hR (by omega) rfl rfl ?_
    refine J_callI (q := 34) (jrV X mX9_187 dX9_drop_31 (c_X9_edited (s := s.row (s.n - m) (icp s.f s.f (i + m) i (s.n - i - m))) (show KJ Γ ad _ (s.row (s.n - m) (icp s.f s.f (i + m) i (s.n - i - m))) KQ from ⟨_, _, _, _, _, _, _, _, _, _, _, _, _, _, _, _, _, _, hFk, hRd, hK, hT, hY, hBl, hDr, hDC, hMk, hB, hR, hC, hP, hA, hH, hD, hS, hV, hZ, hHs, hSt, hHR, hHC, hIm, hIR, hIC, hKp, hSh, hSR, hSC, hdm, hmk, ⟨hd0, hs0⟩⟩) (kv_row hk0 (VR_drop hv (by omega)))) hFk (by omega) rfl rfl rfl rfl (Nat.le_of_ble_eq_true rfl) (by decide)) rfl (fun zq31 Ew31 hpq31 => ?_)
    obtain ⟨hzq31, hkqq31, hsq31⟩ := hpq31
    replace hF : ∀ j : Nat, 78 ≤ j → Ew31 j = E0 j := fun j hj => (hsq31 j (by omega)).trans (hF j hj)
    refine J_iret X R dX9_drop_34 ?_
    rw [hE0] at hF
    rw [show qDrop s i m = (s.n - m, (s.row (s.n - m) (icp s.f s.f (i + m) i (s.n - i - m))).ed) by unfold qDrop; rw [if_neg (fun z => z cq9)]]
    exact ⟨_, rfl, hzq31, hkqq31, hF⟩
  · refine J_iconst (q := 13) X dX9_drop_12 rfl ?_
    refine J_iret X R dX9_drop_13 ?_
    rw [hE0] at hF
    rw [show qDrop s i m = (-1, s) by unfold qDrop; rw [if_pos cq9]]
    exact ⟨_, rfl, rfl, hc, hF⟩

set_option maxRecDepth 100000 in
set_option maxHeartbeats 4000000 in
theorem c_X9_move {l : Launch} {Γ : JG} {ad : Nat → Nat} {E : Nat → va_E} {s : KS} {i m p : Int} (hc : KI Γ ad E s) (hbi : -2147483648 ≤ i ∧ i < 2147483648) (hbm : -2147483648 ≤ m ∧ m < 2147483648) (hbp : -2147483648 ≤ p ∧ p < 2147483648) : JM l Γ yX9_move cX9_move 4 (some .int) 6 128 0 0 ad 95 E [.ref (ad 0), .int (jI i), .int (jI m), .int (jI p)] (pI (fun z E' => z = (qMove s i m p).1 ∧ KI Γ ad E' (qMove s i m p).2 ∧ ∀ j : Nat, 78 ≤ j → E' j = E j)) := by
  refine JM_intro (own := RX9) [some (.ref (ad 0)), some (.int (jI i)), some (.int (jI m)), some (.int (jI p))] rfl rfl rfl (Nat.le_of_ble_eq_true rfl) ?_
  intro Ω X R hin
  obtain ⟨E0, hE0⟩ : ∃ E0 : Nat → va_E, E0 = E := ⟨_, rfl⟩
  have hF : ∀ j : Nat, 78 ≤ j → E j = E0 j := fun _ _ => by rw [hE0]
  obtain ⟨hj, hk⟩ := id hc
  obtain ⟨hk0, -⟩ := id hk
  obtain ⟨x, mk, ti, k0, ka, kb, kv, dm, b1, df, ma, pa, al, hp, de, sl, le, hi, hFk, hRd, hK, hT, hY, hBl, hDr, hDC, hMk, hB, hR, hC, hP, hA, hH, hD, hS, hV, hZ, hHs, hSt, hHR, hHC, hIm, hIR, hIC, hKp, hSh, hSR, hSC, hdm, hmk, hQ⟩ := hj
  have hv := hk0.hv
  obtain ⟨hn, -⟩ := id hv
  have ho := hk0.ho
  have htb := hk0.htb
  obtain ⟨htl, -⟩ := id htb
  have hb := hk0.hb
  obtain ⟨hpa, hal, hde, hsl, hle, hhi⟩ := id hQ
  have hd0 : de 0 = 0 := by rw [hde 0 (by omega) (by omega)]; rfl
  have hs0 : sl 0 = 0 := by rw [hsl 0 (by omega) (by omega)]; rfl
  refine J_aload_n (q := 1) X dX9_move_0 rfl rfl ?_
  refine J_get (q := 4) X dX9_move_1 fX9_32 hFk (by omega) rfl rfl ?_
  refine J_iload_n (q := 5) X dX9_move_4 rfl rfl ?_
  refine J_iload_n (q := 6) X dX9_move_5 rfl rfl ?_
  refine J_callP (q := 9) (jrV X mX9_196 dX9_move_6 (c_X3_hasPart hR hC (by omega) (by omega) (by omega) (by omega)) hR (by omega) rfl rfl rfl rfl (Nat.le_of_ble_eq_true rfl) (by decide)) rfl ?_
  refine J_if_eqB (q := 12) (tgt := 35) X dX9_move_9 (by decide) rfl (fun cq9 => ?_) (fun cq9 => ?_)
  · refine J_iconst (q := 36) X dX9_move_35 rfl ?_
    refine J_iret X R dX9_move_36 ?_
    rw [hE0] at hF
    rw [show qMove s i m p = (-1, s) by unfold qMove; rw [if_pos (fun z => by obtain ⟨z1, z2, z3⟩ := z; omega)]]
    exact ⟨_, rfl, rfl, hc, hF⟩
  · refine J_aload_n (q := 13) X dX9_move_12 rfl rfl ?_
    refine J_get (q := 16) X dX9_move_13 fX9_32 hFk (by omega) rfl rfl ?_
    refine J_iload_n (q := 17) X dX9_move_16 rfl rfl ?_
    refine J_callP (q := 20) (jrV X mX9_153 dX9_move_17 (c_X3_hasPlace hR hC (by omega) (by omega) (by omega)) hR (by omega) rfl rfl rfl rfl (Nat.le_of_ble_eq_true rfl) (by decide)) rfl ?_
    refine J_if_eqB (q := 23) (tgt := 35) X dX9_move_20 (by decide) rfl (fun cq20 => ?_) (fun cq20 => ?_)
    · refine J_iconst (q := 36) X dX9_move_35 rfl ?_
      refine J_iret X R dX9_move_36 ?_
      rw [hE0] at hF
      rw [show qMove s i m p = (-1, s) by unfold qMove; rw [if_pos (fun z => by obtain ⟨z1, z2, z3⟩ := z; omega)]]
      exact ⟨_, rfl, rfl, hc, hF⟩
    · refine J_iload_n (q := 24) X dX9_move_23 rfl rfl ?_
      refine J_iload_n (q := 25) X dX9_move_24 rfl rfl ?_
      refine J_icmp_le (q := 28) (tgt := 37) X dX9_move_25 (by decide) rfl (by omega) (by omega) (fun cq25 => ?_) (fun cq25 => ?_)
      · refine J_aload_n (q := 38) X dX9_move_37 rfl rfl ?_
        refine J_get (q := 41) X dX9_move_38 fX9_32 hFk (by omega) rfl rfl ?_
        refine J_iload_n (q := 42) X dX9_move_41 rfl rfl ?_
        refine J_iload_n (q := 43) X dX9_move_42 rfl rfl ?_
        refine J_iload_n (q := 44) X dX9_move_43 rfl rfl ?_
        refine J_callV (q := 47) (jrV X mX9_203 dX9_move_44 (c_X3_shift hR hC (by omega) (by omega) (by omega)) hR (by omega) rfl rfl rfl rfl (Nat.le_of_ble_eq_true rfl) (by decide)) rfl (fun Ew44 hpq44 => ?_)
        obtain ⟨kC, hsq44⟩ := hpq44
        replace hC := kC
        replace hFk := (hsq44 0 (by omega)).trans hFk
        replace hRd := (hsq44 1 (by omega)).trans hRd
        replace hK := (hsq44 2 (by omega)).trans hK
        replace hT := (hsq44 3 (by omega)).trans hT
        replace hY := (hsq44 4 (by omega)).trans hY
        replace hBl := (hsq44 5 (by omega)).trans hBl
        replace hDr := (hsq44 6 (by omega)).trans hDr
        replace hDC := (hsq44 7 (by omega)).trans hDC
        replace hMk := (hsq44 8 (by omega)).trans hMk
        replace hB := (hsq44 9 (by omega)).trans hB
        replace hR := (hsq44 10 (by omega)).trans hR
        replace hP := (hsq44 12 (by omega)).trans hP
        replace hA := (hsq44 13 (by omega)).trans hA
        replace hH := (hsq44 14 (by omega)).trans hH
        replace hD := (hsq44 15 (by omega)).trans hD
        replace hS := (hsq44 16 (by omega)).trans hS
        replace hV := (hsq44 17 (by omega)).trans hV
        replace hZ := (hsq44 18 (by omega)).trans hZ
        replace hHs := (hsq44 19 (by omega)).trans hHs
        replace hSt := (hsq44 20 (by omega)).trans hSt
        replace hHR := (fun i hi => (hsq44 (21 + 2 * i) (by omega)).trans (hHR i hi))
        replace hHC := (fun i hi => (hsq44 (22 + 2 * i) (by omega)).trans (hHC i hi))
        replace hIm := (hsq44 63 (by omega)).trans hIm
        replace hIR := (fun i hi => (hsq44 (64 + 2 * i) (by omega)).trans (hIR i hi))
        replace hIC := (fun i hi => (hsq44 (65 + 2 * i) (by omega)).trans (hIC i hi))
        replace hKp := (hsq44 68 (by omega)).trans hKp
        replace hSh := (hsq44 69 (by omega)).trans hSh
        replace hSR := (fun i hi => (hsq44 (70 + 2 * i) (by omega)).trans (hSR i hi))
        replace hSC := (fun i hi => (hsq44 (71 + 2 * i) (by omega)).trans (hSC i hi))
        replace hF : ∀ j : Nat, 78 ≤ j → Ew44 j = E0 j := fun j hj => (hsq44 j (by omega)).trans (hF j hj)
        refine J_aload_n (q := 48) X dX9_move_47 rfl rfl ?_
        refine J_iconst (q := 49) X dX9_move_48 rfl ?_
        refine J_callI (q := 52) (jrV X mX9_187 dX9_move_49 (c_X9_edited (s := s.row (s.n) (if p ≤ i then sw s.f p i (i + m) else sw s.f i (i + m) p)) (show KJ Γ ad _ (s.row (s.n) (if p ≤ i then sw s.f p i (i + m) else sw s.f i (i + m) p)) KQ from ⟨_, _, _, _, _, _, _, _, _, _, _, _, _, _, _, _, _, _, hFk, hRd, hK, hT, hY, hBl, hDr, hDC, hMk, hB, hR, hC, hP, hA, hH, hD, hS, hV, hZ, hHs, hSt, hHR, hHC, hIm, hIR, hIC, hKp, hSh, hSR, hSC, hdm, hmk, ⟨hd0, hs0⟩⟩) (kv_row hk0 (VR_move hv (by omega)))) hFk (by omega) rfl rfl rfl rfl (Nat.le_of_ble_eq_true rfl) (by decide)) rfl (fun zq49 Ew49 hpq49 => ?_)
        obtain ⟨hzq49, hkqq49, hsq49⟩ := hpq49
        replace hF : ∀ j : Nat, 78 ≤ j → Ew49 j = E0 j := fun j hj => (hsq49 j (by omega)).trans (hF j hj)
        refine J_iret X R dX9_move_52 ?_
        rw [hE0] at hF
        rw [show qMove s i m p = (1, (s.row (s.n) (if p ≤ i then sw s.f p i (i + m) else sw s.f i (i + m) p)).ed) by unfold qMove; rw [if_neg (fun z => z ⟨cq9, cq20, by omega⟩)]]
        exact ⟨_, rfl, hzq49, hkqq49, hF⟩
      · refine J_iload_n (q := 29) X dX9_move_28 rfl rfl ?_
        refine J_iload_n (q := 30) X dX9_move_29 rfl rfl ?_
        refine J_iload_n (q := 31) X dX9_move_30 rfl rfl ?_
        refine J_iadd (q := 32) X dX9_move_31 rfl ?_
        refine J_icmp_ge (q := 35) (tgt := 37) X dX9_move_32 (by decide) rfl (by omega) (by omega) (fun cq32 => ?_) (fun cq32 => ?_)
        · refine J_aload_n (q := 38) X dX9_move_37 rfl rfl ?_
          refine J_get (q := 41) X dX9_move_38 fX9_32 hFk (by omega) rfl rfl ?_
          refine J_iload_n (q := 42) X dX9_move_41 rfl rfl ?_
          refine J_iload_n (q := 43) X dX9_move_42 rfl rfl ?_
          refine J_iload_n (q := 44) X dX9_move_43 rfl rfl ?_
          refine J_callV (q := 47) (jrV X mX9_203 dX9_move_44 (c_X3_shift hR hC (by omega) (by omega) (by omega)) hR (by omega) rfl rfl rfl rfl (Nat.le_of_ble_eq_true rfl) (by decide)) rfl (fun Ew44 hpq44 => ?_)
          obtain ⟨kC, hsq44⟩ := hpq44
          replace hC := kC
          replace hFk := (hsq44 0 (by omega)).trans hFk
          replace hRd := (hsq44 1 (by omega)).trans hRd
          replace hK := (hsq44 2 (by omega)).trans hK
          replace hT := (hsq44 3 (by omega)).trans hT
          replace hY := (hsq44 4 (by omega)).trans hY
          replace hBl := (hsq44 5 (by omega)).trans hBl
          replace hDr := (hsq44 6 (by omega)).trans hDr
          replace hDC := (hsq44 7 (by omega)).trans hDC
          replace hMk := (hsq44 8 (by omega)).trans hMk
          replace hB := (hsq44 9 (by omega)).trans hB
          replace hR := (hsq44 10 (by omega)).trans hR
          replace hP := (hsq44 12 (by omega)).trans hP
          replace hA := (hsq44 13 (by omega)).trans hA
          replace hH := (hsq44 14 (by omega)).trans hH
          replace hD := (hsq44 15 (by omega)).trans hD
          replace hS := (hsq44 16 (by omega)).trans hS
          replace hV := (hsq44 17 (by omega)).trans hV
          replace hZ := (hsq44 18 (by omega)).trans hZ
          replace hHs := (hsq44 19 (by omega)).trans hHs
          replace hSt := (hsq44 20 (by omega)).trans hSt
          replace hHR := (fun i hi => (hsq44 (21 + 2 * i) (by omega)).trans (hHR i hi))
          replace hHC := (fun i hi => (hsq44 (22 + 2 * i) (by omega)).trans (hHC i hi))
          replace hIm := (hsq44 63 (by omega)).trans hIm
          replace hIR := (fun i hi => (hsq44 (64 + 2 * i) (by omega)).trans (hIR i hi))
          replace hIC := (fun i hi => (hsq44 (65 + 2 * i) (by omega)).trans (hIC i hi))
          replace hKp := (hsq44 68 (by omega)).trans hKp
          replace hSh := (hsq44 69 (by omega)).trans hSh
          replace hSR := (fun i hi => (hsq44 (70 + 2 * i) (by omega)).trans (hSR i hi))
          replace hSC := (fun i hi => (hsq44 (71 + 2 * i) (by omega)).trans (hSC i hi))
          replace hF : ∀ j : Nat, 78 ≤ j → Ew44 j = E0 j := fun j hj => (hsq44 j (by omega)).trans (hF j hj)
          refine J_aload_n (q := 48) X dX9_move_47 rfl rfl ?_
          refine J_iconst (q := 49) X dX9_move_48 rfl ?_
          refine J_callI (q := 52) (jrV X mX9_187 dX9_move_49 (c_X9_edited (s := s.row (s.n) (if p ≤ i then sw s.f p i (i + m) else sw s.f i (i + m) p)) (show KJ Γ ad _ (s.row (s.n) (if p ≤ i then sw s.f p i (i + m) else sw s.f i (i + m) p)) KQ from ⟨_, _, _, _, _, _, _, _, _, _, _, _, _, _, _, _, _, _, hFk, hRd, hK, hT, hY, hBl, hDr, hDC, hMk, hB, hR, hC, hP, hA, hH, hD, hS, hV, hZ, hHs, hSt, hHR, hHC, hIm, hIR, hIC, hKp, hSh, hSR, hSC, hdm, hmk, ⟨hd0, hs0⟩⟩) (kv_row hk0 (VR_move hv (by omega)))) hFk (by omega) rfl rfl rfl rfl (Nat.le_of_ble_eq_true rfl) (by decide)) rfl (fun zq49 Ew49 hpq49 => ?_)
          obtain ⟨hzq49, hkqq49, hsq49⟩ := hpq49
          replace hF : ∀ j : Nat, 78 ≤ j → Ew49 j = E0 j := fun j hj => (hsq49 j (by omega)).trans (hF j hj)
          refine J_iret X R dX9_move_52 ?_
          rw [hE0] at hF
          rw [show qMove s i m p = (1, (s.row (s.n) (if p ≤ i then sw s.f p i (i + m) else sw s.f i (i + m) p)).ed) by unfold qMove; rw [if_neg (fun z => z ⟨cq9, cq20, by omega⟩)]]
          exact ⟨_, rfl, hzq49, hkqq49, hF⟩
        · refine J_iconst (q := 36) X dX9_move_35 rfl ?_
          refine J_iret X R dX9_move_36 ?_
          rw [hE0] at hF
          rw [show qMove s i m p = (-1, s) by unfold qMove; rw [if_pos (fun z => by obtain ⟨z1, z2, z3⟩ := z; omega)]]
          exact ⟨_, rfl, rfl, hc, hF⟩

set_option maxRecDepth 100000 in
set_option maxHeartbeats 4000000 in
theorem c_X9_copy {l : Launch} {Γ : JG} {ad : Nat → Nat} {E : Nat → va_E} {s : KS} {i m p : Int} (hc : KI Γ ad E s) (hbi : -2147483648 ≤ i ∧ i < 2147483648) (hbm : -2147483648 ≤ m ∧ m < 2147483648) (hbp : -2147483648 ≤ p ∧ p < 2147483648) : JM l Γ yX9_copy cX9_copy 4 (some .int) 6 128 0 0 ad 95 E [.ref (ad 0), .int (jI i), .int (jI m), .int (jI p)] (pI (fun z E' => z = (qCopy s i m p).1 ∧ KI Γ ad E' (qCopy s i m p).2 ∧ ∀ j : Nat, 78 ≤ j → E' j = E j)) := by
  refine JM_intro (own := RX9) [some (.ref (ad 0)), some (.int (jI i)), some (.int (jI m)), some (.int (jI p))] rfl rfl rfl (Nat.le_of_ble_eq_true rfl) ?_
  intro Ω X R hin
  obtain ⟨E0, hE0⟩ : ∃ E0 : Nat → va_E, E0 = E := ⟨_, rfl⟩
  have hF : ∀ j : Nat, 78 ≤ j → E j = E0 j := fun _ _ => by rw [hE0]
  obtain ⟨hj, hk⟩ := id hc
  obtain ⟨hk0, -⟩ := id hk
  obtain ⟨x, mk, ti, k0, ka, kb, kv, dm, b1, df, ma, pa, al, hp, de, sl, le, hi, hFk, hRd, hK, hT, hY, hBl, hDr, hDC, hMk, hB, hR, hC, hP, hA, hH, hD, hS, hV, hZ, hHs, hSt, hHR, hHC, hIm, hIR, hIC, hKp, hSh, hSR, hSC, hdm, hmk, hQ⟩ := hj
  have hv := hk0.hv
  obtain ⟨hn, -⟩ := id hv
  have ho := hk0.ho
  have htb := hk0.htb
  obtain ⟨htl, -⟩ := id htb
  have hb := hk0.hb
  obtain ⟨hpa, hal, hde, hsl, hle, hhi⟩ := id hQ
  have hd0 : de 0 = 0 := by rw [hde 0 (by omega) (by omega)]; rfl
  have hs0 : sl 0 = 0 := by rw [hsl 0 (by omega) (by omega)]; rfl
  refine J_aload_n (q := 1) X dX9_copy_0 rfl rfl ?_
  refine J_get (q := 4) X dX9_copy_1 fX9_32 hFk (by omega) rfl rfl ?_
  refine J_iload_n (q := 5) X dX9_copy_4 rfl rfl ?_
  refine J_iload_n (q := 6) X dX9_copy_5 rfl rfl ?_
  refine J_callP (q := 9) (jrV X mX9_196 dX9_copy_6 (c_X3_hasPart hR hC (by omega) (by omega) (by omega) (by omega)) hR (by omega) rfl rfl rfl rfl (Nat.le_of_ble_eq_true rfl) (by decide)) rfl ?_
  refine J_if_eqB (q := 12) (tgt := 23) X dX9_copy_9 (by decide) rfl (fun cq9 => ?_) (fun cq9 => ?_)
  · refine J_iconst (q := 24) X dX9_copy_23 rfl ?_
    refine J_iret X R dX9_copy_24 ?_
    rw [hE0] at hF
    rw [show qCopy s i m p = (-1, s) by unfold qCopy; rw [if_pos (fun z => by obtain ⟨z1, z2⟩ := z; omega)]]
    exact ⟨_, rfl, rfl, hc, hF⟩
  · refine J_aload_n (q := 13) X dX9_copy_12 rfl rfl ?_
    refine J_get (q := 16) X dX9_copy_13 fX9_32 hFk (by omega) rfl rfl ?_
    refine J_iload_n (q := 17) X dX9_copy_16 rfl rfl ?_
    refine J_callP (q := 20) (jrV X mX9_153 dX9_copy_17 (c_X3_hasPlace hR hC (by omega) (by omega) (by omega)) hR (by omega) rfl rfl rfl rfl (Nat.le_of_ble_eq_true rfl) (by decide)) rfl ?_
    refine J_if_neB (q := 23) (tgt := 25) X dX9_copy_20 (by decide) rfl (fun cq20 => ?_) (fun cq20 => ?_)
    · refine J_aload_n (q := 26) X dX9_copy_25 rfl rfl ?_
      refine J_get (q := 29) X dX9_copy_26 fX9_32 hFk (by omega) rfl rfl ?_
      refine J_callP (q := 32) (jrV X mX9_190 dX9_copy_29 (c_X3_room hR hC (by omega) (by omega)) hR (by omega) rfl rfl rfl rfl (Nat.le_of_ble_eq_true rfl) (by decide)) rfl ?_
      refine J_iload_n (q := 33) X dX9_copy_32 rfl rfl ?_
      refine J_icmp_ge (q := 36) (tgt := 39) X dX9_copy_33 (by decide) rfl (by omega) (by omega) (fun cq33 => ?_) (fun cq33 => ?_)
      · refine J_aload_n (q := 40) X dX9_copy_39 rfl rfl ?_
        refine J_get (q := 43) X dX9_copy_40 fX9_32 hFk (by omega) rfl rfl ?_
        refine J_iload_n (q := 44) X dX9_copy_43 rfl rfl ?_
        refine J_iload_n (q := 45) X dX9_copy_44 rfl rfl ?_
        refine J_iload_n (q := 46) X dX9_copy_45 rfl rfl ?_
        refine J_callV (q := 49) (jrV X mX9_207 dX9_copy_46 (c_X3_repeat hR hC (by omega) (by omega) (by omega)) hR (by omega) rfl rfl rfl rfl (Nat.le_of_ble_eq_true rfl) (by decide)) rfl (fun Ew46 hpq46 => ?_)
        obtain ⟨kR, kC, hsq46⟩ := hpq46
        replace hR := kR
        replace hC := kC
        replace hFk := (hsq46 0 (by omega)).trans hFk
        replace hRd := (hsq46 1 (by omega)).trans hRd
        replace hK := (hsq46 2 (by omega)).trans hK
        replace hT := (hsq46 3 (by omega)).trans hT
        replace hY := (hsq46 4 (by omega)).trans hY
        replace hBl := (hsq46 5 (by omega)).trans hBl
        replace hDr := (hsq46 6 (by omega)).trans hDr
        replace hDC := (hsq46 7 (by omega)).trans hDC
        replace hMk := (hsq46 8 (by omega)).trans hMk
        replace hB := (hsq46 9 (by omega)).trans hB
        replace hP := (hsq46 12 (by omega)).trans hP
        replace hA := (hsq46 13 (by omega)).trans hA
        replace hH := (hsq46 14 (by omega)).trans hH
        replace hD := (hsq46 15 (by omega)).trans hD
        replace hS := (hsq46 16 (by omega)).trans hS
        replace hV := (hsq46 17 (by omega)).trans hV
        replace hZ := (hsq46 18 (by omega)).trans hZ
        replace hHs := (hsq46 19 (by omega)).trans hHs
        replace hSt := (hsq46 20 (by omega)).trans hSt
        replace hHR := (fun i hi => (hsq46 (21 + 2 * i) (by omega)).trans (hHR i hi))
        replace hHC := (fun i hi => (hsq46 (22 + 2 * i) (by omega)).trans (hHC i hi))
        replace hIm := (hsq46 63 (by omega)).trans hIm
        replace hIR := (fun i hi => (hsq46 (64 + 2 * i) (by omega)).trans (hIR i hi))
        replace hIC := (fun i hi => (hsq46 (65 + 2 * i) (by omega)).trans (hIC i hi))
        replace hKp := (hsq46 68 (by omega)).trans hKp
        replace hSh := (hsq46 69 (by omega)).trans hSh
        replace hSR := (fun i hi => (hsq46 (70 + 2 * i) (by omega)).trans (hSR i hi))
        replace hSC := (fun i hi => (hsq46 (71 + 2 * i) (by omega)).trans (hSC i hi))
        replace hF : ∀ j : Nat, 78 ≤ j → Ew46 j = E0 j := fun j hj => (hsq46 j (by omega)).trans (hF j hj)
        refine J_aload_n (q := 50) X dX9_copy_49 rfl rfl ?_
        refine J_aload_n (q := 51) X dX9_copy_50 rfl rfl ?_
        refine J_get (q := 54) X dX9_copy_51 fX9_32 hFk (by omega) rfl rfl ?_
        refine J_get (q := 57) X dX9_copy_54 fX9_102 hR (by omega) rfl rfl ?_
        refine J_callI (q := 60) (jrV X mX9_187 dX9_copy_57 (c_X9_edited (s := s.row (s.n + m) (cpF s.f s.n i m p)) (show KJ Γ ad _ (s.row (s.n + m) (cpF s.f s.n i m p)) KQ from ⟨_, _, _, _, _, _, _, _, _, _, _, _, _, _, _, _, _, _, hFk, hRd, hK, hT, hY, hBl, hDr, hDC, hMk, hB, hR, hC, hP, hA, hH, hD, hS, hV, hZ, hHs, hSt, hHR, hHC, hIm, hIR, hIC, hKp, hSh, hSR, hSC, hdm, hmk, ⟨hd0, hs0⟩⟩) (kv_row hk0 (VR_copy hv (by omega)))) hFk (by omega) rfl rfl rfl rfl (Nat.le_of_ble_eq_true rfl) (by decide)) rfl (fun zq57 Ew57 hpq57 => ?_)
        obtain ⟨hzq57, hkqq57, hsq57⟩ := hpq57
        replace hF : ∀ j : Nat, 78 ≤ j → Ew57 j = E0 j := fun j hj => (hsq57 j (by omega)).trans (hF j hj)
        refine J_iret X R dX9_copy_60 ?_
        rw [hE0] at hF
        rw [show qCopy s i m p = (s.n + m, (s.row (s.n + m) (cpF s.f s.n i m p)).ed) by unfold qCopy; rw [if_neg (fun z => z ⟨cq9, cq20⟩), if_neg (by omega)]]
        exact ⟨_, rfl, hzq57, hkqq57, hF⟩
      · refine J_bipush (q := 38) X dX9_copy_36 rfl (by decide) ?_
        refine J_iret X R dX9_copy_38 ?_
        rw [hE0] at hF
        rw [show qCopy s i m p = (-3, s) by unfold qCopy; rw [if_neg (fun z => z ⟨cq9, cq20⟩), if_pos (by omega)]]
        exact ⟨_, rfl, rfl, hc, hF⟩
    · refine J_iconst (q := 24) X dX9_copy_23 rfl ?_
      refine J_iret X R dX9_copy_24 ?_
      rw [hE0] at hF
      rw [show qCopy s i m p = (-1, s) by unfold qCopy; rw [if_pos (fun z => by obtain ⟨z1, z2⟩ := z; omega)]]
      exact ⟨_, rfl, rfl, hc, hF⟩

set_option maxRecDepth 100000 in
set_option maxHeartbeats 4000000 in
theorem c_X9_turn {l : Launch} {Γ : JG} {ad : Nat → Nat} {E : Nat → va_E} {s : KS} {i m : Int} (hc : KI Γ ad E s) (hbi : -2147483648 ≤ i ∧ i < 2147483648) (hbm : -2147483648 ≤ m ∧ m < 2147483648) : JM l Γ yX9_turn cX9_turn 3 (some .int) 6 128 0 0 ad 95 E [.ref (ad 0), .int (jI i), .int (jI m)] (pI (fun z E' => z = (qTurn s i m).1 ∧ KI Γ ad E' (qTurn s i m).2 ∧ ∀ j : Nat, 78 ≤ j → E' j = E j)) := by
  refine JM_intro (own := RX9) [some (.ref (ad 0)), some (.int (jI i)), some (.int (jI m))] rfl rfl rfl (Nat.le_of_ble_eq_true rfl) ?_
  intro Ω X R hin
  obtain ⟨E0, hE0⟩ : ∃ E0 : Nat → va_E, E0 = E := ⟨_, rfl⟩
  have hF : ∀ j : Nat, 78 ≤ j → E j = E0 j := fun _ _ => by rw [hE0]
  obtain ⟨hj, hk⟩ := id hc
  obtain ⟨hk0, -⟩ := id hk
  obtain ⟨x, mk, ti, k0, ka, kb, kv, dm, b1, df, ma, pa, al, hp, de, sl, le, hi, hFk, hRd, hK, hT, hY, hBl, hDr, hDC, hMk, hB, hR, hC, hP, hA, hH, hD, hS, hV, hZ, hHs, hSt, hHR, hHC, hIm, hIR, hIC, hKp, hSh, hSR, hSC, hdm, hmk, hQ⟩ := hj
  have hv := hk0.hv
  obtain ⟨hn, -⟩ := id hv
  have ho := hk0.ho
  have htb := hk0.htb
  obtain ⟨htl, -⟩ := id htb
  have hb := hk0.hb
  obtain ⟨hpa, hal, hde, hsl, hle, hhi⟩ := id hQ
  have hd0 : de 0 = 0 := by rw [hde 0 (by omega) (by omega)]; rfl
  have hs0 : sl 0 = 0 := by rw [hsl 0 (by omega) (by omega)]; rfl
  refine J_aload_n (q := 1) X dX9_turn_0 rfl rfl ?_
  refine J_get (q := 4) X dX9_turn_1 fX9_32 hFk (by omega) rfl rfl ?_
  refine J_iload_n (q := 5) X dX9_turn_4 rfl rfl ?_
  refine J_iload_n (q := 6) X dX9_turn_5 rfl rfl ?_
  refine J_callP (q := 9) (jrV X mX9_196 dX9_turn_6 (c_X3_hasPart hR hC (by omega) (by omega) (by omega) (by omega)) hR (by omega) rfl rfl rfl rfl (Nat.le_of_ble_eq_true rfl) (by decide)) rfl ?_
  refine J_if_neB (q := 12) (tgt := 14) X dX9_turn_9 (by decide) rfl (fun cq9 => ?_) (fun cq9 => ?_)
  · refine J_aload_n (q := 15) X dX9_turn_14 rfl rfl ?_
    refine J_aload_n (q := 16) X dX9_turn_15 rfl rfl ?_
    refine J_get (q := 19) X dX9_turn_16 fX9_32 hFk (by omega) rfl rfl ?_
    refine J_iload_n (q := 20) X dX9_turn_19 rfl rfl ?_
    refine J_iload_n (q := 21) X dX9_turn_20 rfl rfl ?_
    refine J_callI (q := 24) (jrV X mX9_210 dX9_turn_21 (c_X3_turnAbout hR hC (by omega) (by omega) (by omega)) hR (by omega) rfl rfl rfl rfl (Nat.le_of_ble_eq_true rfl) (by decide)) rfl (fun zq21 Ew21 hpq21 => ?_)
    obtain ⟨hzq21, kC, hsq21⟩ := hpq21
    replace hC := kC
    replace hFk := (hsq21 0 (by omega)).trans hFk
    replace hRd := (hsq21 1 (by omega)).trans hRd
    replace hK := (hsq21 2 (by omega)).trans hK
    replace hT := (hsq21 3 (by omega)).trans hT
    replace hY := (hsq21 4 (by omega)).trans hY
    replace hBl := (hsq21 5 (by omega)).trans hBl
    replace hDr := (hsq21 6 (by omega)).trans hDr
    replace hDC := (hsq21 7 (by omega)).trans hDC
    replace hMk := (hsq21 8 (by omega)).trans hMk
    replace hB := (hsq21 9 (by omega)).trans hB
    replace hR := (hsq21 10 (by omega)).trans hR
    replace hP := (hsq21 12 (by omega)).trans hP
    replace hA := (hsq21 13 (by omega)).trans hA
    replace hH := (hsq21 14 (by omega)).trans hH
    replace hD := (hsq21 15 (by omega)).trans hD
    replace hS := (hsq21 16 (by omega)).trans hS
    replace hV := (hsq21 17 (by omega)).trans hV
    replace hZ := (hsq21 18 (by omega)).trans hZ
    replace hHs := (hsq21 19 (by omega)).trans hHs
    replace hSt := (hsq21 20 (by omega)).trans hSt
    replace hHR := (fun i hi => (hsq21 (21 + 2 * i) (by omega)).trans (hHR i hi))
    replace hHC := (fun i hi => (hsq21 (22 + 2 * i) (by omega)).trans (hHC i hi))
    replace hIm := (hsq21 63 (by omega)).trans hIm
    replace hIR := (fun i hi => (hsq21 (64 + 2 * i) (by omega)).trans (hIR i hi))
    replace hIC := (fun i hi => (hsq21 (65 + 2 * i) (by omega)).trans (hIC i hi))
    replace hKp := (hsq21 68 (by omega)).trans hKp
    replace hSh := (hsq21 69 (by omega)).trans hSh
    replace hSR := (fun i hi => (hsq21 (70 + 2 * i) (by omega)).trans (hSR i hi))
    replace hSC := (fun i hi => (hsq21 (71 + 2 * i) (by omega)).trans (hSC i hi))
    replace hF : ∀ j : Nat, 78 ≤ j → Ew21 j = E0 j := fun j hj => (hsq21 j (by omega)).trans (hF j hj)
    refine J_callI (q := 27) (jrV X mX9_187 dX9_turn_24 (c_X9_edited (s := s.row (s.n) (tnF s.f i m)) (show KJ Γ ad _ (s.row (s.n) (tnF s.f i m)) KQ from ⟨_, _, _, _, _, _, _, _, _, _, _, _, _, _, _, _, _, _, hFk, hRd, hK, hT, hY, hBl, hDr, hDC, hMk, hB, hR, hC, hP, hA, hH, hD, hS, hV, hZ, hHs, hSt, hHR, hHC, hIm, hIR, hIC, hKp, hSh, hSR, hSC, hdm, hmk, ⟨hd0, hs0⟩⟩) (kv_row hk0 (VR_turn hv (by omega)))) hFk (by omega) rfl rfl rfl rfl (Nat.le_of_ble_eq_true rfl) (by decide)) rfl (fun zq24 Ew24 hpq24 => ?_)
    obtain ⟨hzq24, hkqq24, hsq24⟩ := hpq24
    replace hF : ∀ j : Nat, 78 ≤ j → Ew24 j = E0 j := fun j hj => (hsq24 j (by omega)).trans (hF j hj)
    refine J_iret X R dX9_turn_27 ?_
    rw [hE0] at hF
    rw [show qTurn s i m = (smI (fun j => bI (brk (rv s.f i (i + m) (i + j) % 128))) m, (s.row (s.n) (tnF s.f i m)).ed) by unfold qTurn; rw [if_neg (fun z => z cq9)]]
    exact ⟨_, rfl, (hzq24.trans hzq21), hkqq24, hF⟩
  · refine J_iconst (q := 13) X dX9_turn_12 rfl ?_
    refine J_iret X R dX9_turn_13 ?_
    rw [hE0] at hF
    rw [show qTurn s i m = (-1, s) by unfold qTurn; rw [if_pos cq9]]
    exact ⟨_, rfl, rfl, hc, hF⟩

set_option maxRecDepth 100000 in
set_option maxHeartbeats 4000000 in
theorem c_X9_mark {l : Launch} {Γ : JG} {ad : Nat → Nat} {E : Nat → va_E} {s : KS} {i y : Int} (hc : KI Γ ad E s) (hbi : -2147483648 ≤ i ∧ i < 2147483648) (hby : -2147483648 ≤ y ∧ y < 2147483648) : JM l Γ yX9_mark cX9_mark 4 (some .int) 6 128 0 0 ad 95 E [.ref (ad 0), .int (jI i), .int (jI y)] (pI (fun z E' => z = (qMark s i y).1 ∧ KI Γ ad E' (qMark s i y).2 ∧ ∀ j : Nat, 78 ≤ j → E' j = E j)) := by
  refine JM_intro (own := RX9) [some (.ref (ad 0)), some (.int (jI i)), some (.int (jI y)), none] rfl rfl rfl (Nat.le_of_ble_eq_true rfl) ?_
  intro Ω X R hin
  obtain ⟨E0, hE0⟩ : ∃ E0 : Nat → va_E, E0 = E := ⟨_, rfl⟩
  have hF : ∀ j : Nat, 78 ≤ j → E j = E0 j := fun _ _ => by rw [hE0]
  obtain ⟨hj, hk⟩ := id hc
  obtain ⟨hk0, -⟩ := id hk
  obtain ⟨x, mk, ti, k0, ka, kb, kv, dm, b1, df, ma, pa, al, hp, de, sl, le, hi, hFk, hRd, hK, hT, hY, hBl, hDr, hDC, hMk, hB, hR, hC, hP, hA, hH, hD, hS, hV, hZ, hHs, hSt, hHR, hHC, hIm, hIR, hIC, hKp, hSh, hSR, hSC, hdm, hmk, hQ⟩ := hj
  have hv := hk0.hv
  obtain ⟨hn, -⟩ := id hv
  have ho := hk0.ho
  have htb := hk0.htb
  obtain ⟨htl, -⟩ := id htb
  have hb := hk0.hb
  obtain ⟨hpa, hal, hde, hsl, hle, hhi⟩ := id hQ
  have hd0 : de 0 = 0 := by rw [hde 0 (by omega) (by omega)]; rfl
  have hs0 : sl 0 = 0 := by rw [hsl 0 (by omega) (by omega)]; rfl
  refine J_aload_n (q := 1) X dX9_mark_0 rfl rfl ?_
  refine J_get (q := 4) X dX9_mark_1 fX9_32 hFk (by omega) rfl rfl ?_
  refine J_iload_n (q := 5) X dX9_mark_4 rfl rfl ?_
  refine J_callP (q := 8) (jrV X mX9_121 dX9_mark_5 (c_X3_hasSign hR hC (by omega) (by omega) (by omega)) hR (by omega) rfl rfl rfl rfl (Nat.le_of_ble_eq_true rfl) (by decide)) rfl ?_
  refine J_if_eqB (q := 11) (tgt := 34) X dX9_mark_8 (by decide) rfl (fun cq8 => ?_) (fun cq8 => ?_)
  · refine J_iconst (q := 35) X dX9_mark_34 rfl ?_
    refine J_iret X R dX9_mark_35 ?_
    rw [hE0] at hF
    rw [show qMark s i y = (-1, s) by unfold qMark; rw [if_pos (fun z => by obtain ⟨z1, z2, z3⟩ := z; first | omega | (rename_i hcz; exact hcz z3))]]
    exact ⟨_, rfl, rfl, hc, hF⟩
  · refine J_iload_n (q := 12) X dX9_mark_11 rfl rfl ?_
    refine J_if_lt (q := 15) (tgt := 34) X dX9_mark_12 (by decide) rfl (by omega) (fun cq12 => ?_) (fun cq12 => ?_)
    · refine J_iconst (q := 35) X dX9_mark_34 rfl ?_
      refine J_iret X R dX9_mark_35 ?_
      rw [hE0] at hF
      rw [show qMark s i y = (-1, s) by unfold qMark; rw [if_pos (fun z => by obtain ⟨z1, z2, z3⟩ := z; first | omega | (rename_i hcz; exact hcz z3))]]
      exact ⟨_, rfl, rfl, hc, hF⟩
    · refine J_iload_n (q := 16) X dX9_mark_15 rfl rfl ?_
      refine J_iconst (q := 17) X dX9_mark_16 rfl ?_
      refine J_icmp_gt (q := 20) (tgt := 34) X dX9_mark_17 (by decide) rfl (by omega) (by omega) (fun cq17 => ?_) (fun cq17 => ?_)
      · refine J_iconst (q := 35) X dX9_mark_34 rfl ?_
        refine J_iret X R dX9_mark_35 ?_
        rw [hE0] at hF
        rw [show qMark s i y = (-1, s) by unfold qMark; rw [if_pos (fun z => by obtain ⟨z1, z2, z3⟩ := z; first | omega | (rename_i hcz; exact hcz z3))]]
        exact ⟨_, rfl, rfl, hc, hF⟩
      · refine J_aload_n (q := 21) X dX9_mark_20 rfl rfl ?_
        refine J_get (q := 24) X dX9_mark_21 fX9_32 hFk (by omega) rfl rfl ?_
        refine J_iload_n (q := 25) X dX9_mark_24 rfl rfl ?_
        refine J_callP (q := 28) (jrV X mX9_125 dX9_mark_25 (c_X3_byteAt hR hC (by omega) (by omega) (by omega)) hR (by omega) rfl rfl rfl rfl (Nat.le_of_ble_eq_true rfl) (by decide)) rfl ?_
        refine J_callP (q := 31) (jrS X mX9_213 dX9_mark_28 (c_X5_opens (by omega)) rfl rfl (Nat.le_of_ble_eq_true rfl) (by decide)) rfl ?_
        refine J_if_neB (q := 34) (tgt := 36) X dX9_mark_31 (by decide) rfl (fun cq31 => ?_) (fun cq31 => ?_)
        · refine J_aload_n (q := 37) X dX9_mark_36 rfl rfl ?_
          refine J_get (q := 40) X dX9_mark_37 fX9_32 hFk (by omega) rfl rfl ?_
          refine J_iload_n (q := 41) X dX9_mark_40 rfl rfl ?_
          refine J_callP (q := 44) (jrV X mX9_147 dX9_mark_41 (c_X3_markedAt hR hC (by omega) (by omega) (by omega) ((hv.2 i (by omega) (by omega)).1)) hR (by omega) rfl rfl rfl rfl (Nat.le_of_ble_eq_true rfl) (by decide)) rfl ?_
          refine J_callP (q := 47) (jrS X mX9_143 dX9_mark_44 (c_X9_oneIf (by first | omega | exact bI_bd _)) rfl rfl (Nat.le_of_ble_eq_true rfl) (by decide)) rfl ?_
          refine J_istore_n (q := 48) X dX9_mark_47 (by decide) rfl rfl ?_
          refine J_aload_n (q := 49) X dX9_mark_48 rfl rfl ?_
          refine J_get (q := 52) X dX9_mark_49 fX9_32 hFk (by omega) rfl rfl ?_
          refine J_iload_n (q := 53) X dX9_mark_52 rfl rfl ?_
          refine J_iload_n (q := 54) X dX9_mark_53 rfl rfl ?_
          refine J_iconst (q := 55) X dX9_mark_54 rfl ?_
          refine J_icmp_ne (q := 58) (tgt := 62) X dX9_mark_55 (by decide) rfl (by omega) (by omega) (fun cq55 => ?_) (fun cq55 => ?_)
          · refine J_iconst (q := 63) X dX9_mark_62 rfl ?_
            refine J_callV (q := 66) (jrV X mX9_216 dX9_mark_63 (c_X3_setMark hR hC (by omega) (by omega) (by omega) (by omega)) hR (by omega) rfl rfl rfl rfl (Nat.le_of_ble_eq_true rfl) (by decide)) rfl (fun Ew63 hpq63 => ?_)
            obtain ⟨kC, hsq63⟩ := hpq63
            replace hC := kC
            replace hFk := (hsq63 0 (by omega)).trans hFk
            replace hRd := (hsq63 1 (by omega)).trans hRd
            replace hK := (hsq63 2 (by omega)).trans hK
            replace hT := (hsq63 3 (by omega)).trans hT
            replace hY := (hsq63 4 (by omega)).trans hY
            replace hBl := (hsq63 5 (by omega)).trans hBl
            replace hDr := (hsq63 6 (by omega)).trans hDr
            replace hDC := (hsq63 7 (by omega)).trans hDC
            replace hMk := (hsq63 8 (by omega)).trans hMk
            replace hB := (hsq63 9 (by omega)).trans hB
            replace hR := (hsq63 10 (by omega)).trans hR
            replace hP := (hsq63 12 (by omega)).trans hP
            replace hA := (hsq63 13 (by omega)).trans hA
            replace hH := (hsq63 14 (by omega)).trans hH
            replace hD := (hsq63 15 (by omega)).trans hD
            replace hS := (hsq63 16 (by omega)).trans hS
            replace hV := (hsq63 17 (by omega)).trans hV
            replace hZ := (hsq63 18 (by omega)).trans hZ
            replace hHs := (hsq63 19 (by omega)).trans hHs
            replace hSt := (hsq63 20 (by omega)).trans hSt
            replace hHR := (fun i hi => (hsq63 (21 + 2 * i) (by omega)).trans (hHR i hi))
            replace hHC := (fun i hi => (hsq63 (22 + 2 * i) (by omega)).trans (hHC i hi))
            replace hIm := (hsq63 63 (by omega)).trans hIm
            replace hIR := (fun i hi => (hsq63 (64 + 2 * i) (by omega)).trans (hIR i hi))
            replace hIC := (fun i hi => (hsq63 (65 + 2 * i) (by omega)).trans (hIC i hi))
            replace hKp := (hsq63 68 (by omega)).trans hKp
            replace hSh := (hsq63 69 (by omega)).trans hSh
            replace hSR := (fun i hi => (hsq63 (70 + 2 * i) (by omega)).trans (hSR i hi))
            replace hSC := (fun i hi => (hsq63 (71 + 2 * i) (by omega)).trans (hSC i hi))
            replace hF : ∀ j : Nat, 78 ≤ j → Ew63 j = E0 j := fun j hj => (hsq63 j (by omega)).trans (hF j hj)
            first
              | (rw [show (128 : Int) * 0 = 128 * y by omega] at hC; skip)
              | (rw [show (128 : Int) * 1 = 128 * y by omega] at hC; skip)
            refine J_aload_n (q := 67) X dX9_mark_66 rfl rfl ?_
            refine J_iload_n (q := 68) X dX9_mark_67 rfl rfl ?_
            refine J_callI (q := 71) (jrV X mX9_187 dX9_mark_68 (c_X9_edited (s := s.row (s.n) (iu s.f i (s.f i % 128 + 128 * y))) (show KJ Γ ad _ (s.row (s.n) (iu s.f i (s.f i % 128 + 128 * y))) KQ from ⟨_, _, _, _, _, _, _, _, _, _, _, _, _, _, _, _, _, _, hFk, hRd, hK, hT, hY, hBl, hDr, hDC, hMk, hB, hR, hC, hP, hA, hH, hD, hS, hV, hZ, hHs, hSt, hHR, hHC, hIm, hIR, hIC, hKp, hSh, hSR, hSC, hdm, hmk, ⟨hd0, hs0⟩⟩) (kv_row hk0 (VR_iu hv (gd_mark (hv.at cq8) cq31 (by omega))))) hFk (by omega) rfl rfl rfl rfl (Nat.le_of_ble_eq_true rfl) (by decide)) rfl (fun zq68 Ew68 hpq68 => ?_)
            obtain ⟨hzq68, hkqq68, hsq68⟩ := hpq68
            replace hF : ∀ j : Nat, 78 ≤ j → Ew68 j = E0 j := fun j hj => (hsq68 j (by omega)).trans (hF j hj)
            refine J_iret X R dX9_mark_71 ?_
            rw [hE0] at hF
            rw [show qMark s i y = (bI (128 ≤ s.f i), (s.row (s.n) (iu s.f i (s.f i % 128 + 128 * y))).ed) by unfold qMark; rw [if_neg (fun z => z ⟨cq8, by omega, cq31⟩)]]
            exact ⟨_, rfl, hzq68, hkqq68, hF⟩
          · refine J_iconst (q := 59) X dX9_mark_58 rfl ?_
            refine J_goto (q := 63) X dX9_mark_59 (by decide) ?_
            refine J_callV (q := 66) (jrV X mX9_216 dX9_mark_63 (c_X3_setMark hR hC (by omega) (by omega) (by omega) (by omega)) hR (by omega) rfl rfl rfl rfl (Nat.le_of_ble_eq_true rfl) (by decide)) rfl (fun Ew63 hpq63 => ?_)
            obtain ⟨kC, hsq63⟩ := hpq63
            replace hC := kC
            replace hFk := (hsq63 0 (by omega)).trans hFk
            replace hRd := (hsq63 1 (by omega)).trans hRd
            replace hK := (hsq63 2 (by omega)).trans hK
            replace hT := (hsq63 3 (by omega)).trans hT
            replace hY := (hsq63 4 (by omega)).trans hY
            replace hBl := (hsq63 5 (by omega)).trans hBl
            replace hDr := (hsq63 6 (by omega)).trans hDr
            replace hDC := (hsq63 7 (by omega)).trans hDC
            replace hMk := (hsq63 8 (by omega)).trans hMk
            replace hB := (hsq63 9 (by omega)).trans hB
            replace hR := (hsq63 10 (by omega)).trans hR
            replace hP := (hsq63 12 (by omega)).trans hP
            replace hA := (hsq63 13 (by omega)).trans hA
            replace hH := (hsq63 14 (by omega)).trans hH
            replace hD := (hsq63 15 (by omega)).trans hD
            replace hS := (hsq63 16 (by omega)).trans hS
            replace hV := (hsq63 17 (by omega)).trans hV
            replace hZ := (hsq63 18 (by omega)).trans hZ
            replace hHs := (hsq63 19 (by omega)).trans hHs
            replace hSt := (hsq63 20 (by omega)).trans hSt
            replace hHR := (fun i hi => (hsq63 (21 + 2 * i) (by omega)).trans (hHR i hi))
            replace hHC := (fun i hi => (hsq63 (22 + 2 * i) (by omega)).trans (hHC i hi))
            replace hIm := (hsq63 63 (by omega)).trans hIm
            replace hIR := (fun i hi => (hsq63 (64 + 2 * i) (by omega)).trans (hIR i hi))
            replace hIC := (fun i hi => (hsq63 (65 + 2 * i) (by omega)).trans (hIC i hi))
            replace hKp := (hsq63 68 (by omega)).trans hKp
            replace hSh := (hsq63 69 (by omega)).trans hSh
            replace hSR := (fun i hi => (hsq63 (70 + 2 * i) (by omega)).trans (hSR i hi))
            replace hSC := (fun i hi => (hsq63 (71 + 2 * i) (by omega)).trans (hSC i hi))
            replace hF : ∀ j : Nat, 78 ≤ j → Ew63 j = E0 j := fun j hj => (hsq63 j (by omega)).trans (hF j hj)
            first
              | (rw [show (128 : Int) * 0 = 128 * y by omega] at hC; skip)
              | (rw [show (128 : Int) * 1 = 128 * y by omega] at hC; skip)
            refine J_aload_n (q := 67) X dX9_mark_66 rfl rfl ?_
            refine J_iload_n (q := 68) X dX9_mark_67 rfl rfl ?_
            refine J_callI (q := 71) (jrV X mX9_187 dX9_mark_68 (c_X9_edited (s := s.row (s.n) (iu s.f i (s.f i % 128 + 128 * y))) (show KJ Γ ad _ (s.row (s.n) (iu s.f i (s.f i % 128 + 128 * y))) KQ from ⟨_, _, _, _, _, _, _, _, _, _, _, _, _, _, _, _, _, _, hFk, hRd, hK, hT, hY, hBl, hDr, hDC, hMk, hB, hR, hC, hP, hA, hH, hD, hS, hV, hZ, hHs, hSt, hHR, hHC, hIm, hIR, hIC, hKp, hSh, hSR, hSC, hdm, hmk, ⟨hd0, hs0⟩⟩) (kv_row hk0 (VR_iu hv (gd_mark (hv.at cq8) cq31 (by omega))))) hFk (by omega) rfl rfl rfl rfl (Nat.le_of_ble_eq_true rfl) (by decide)) rfl (fun zq68 Ew68 hpq68 => ?_)
            obtain ⟨hzq68, hkqq68, hsq68⟩ := hpq68
            replace hF : ∀ j : Nat, 78 ≤ j → Ew68 j = E0 j := fun j hj => (hsq68 j (by omega)).trans (hF j hj)
            refine J_iret X R dX9_mark_71 ?_
            rw [hE0] at hF
            rw [show qMark s i y = (bI (128 ≤ s.f i), (s.row (s.n) (iu s.f i (s.f i % 128 + 128 * y))).ed) by unfold qMark; rw [if_neg (fun z => z ⟨cq8, by omega, cq31⟩)]]
            exact ⟨_, rfl, hzq68, hkqq68, hF⟩
        · refine J_iconst (q := 35) X dX9_mark_34 rfl ?_
          refine J_iret X R dX9_mark_35 ?_
          rw [hE0] at hF
          rw [show qMark s i y = (-1, s) by unfold qMark; rw [if_pos (fun z => by obtain ⟨z1, z2, z3⟩ := z; first | omega | (rename_i hcz; exact hcz z3))]]
          exact ⟨_, rfl, rfl, hc, hF⟩
