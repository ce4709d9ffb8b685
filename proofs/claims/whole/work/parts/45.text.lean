set_option maxRecDepth 100000 in
set_option maxHeartbeats 4000000 in
theorem c_X9_text {l : Launch} {Γ : JG} {ad : Nat → Nat} {E : Nat → va_E} {s : KS} (hc : KI Γ ad E s) : JM l Γ yX9_text cX9_text 3 (some .int) 9 189 0 0 ad 95 E [.ref (ad 0)] (pI (fun z E' => z = (qText s).1 ∧ KI Γ ad E' (qText s).2 ∧ ∀ j : Nat, 78 ≤ j → E' j = E j)) := by
  refine JM_intro (own := RX9) [some (.ref (ad 0)), none, none] rfl rfl rfl (Nat.le_of_ble_eq_true rfl) ?_
  intro Ω X R hin
  obtain ⟨E0, hE0⟩ : ∃ E0 : Nat → va_E, E0 = E := ⟨_, rfl⟩
  have hF : ∀ j : Nat, 78 ≤ j → E j = E0 j := fun _ _ => by rw [hE0]
  obtain ⟨hj, hk⟩ := id hc
  obtain ⟨hk0, -⟩ := id hk
  obtain ⟨x, mk, ti, k0, ka, kb, kv, dm, b1, df, ma, pa, al, hp, de, sl, le, hi, hFk, hRd, hK, hT, hY, hBl, hDr, hDC, hMk, hB, hR, hC, hP, hA, hH, hD, hS, hV, hZ, hHs, hSt, hHR, hHC, hIm, hIR, hIC, hKp, hSh, hSR, hSC, hdm, hmk, hQ⟩ := hj
  have hv := hk0.hv
  obtain ⟨hn, -⟩ := id hv
  have ho := hk0.ho
  have htb := hk0.htb
  obtain ⟨htl, -⟩ := id htb
  have hb := hk0.hb
  obtain ⟨hpa, hal, hde, hsl, hle, hhi⟩ := id hQ
  have hd0 : de 0 = 0 := by rw [hde 0 (by omega) (by omega)]; rfl
  have hs0 : sl 0 = 0 := by rw [hsl 0 (by omega) (by omega)]; rfl
  refine J_aload_n (q := 1) X dX9_text_0 rfl rfl ?_
  refine J_get (q := 4) X dX9_text_1 fX9_10 hFk (by omega) rfl rfl ?_
  refine J_callI (q := 7) (jrV X mX9_71 dX9_text_4 (c_X7_takeText hRd hK hT hY hBl hDr hDC hMk htb hdm hmk) hRd (by omega) rfl rfl rfl rfl (Nat.le_of_ble_eq_true rfl) (by decide)) rfl (fun zq4 Ew4 hpq4 => ?_)
  obtain ⟨rq4, pq4, xq4, mq4, teq4, kq4, fq4, iq4, vq4, nq4, gq4, maq4, hrq4, hzq4, kBl, hpqq4, hnq4, kRd, kK, kDr, kDC, kMk, hnbq4, hmbq4, hsq4⟩ := hpq4
  replace hBl := kBl
  replace hRd := kRd
  replace hK := kK
  replace hDr := kDr
  replace hDC := kDC
  replace hMk := kMk
  replace hdm := hnbq4
  replace hmk := hmbq4
  have hre : RE rq4 (R0 s.tb s.tl) := by
    rw [hrq4]
    exact run_congr s.tb s.tl 161 0 1 _ _ _ _ 0 0 0 _ _ _ _ (fun z => absurd rfl z) (fun j a b => by omega) (fun j a b => by rw [if_pos ⟨a, b⟩])
  obtain ⟨e1, e2, e3, e4, e5, e6, e7, e8⟩ := hre
  rw [e1, e3, e4, e5] at hBl
  rw [e1] at hzq4
  replace hFk := (hsq4 0 (by omega)).trans hFk
  replace hT := (hsq4 3 (by omega)).trans hT
  replace hY := (hsq4 4 (by omega)).trans hY
  replace hB := (hsq4 9 (by omega)).trans hB
  replace hR := (hsq4 10 (by omega)).trans hR
  replace hC := (hsq4 11 (by omega)).trans hC
  replace hP := (hsq4 12 (by omega)).trans hP
  replace hA := (hsq4 13 (by omega)).trans hA
  replace hH := (hsq4 14 (by omega)).trans hH
  replace hD := (hsq4 15 (by omega)).trans hD
  replace hS := (hsq4 16 (by omega)).trans hS
  replace hV := (hsq4 17 (by omega)).trans hV
  replace hZ := (hsq4 18 (by omega)).trans hZ
  replace hHs := (hsq4 19 (by omega)).trans hHs
  replace hSt := (hsq4 20 (by omega)).trans hSt
  replace hHR := (fun i hi => (hsq4 (21 + 2 * i) (by omega)).trans (hHR i hi))
  replace hHC := (fun i hi => (hsq4 (22 + 2 * i) (by omega)).trans (hHC i hi))
  replace hIm := (hsq4 63 (by omega)).trans hIm
  replace hIR := (fun i hi => (hsq4 (64 + 2 * i) (by omega)).trans (hIR i hi))
  replace hIC := (fun i hi => (hsq4 (65 + 2 * i) (by omega)).trans (hIC i hi))
  replace hKp := (hsq4 68 (by omega)).trans hKp
  replace hSh := (hsq4 69 (by omega)).trans hSh
  replace hSR := (fun i hi => (hsq4 (70 + 2 * i) (by omega)).trans (hSR i hi))
  replace hSC := (fun i hi => (hsq4 (71 + 2 * i) (by omega)).trans (hSC i hi))
  replace hF : ∀ j : Nat, 78 ≤ j → Ew4 j = E0 j := fun j hj => (hsq4 j (by omega)).trans (hF j hj)
  refine J_istore_n (q := 8) X dX9_text_7 (by decide) rfl rfl ?_
  refine J_aload_n (q := 9) X dX9_text_8 rfl rfl ?_
  refine J_get (q := 12) X dX9_text_9 fX9_20 hFk (by omega) rfl rfl ?_
  refine J_iconst (q := 13) X dX9_text_12 rfl ?_
  refine J_callV (q := 16) (jrV X mX9_68 dX9_text_13 (c_X6_shorten hT hY) hT (by omega) rfl rfl rfl rfl (Nat.le_of_ble_eq_true rfl) (by decide)) rfl (fun Ew13 hpq13 => ?_)
  obtain ⟨kT, hsq13⟩ := hpq13
  replace hT := kT
  replace hFk := (hsq13 0 (by omega)).trans hFk
  replace hRd := (hsq13 1 (by omega)).trans hRd
  replace hK := (hsq13 2 (by omega)).trans hK
  replace hY := (hsq13 4 (by omega)).trans hY
  replace hBl := (hsq13 5 (by omega)).trans hBl
  replace hDr := (hsq13 6 (by omega)).trans hDr
  replace hDC := (hsq13 7 (by omega)).trans hDC
  replace hMk := (hsq13 8 (by omega)).trans hMk
  replace hB := (hsq13 9 (by omega)).trans hB
  replace hR := (hsq13 10 (by omega)).trans hR
  replace hC := (hsq13 11 (by omega)).trans hC
  replace hP := (hsq13 12 (by omega)).trans hP
  replace hA := (hsq13 13 (by omega)).trans hA
  replace hH := (hsq13 14 (by omega)).trans hH
  replace hD := (hsq13 15 (by omega)).trans hD
  replace hS := (hsq13 16 (by omega)).trans hS
  replace hV := (hsq13 17 (by omega)).trans hV
  replace hZ := (hsq13 18 (by omega)).trans hZ
  replace hHs := (hsq13 19 (by omega)).trans hHs
  replace hSt := (hsq13 20 (by omega)).trans hSt
  replace hHR := (fun i hi => (hsq13 (21 + 2 * i) (by omega)).trans (hHR i hi))
  replace hHC := (fun i hi => (hsq13 (22 + 2 * i) (by omega)).trans (hHC i hi))
  replace hIm := (hsq13 63 (by omega)).trans hIm
  replace hIR := (fun i hi => (hsq13 (64 + 2 * i) (by omega)).trans (hIR i hi))
  replace hIC := (fun i hi => (hsq13 (65 + 2 * i) (by omega)).trans (hIC i hi))
  replace hKp := (hsq13 68 (by omega)).trans hKp
  replace hSh := (hsq13 69 (by omega)).trans hSh
  replace hSR := (fun i hi => (hsq13 (70 + 2 * i) (by omega)).trans (hSR i hi))
  replace hSC := (fun i hi => (hsq13 (71 + 2 * i) (by omega)).trans (hSC i hi))
  replace hF : ∀ j : Nat, 78 ≤ j → Ew13 j = E0 j := fun j hj => (hsq13 j (by omega)).trans (hF j hj)
  refine J_iload_n (q := 17) X dX9_text_16 rfl rfl ?_
  refine J_if_ne (q := 20) (tgt := 34) X dX9_text_17 (by decide) rfl (by have := bI_bd ((R0 s.tb s.tl).1 = 0); omega) (fun cq17 => ?_) (fun cq17 => ?_)
  · have h0 : (R0 s.tb s.tl).1 = 0 := by
      by_cases e : (R0 s.tb s.tl).1 = 0
      · exact e
      · rw [bI_f e] at hzq4; omega
    obtain ⟨hng, hgg⟩ := hnq4 (by rw [e1]; exact h0)
    rw [e6] at hng
    rw [hng] at hDr hdm
    have hrow : icp gq4 s.f 0 0 (R0 s.tb s.tl).2.2.2.2.2.1 = icp (mkF (R0 s.tb s.tl).2.2.2.2.2.2.2 (R0 s.tb s.tl).2.2.2.2.2.2.1) s.f 0 0 (R0 s.tb s.tl).2.2.2.2.2.1 := by
      funext j
      simp only [icp]
      by_cases hj : 0 ≤ j ∧ j < 0 + (R0 s.tb s.tl).2.2.2.2.2.1
      · rw [if_pos hj, if_pos hj, hgg, mkF, mkF, e7 _ (by omega) (by omega)]
        by_cases hj6 : 0 + (j - 0) < 60
        · rw [e8 _ (by omega) hj6]
        · rw [if_neg (by omega), if_neg (by omega)]
      · rw [if_neg hj, if_neg hj]
    refine J_aload_n (q := 35) X dX9_text_34 rfl rfl ?_
    refine J_get (q := 38) X dX9_text_35 fX9_32 hFk (by omega) rfl rfl ?_
    refine J_aload_n (q := 39) X dX9_text_38 rfl rfl ?_
    refine J_get (q := 42) X dX9_text_39 fX9_10 hFk (by omega) rfl rfl ?_
    refine J_get (q := 45) X dX9_text_42 fX9_84 hRd (by omega) rfl rfl ?_
    refine J_callV (q := 48) (jrV X mX9_87 dX9_text_45 (c_X3_become hR hC hDr hDC (by omega) (by omega)) hR (by omega) rfl rfl rfl rfl (Nat.le_of_ble_eq_true rfl) (by decide)) rfl (fun Ew45 hpq45 => ?_)
    obtain ⟨kR, kC, hsq45⟩ := hpq45
    replace hR := kR
    replace hC := kC
    replace hFk := (hsq45 0 (by omega)).trans hFk
    replace hRd := (hsq45 1 (by omega)).trans hRd
    replace hK := (hsq45 2 (by omega)).trans hK
    replace hT := (hsq45 3 (by omega)).trans hT
    replace hY := (hsq45 4 (by omega)).trans hY
    replace hBl := (hsq45 5 (by omega)).trans hBl
    replace hDr := (hsq45 6 (by omega)).trans hDr
    replace hDC := (hsq45 7 (by omega)).trans hDC
    replace hMk := (hsq45 8 (by omega)).trans hMk
    replace hB := (hsq45 9 (by omega)).trans hB
    replace hP := (hsq45 12 (by omega)).trans hP
    replace hA := (hsq45 13 (by omega)).trans hA
    replace hH := (hsq45 14 (by omega)).trans hH
    replace hD := (hsq45 15 (by omega)).trans hD
    replace hS := (hsq45 16 (by omega)).trans hS
    replace hV := (hsq45 17 (by omega)).trans hV
    replace hZ := (hsq45 18 (by omega)).trans hZ
    replace hHs := (hsq45 19 (by omega)).trans hHs
    replace hSt := (hsq45 20 (by omega)).trans hSt
    replace hHR := (fun i hi => (hsq45 (21 + 2 * i) (by omega)).trans (hHR i hi))
    replace hHC := (fun i hi => (hsq45 (22 + 2 * i) (by omega)).trans (hHC i hi))
    replace hIm := (hsq45 63 (by omega)).trans hIm
    replace hIR := (fun i hi => (hsq45 (64 + 2 * i) (by omega)).trans (hIR i hi))
    replace hIC := (fun i hi => (hsq45 (65 + 2 * i) (by omega)).trans (hIC i hi))
    replace hKp := (hsq45 68 (by omega)).trans hKp
    replace hSh := (hsq45 69 (by omega)).trans hSh
    replace hSR := (fun i hi => (hsq45 (70 + 2 * i) (by omega)).trans (hSR i hi))
    replace hSC := (fun i hi => (hsq45 (71 + 2 * i) (by omega)).trans (hSC i hi))
    replace hF : ∀ j : Nat, 78 ≤ j → Ew45 j = E0 j := fun j hj => (hsq45 j (by omega)).trans (hF j hj)
    rw [hrow] at hC
    refine J_iconst (q := 49) X dX9_text_48 rfl ?_
    refine J_istore_n (q := 50) X dX9_text_49 (by decide) rfl rfl ?_
    have lp50 : ∀ (mm : Nat) (i : Int) (kk : Int → Int) (E : Nat → va_E) (hii : 0 ≤ i ∧ i ≤ 2) (hkk : ∀ t : Int, kk t = if 0 ≤ t ∧ t < i then 0 else s.kp t) (hFk : E 0 = .inr (8, [.ref (ad 1), .ref (ad 3), .ref (ad 9), .ref (ad 10), .ref (ad 19), .ref (ad 63), .ref (ad 68), .ref (ad 69), .int (jI s.tor)])) (hRd : E 1 = .inr (6, [.ref (ad 2), .ref (ad 3), .ref (ad 5), .ref (ad 6), .ref (ad 8), .int (jI xq4), .int (jI mq4), .int (jI teq4)])) (hK : E 2 = .inr (7, [.ref (ad 3), .ref (ad 5), .int (jI kq4), .int (jI fq4), .int (jI iq4), .int (jI vq4)])) (hT : E 3 = .inr (5, [.ref (ad 4), .int (jI 0)])) (hY : E 4 = aI Γ 160 s.tb) (hBl : E 5 = .inr (0, [.int (jI ((R0 s.tb s.tl).1)), .int (jI pq4), .int (jI ((R0 s.tb s.tl).2.2.1)), .int (jI ((R0 s.tb s.tl).2.2.2.1)), .int (jI ((R0 s.tb s.tl).2.2.2.2.1))])) (hDr : E 6 = .inr (3, [.ref (ad 7), .int (jI ((R0 s.tb s.tl).2.2.2.2.2.1))])) (hDC : E 7 = aI Γ 60 gq4) (hMk : E 8 = aZ Γ 60 maq4) (hB : E 9 = .inr (1, [.ref (ad 10), .ref (ad 12), .ref (ad 13), .ref (ad 14), .ref (ad 15), .ref (ad 16), .ref (ad 17), .ref (ad 18)])) (hR : E 10 = .inr (3, [.ref (ad 11), .int (jI ((R0 s.tb s.tl).2.2.2.2.2.1))])) (hC : E 11 = aI Γ 60 (icp (mkF (R0 s.tb s.tl).2.2.2.2.2.2.2 (R0 s.tb s.tl).2.2.2.2.2.2.1) s.f 0 0 (R0 s.tb s.tl).2.2.2.2.2.1)) (hP : E 12 = aI Γ 60 pa) (hA : E 13 = aI Γ 60 al) (hH : E 14 = aI Γ 60 hp) (hD : E 15 = aI Γ 61 de) (hS : E 16 = aI Γ 61 sl) (hV : E 17 = aI Γ 60 le) (hZ : E 18 = aZ Γ 60 hi) (hHs : E 19 = .inr (2, [.ref (ad 20), .int (jI s.o), .int (jI s.p), .int (jI s.a)])) (hSt : E 20 = aR Γ 2 21 (fun i => some (ad (21 + 2 * i)))) (hHR : ∀ i : Nat, i < 21 → E (21 + 2 * i) = .inr (3, [.ref (ad (22 + 2 * i)), .int (jI (s.hn i))])) (hHC : ∀ i : Nat, i < 21 → E (22 + 2 * i) = aI Γ 60 (s.hf i)) (hIm : E 63 = aR Γ 2 2 (fun i => some (ad (64 + 2 * i)))) (hIR : ∀ i : Nat, i < 2 → E (64 + 2 * i) = .inr (3, [.ref (ad (65 + 2 * i)), .int (jI (s.im i))])) (hIC : ∀ i : Nat, i < 2 → E (65 + 2 * i) = aI Γ 60 (s.imf i)) (hKp : E 68 = aZ Γ 2 kk) (hSh : E 69 = aR Γ 3 4 (fun i => some (ad (70 + 2 * i)))) (hSR : ∀ i : Nat, i < 4 → E (70 + 2 * i) = .inr (4, [.ref (ad (71 + 2 * i)), .int (jI (s.th i)), .int (jI (s.la i)), .int (jI (s.sn i))])) (hSC : ∀ i : Nat, i < 4 → E (71 + 2 * i) = aI Γ 40 (s.sf i)) (hF : ∀ j : Nat, 78 ≤ j → E j = E0 j) (hm : 2 - i + 1 ≤ (mm : Int)), J l Γ Ω 3 ad 95 0 0 E 50 [some (.ref (ad 0)), some (.int (jI zq4)), some (.int (jI i))] [] := by
      intro mm
      induction mm with
      | zero => intro i kk E hii hkk hFk hRd hK hT hY hBl hDr hDC hMk hB hR hC hP hA hH hD hS hV hZ hHs hSt hHR hHC hIm hIR hIC hKp hSh hSR hSC hF hm; exfalso; omega
      | succ mm ih50 =>
        intro i kk E hii hkk hFk hRd hK hT hY hBl hDr hDC hMk hB hR hC hP hA hH hD hS hV hZ hHs hSt hHR hHC hIm hIR hIC hKp hSh hSR hSC hF hm
        refine J_iload_n (q := 51) X dX9_text_50 rfl rfl ?_
        refine J_iconst (q := 52) X dX9_text_51 rfl ?_
        refine J_icmp_ge (q := 55) (tgt := 68) X dX9_text_52 (by decide) rfl (by omega) (by omega) (fun cq52 => ?_) (fun cq52 => ?_)
        · obtain rfl : i = 2 := by omega
          obtain rfl : kk = fun t => if 0 ≤ t ∧ t < 2 then 0 else s.kp t := funext hkk
          refine J_aload_n (q := 69) X dX9_text_68 rfl rfl ?_
          refine J_callI (q := 72) (jrV X mX9_91 dX9_text_69 (c_X9_startedAnew (s := s.told) (show KJ Γ ad _ s.told KQ from ⟨_, _, _, _, _, _, _, _, _, _, _, _, _, _, _, _, _, _, hFk, hRd, hK, hT, hY, hBl, hDr, hDC, hMk, hB, hR, hC, hP, hA, hH, hD, hS, hV, hZ, hHs, hSt, hHR, hHC, hIm, hIR, hIC, hKp, hSh, hSR, hSC, hdm, hmk, ⟨hd0, hs0⟩⟩) (kv_told hk0 h0)) hFk (by omega) rfl rfl rfl rfl (Nat.le_of_ble_eq_true rfl) (by decide)) rfl (fun zq69 Ew69 hpq69 => ?_)
          obtain ⟨hzq69, hkqq69, hsq69⟩ := hpq69
          replace hF : ∀ j : Nat, 78 ≤ j → Ew69 j = E0 j := fun j hj => (hsq69 j (by omega)).trans (hF j hj)
          refine J_iret X R dX9_text_72 ?_
          rw [hE0] at hF
          rw [show qText s = ((R0 s.tb s.tl).2.2.2.2.2.1, s.told.anew) by unfold qText; rw [if_neg (fun z => z h0)]]
          exact ⟨_, rfl, hzq69, hkqq69, hF⟩
        · refine J_aload_n (q := 56) X dX9_text_55 rfl rfl ?_
          refine J_get (q := 59) X dX9_text_56 fX9_47 hFk (by omega) rfl rfl ?_
          refine J_iload_n (q := 60) X dX9_text_59 rfl rfl ?_
          refine J_iconst (q := 61) X dX9_text_60 rfl ?_
          refine J_zast (q := 62) X dX9_text_61 hKp (by omega) (by omega) (by decide) (by omega) rfl (fun Ew61 hkq61 hsq61 => ?_)
          replace hKp := hkq61
          replace hFk := (hsq61 0 (by omega)).trans hFk
          replace hRd := (hsq61 1 (by omega)).trans hRd
          replace hK := (hsq61 2 (by omega)).trans hK
          replace hT := (hsq61 3 (by omega)).trans hT
          replace hY := (hsq61 4 (by omega)).trans hY
          replace hBl := (hsq61 5 (by omega)).trans hBl
          replace hDr := (hsq61 6 (by omega)).trans hDr
          replace hDC := (hsq61 7 (by omega)).trans hDC
          replace hMk := (hsq61 8 (by omega)).trans hMk
          replace hB := (hsq61 9 (by omega)).trans hB
          replace hR := (hsq61 10 (by omega)).trans hR
          replace hC := (hsq61 11 (by omega)).trans hC
          replace hP := (hsq61 12 (by omega)).trans hP
          replace hA := (hsq61 13 (by omega)).trans hA
          replace hH := (hsq61 14 (by omega)).trans hH
          replace hD := (hsq61 15 (by omega)).trans hD
          replace hS := (hsq61 16 (by omega)).trans hS
          replace hV := (hsq61 17 (by omega)).trans hV
          replace hZ := (hsq61 18 (by omega)).trans hZ
          replace hHs := (hsq61 19 (by omega)).trans hHs
          replace hSt := (hsq61 20 (by omega)).trans hSt
          replace hHR := (fun i hi => (hsq61 (21 + 2 * i) (by omega)).trans (hHR i hi))
          replace hHC := (fun i hi => (hsq61 (22 + 2 * i) (by omega)).trans (hHC i hi))
          replace hIm := (hsq61 63 (by omega)).trans hIm
          replace hIR := (fun i hi => (hsq61 (64 + 2 * i) (by omega)).trans (hIR i hi))
          replace hIC := (fun i hi => (hsq61 (65 + 2 * i) (by omega)).trans (hIC i hi))
          replace hSh := (hsq61 69 (by omega)).trans hSh
          replace hSR := (fun i hi => (hsq61 (70 + 2 * i) (by omega)).trans (hSR i hi))
          replace hSC := (fun i hi => (hsq61 (71 + 2 * i) (by omega)).trans (hSC i hi))
          replace hF : ∀ j : Nat, 78 ≤ j → Ew61 j = E0 j := fun j hj => (hsq61 j (by omega)).trans (hF j hj)
          refine J_iinc (q := 65) X dX9_text_62 rfl (by decide) rfl rfl ?_
          refine J_goto (q := 50) X dX9_text_65 (by decide) ?_
          refine ih50 _ _ _ (by omega) (fun t => ?_) hFk hRd hK hT hY hBl hDr hDC hMk hB hR hC hP hA hH hD hS hV hZ hHs hSt hHR hHC hIm hIR hIC hKp hSh hSR hSC hF (by omega)
          simp only [iu, hkk]
          repeat' split
          all_goals first | rfl | (exfalso; omega)
    exact lp50 10 _ _ _ (by omega) (fun t => by rw [if_neg (by omega)]) hFk hRd hK hT hY hBl hDr hDC hMk hB hR hC hP hA hH hD hS hV hZ hHs hSt hHR hHC hIm hIR hIC hKp hSh hSR hSC hF (by omega)
  · refine J_bipush (q := 22) X dX9_text_20 rfl (by decide) ?_
    refine J_aload_n (q := 23) X dX9_text_22 rfl rfl ?_
    refine J_get (q := 26) X dX9_text_23 fX9_10 hFk (by omega) rfl rfl ?_
    refine J_get (q := 29) X dX9_text_26 fX9_75 hRd (by omega) rfl rfl ?_
    refine J_get (q := 32) X dX9_text_29 fX9_79 hBl (by omega) rfl rfl ?_
    refine J_isub (q := 33) X dX9_text_32 rfl ?_
    refine J_iret X R dX9_text_33 ?_
    rw [hE0] at hF
    have h0 : (R0 s.tb s.tl).1 ≠ 0 := fun e => by rw [bI_t e] at hzq4; omega
    have hpl := hpqq4 (by rw [e1]; exact h0)
    rw [e2] at hpl
    subst hpl
    rw [show qText s = (-10 - (R0 s.tb s.tl).2.1, (s.tape 0 s.tb).blame (R0 s.tb s.tl).1 (R0 s.tb s.tl).2.2.1 (R0 s.tb s.tl).2.2.2.1 (R0 s.tb s.tl).2.2.2.2.1) by unfold qText; rw [if_pos h0]]
    exact ⟨_, rfl, rfl, ⟨⟨_, _, _, _, _, _, _, _, _, _, _, _, _, _, _, _, _, _, hFk, hRd, hK, hT, hY, hBl, hDr, hDC, hMk, hB, hR, hC, hP, hA, hH, hD, hS, hV, hZ, hHs, hSt, hHR, hHC, hIm, hIR, hIC, hKp, hSh, hSR, hSC, hdm, hmk, hQ⟩, kv_fail hk (R0_fin htb).1⟩, hF⟩
