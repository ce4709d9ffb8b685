set_option maxRecDepth 100000 in
set_option maxHeartbeats 4000000 in
theorem c_X9_grow {l : Launch} {Γ : JG} {ad : Nat → Nat} {E : Nat → va_E} {s : KS} {sd m : Int} (hc : KI Γ ad E s) (hbsd : -2147483648 ≤ sd ∧ sd < 2147483648) (hbm : -2147483648 ≤ m ∧ m < 2147483648) : JM l Γ yX9_grow cX9_grow 6 (some .int) 6 128 0 0 ad 95 E [.ref (ad 0), .int (jI sd), .int (jI m)] (pI (fun z E' => z = (qGrow s sd m).1 ∧ KI Γ ad E' (qGrow s sd m).2 ∧ ∀ j : Nat, 78 ≤ j → E' j = E j)) := by
  refine JM_intro (own := RX9) [some (.ref (ad 0)), some (.int (jI sd)), some (.int (jI m)), none, none, none] rfl rfl rfl (Nat.le_of_ble_eq_true rfl) ?_
  intro Ω X R hin
  obtain ⟨E0, hE0⟩ : ∃ E0 : Nat → va_E, E0 = E := ⟨_, rfl⟩
  have hF : ∀ j : Nat, 78 ≤ j → E j = E0 j := fun _ _ => by rw [hE0]
  obtain ⟨hj, hk⟩ := id hc
  obtain ⟨hk0, -⟩ := id hk
  obtain ⟨x, mk, ti, k0, ka, kb, kv, dm, b1, df, ma, pa, al, hp, de, sl, le, hi, hFk, hRd, hK, hT, hY, hBl, hDr, hDC, hMk, hB, hR, hC, hP, hA, hH, hD, hS, hV, hZ, hHs, hSt, hHR, hHC, hIm, hIR, hIC, hKp, hSh, hSR, hSC, hdm, hmk, hQ⟩ := hj
  have hv := hk0.hv
  obtain ⟨hn, -⟩ := id hv
  have ho := hk0.ho
  have htb := hk0.htb
  obtain ⟨htl, -⟩ := id htb
  have hb := hk0.hb
  obtain ⟨hpa, hal, hde, hsl, hle, hhi⟩ := id hQ
  have hd0 : de 0 = 0 := by rw [hde 0 (by omega) (by omega)]; rfl
  have hs0 : sl 0 = 0 := by rw [hsl 0 (by omega) (by omega)]; rfl
  refine J_iload_n (q := 1) X dX9_grow_0 rfl rfl ?_
  refine J_iconst (q := 2) X dX9_grow_1 rfl ?_
  refine J_icmp_lt (q := 5) (tgt := 11) X dX9_grow_2 (by decide) rfl (by omega) (by omega) (fun cq2 => ?_) (fun cq2 => ?_)
  · refine J_iconst (q := 12) X dX9_grow_11 rfl ?_
    refine J_iret X R dX9_grow_12 ?_
    rw [hE0] at hF
    rw [show qGrow s sd m = (-1, s) by unfold qGrow; rw [if_pos (by omega)]]
    exact ⟨_, rfl, rfl, hc, hF⟩
  · refine J_iload_n (q := 6) X dX9_grow_5 rfl rfl ?_
    refine J_bipush (q := 8) X dX9_grow_6 rfl (by decide) ?_
    refine J_icmp_le (q := 11) (tgt := 13) X dX9_grow_8 (by decide) rfl (by omega) (by omega) (fun cq8 => ?_) (fun cq8 => ?_)
    · refine J_iconst (q := 14) X dX9_grow_13 rfl ?_
      refine J_istore_n (q := 15) X dX9_grow_14 (by decide) rfl rfl ?_
      refine J_iload_n (q := 16) X dX9_grow_15 rfl rfl ?_
      refine J_istore (q := 18) X dX9_grow_16 (by decide) rfl rfl ?_
      have lp18 : ∀ (mm : Nat) (c zz nn : Int) (g : Int → Int) (E : Nat → va_E) (hg : grw m mm zz c nn g = grw m 31 sd 0 s.n s.f) (hcc : 0 ≤ c ∧ c ≤ m) (hvg : VR g nn) (hFk : E 0 = .inr (8, [.ref (ad 1), .ref (ad 3), .ref (ad 9), .ref (ad 10), .ref (ad 19), .ref (ad 63), .ref (ad 68), .ref (ad 69), .int (jI s.tor)])) (hRd : E 1 = .inr (6, [.ref (ad 2), .ref (ad 3), .ref (ad 5), .ref (ad 6), .ref (ad 8), .int (jI x), .int (jI mk), .int (jI ti)])) (hK : E 2 = .inr (7, [.ref (ad 3), .ref (ad 5), .int (jI k0), .int (jI ka), .int (jI kb), .int (jI kv)])) (hT : E 3 = .inr (5, [.ref (ad 4), .int (jI s.tl)])) (hY : E 4 = aI Γ 160 s.tb) (hBl : E 5 = .inr (0, [.int (jI s.b0), .int (jI b1), .int (jI s.b2), .int (jI s.b3), .int (jI s.b4)])) (hDr : E 6 = .inr (3, [.ref (ad 7), .int (jI dm)])) (hDC : E 7 = aI Γ 60 df) (hMk : E 8 = aZ Γ 60 ma) (hB : E 9 = .inr (1, [.ref (ad 10), .ref (ad 12), .ref (ad 13), .ref (ad 14), .ref (ad 15), .ref (ad 16), .ref (ad 17), .ref (ad 18)])) (hR : E 10 = .inr (3, [.ref (ad 11), .int (jI nn)])) (hC : E 11 = aI Γ 60 g) (hP : E 12 = aI Γ 60 pa) (hA : E 13 = aI Γ 60 al) (hH : E 14 = aI Γ 60 hp) (hD : E 15 = aI Γ 61 de) (hS : E 16 = aI Γ 61 sl) (hV : E 17 = aI Γ 60 le) (hZ : E 18 = aZ Γ 60 hi) (hHs : E 19 = .inr (2, [.ref (ad 20), .int (jI s.o), .int (jI s.p), .int (jI s.a)])) (hSt : E 20 = aR Γ 2 21 (fun i => some (ad (21 + 2 * i)))) (hHR : ∀ i : Nat, i < 21 → E (21 + 2 * i) = .inr (3, [.ref (ad (22 + 2 * i)), .int (jI (s.hn i))])) (hHC : ∀ i : Nat, i < 21 → E (22 + 2 * i) = aI Γ 60 (s.hf i)) (hIm : E 63 = aR Γ 2 2 (fun i => some (ad (64 + 2 * i)))) (hIR : ∀ i : Nat, i < 2 → E (64 + 2 * i) = .inr (3, [.ref (ad (65 + 2 * i)), .int (jI (s.im i))])) (hIC : ∀ i : Nat, i < 2 → E (65 + 2 * i) = aI Γ 60 (s.imf i)) (hKp : E 68 = aZ Γ 2 s.kp) (hSh : E 69 = aR Γ 3 4 (fun i => some (ad (70 + 2 * i)))) (hSR : ∀ i : Nat, i < 4 → E (70 + 2 * i) = .inr (4, [.ref (ad (71 + 2 * i)), .int (jI (s.th i)), .int (jI (s.la i)), .int (jI (s.sn i))])) (hSC : ∀ i : Nat, i < 4 → E (71 + 2 * i) = aI Γ 40 (s.sf i)) (hF : ∀ j : Nat, 78 ≤ j → E j = E0 j) (hm : m - c + 1 ≤ (mm : Int)), J l Γ Ω 6 ad 95 0 0 E 18 [some (.ref (ad 0)), some (.int (jI sd)), some (.int (jI m)), some (.int (jI c)), some (.int (jI zz)), none] [] := by
        intro mm
        induction mm with
        | zero => intro c zz nn g E hg hcc hvg hFk hRd hK hT hY hBl hDr hDC hMk hB hR hC hP hA hH hD hS hV hZ hHs hSt hHR hHC hIm hIR hIC hKp hSh hSR hSC hF hm; exfalso; omega
        | succ mm ih18 =>
          intro c zz nn g E hg hcc hvg hFk hRd hK hT hY hBl hDr hDC hMk hB hR hC hP hA hH hD hS hV hZ hHs hSt hHR hHC hIm hIR hIC hKp hSh hSR hSC hF hm
          have hnn := hvg.1
          refine J_iload_n (q := 19) X dX9_grow_18 rfl rfl ?_
          refine J_iload_n (q := 20) X dX9_grow_19 rfl rfl ?_
          refine J_icmp_ge (q := 23) (tgt := 92) X dX9_grow_20 (by decide) rfl (by omega) (by omega) (fun cq20 => ?_) (fun cq20 => ?_)
          · refine J_aload_n (q := 93) X dX9_grow_92 rfl rfl ?_
            refine J_iload_n (q := 94) X dX9_grow_93 rfl rfl ?_
            refine J_callI (q := 97) (jrV X mX9_187 dX9_grow_94 (c_X9_edited (s := s.row (nn) (g)) (show KJ Γ ad _ (s.row (nn) (g)) KQ from ⟨_, _, _, _, _, _, _, _, _, _, _, _, _, _, _, _, _, _, hFk, hRd, hK, hT, hY, hBl, hDr, hDC, hMk, hB, hR, hC, hP, hA, hH, hD, hS, hV, hZ, hHs, hSt, hHR, hHC, hIm, hIR, hIC, hKp, hSh, hSR, hSC, hdm, hmk, ⟨hd0, hs0⟩⟩) (kv_row hk0 (hvg))) hFk (by omega) rfl rfl rfl rfl (Nat.le_of_ble_eq_true rfl) (by decide)) rfl (fun zq94 Ew94 hpq94 => ?_)
            obtain ⟨hzq94, hkqq94, hsq94⟩ := hpq94
            replace hF : ∀ j : Nat, 78 ≤ j → Ew94 j = E0 j := fun j hj => (hsq94 j (by omega)).trans (hF j hj)
            refine J_iret X R dX9_grow_97 ?_
            rw [hE0] at hF
            rw [grw, if_neg (by omega)] at hg
            rw [show qGrow s sd m = (c, (s.row nn g).ed) by unfold qGrow; rw [if_neg (by omega), ← hg]]
            exact ⟨_, rfl, hzq94, hkqq94, hF⟩
          · refine J_aload_n (q := 24) X dX9_grow_23 rfl rfl ?_
            refine J_get (q := 27) X dX9_grow_24 fX9_32 hFk (by omega) rfl rfl ?_
            refine J_callP (q := 30) (jrV X mX9_190 dX9_grow_27 (c_X3_room hR hC (by omega) (by omega)) hR (by omega) rfl rfl rfl rfl (Nat.le_of_ble_eq_true rfl) (by decide)) rfl ?_
            refine J_if_le (q := 33) (tgt := 92) X dX9_grow_30 (by decide) rfl (by omega) (fun cq30 => ?_) (fun cq30 => ?_)
            · refine J_aload_n (q := 93) X dX9_grow_92 rfl rfl ?_
              refine J_iload_n (q := 94) X dX9_grow_93 rfl rfl ?_
              refine J_callI (q := 97) (jrV X mX9_187 dX9_grow_94 (c_X9_edited (s := s.row (nn) (g)) (show KJ Γ ad _ (s.row (nn) (g)) KQ from ⟨_, _, _, _, _, _, _, _, _, _, _, _, _, _, _, _, _, _, hFk, hRd, hK, hT, hY, hBl, hDr, hDC, hMk, hB, hR, hC, hP, hA, hH, hD, hS, hV, hZ, hHs, hSt, hHR, hHC, hIm, hIR, hIC, hKp, hSh, hSR, hSC, hdm, hmk, ⟨hd0, hs0⟩⟩) (kv_row hk0 (hvg))) hFk (by omega) rfl rfl rfl rfl (Nat.le_of_ble_eq_true rfl) (by decide)) rfl (fun zq94 Ew94 hpq94 => ?_)
              obtain ⟨hzq94, hkqq94, hsq94⟩ := hpq94
              replace hF : ∀ j : Nat, 78 ≤ j → Ew94 j = E0 j := fun j hj => (hsq94 j (by omega)).trans (hF j hj)
              refine J_iret X R dX9_grow_97 ?_
              rw [hE0] at hF
              rw [grw, if_neg (by omega)] at hg
              rw [show qGrow s sd m = (c, (s.row nn g).ed) by unfold qGrow; rw [if_neg (by omega), ← hg]]
              exact ⟨_, rfl, hzq94, hkqq94, hF⟩
            · refine J_iload (q := 35) X dX9_grow_33 rfl rfl ?_
              refine J_ldc (q := 37) X dX9_grow_35 kX9_220 rfl ?_
              refine J_imul (q := 38) X dX9_grow_37 rfl ?_
              refine J_sipush (q := 41) X dX9_grow_38 rfl (by decide) ?_
              refine J_iadd (q := 42) X dX9_grow_41 rfl ?_
              refine J_istore (q := 44) X dX9_grow_42 (by decide) rfl rfl ?_
              refine J_iload (q := 46) X dX9_grow_44 rfl rfl ?_
              refine J_bipush (q := 48) X dX9_grow_46 rfl (by decide) ?_
              refine J_ishr (q := 49) X dX9_grow_48 rfl (jI_shr16 _) ?_
              refine J_sipush (q := 52) X dX9_grow_49 rfl (by decide) ?_
              refine J_iand (q := 53) X dX9_grow_52 rfl ((jI_and32767 _).trans (by rw [bm16])) ?_
              obtain ⟨gv, hgv⟩ : ∃ gv, gv = gt zz := ⟨_, rfl⟩
              have hgt : 0 ≤ gv ∧ gv < 32768 := by rw [hgv]; exact ⟨Int.emod_nonneg _ (by decide), Int.emod_lt_of_pos _ (by decide)⟩
              rw [show (zz * 1103515245 + 12345) / 65536 % 32768 = gv from hgv.symm]
              refine J_istore (q := 55) X dX9_grow_53 (by decide) rfl rfl ?_
              refine J_aload_n (q := 56) X dX9_grow_55 rfl rfl ?_
              refine J_get (q := 59) X dX9_grow_56 fX9_32 hFk (by omega) rfl rfl ?_
              refine J_iload (q := 61) X dX9_grow_59 rfl rfl ?_
              refine J_aload_n (q := 62) X dX9_grow_61 rfl rfl ?_
              refine J_get (q := 65) X dX9_grow_62 fX9_32 hFk (by omega) rfl rfl ?_
              refine J_get (q := 68) X dX9_grow_65 fX9_102 hR (by omega) rfl rfl ?_
              refine J_iconst (q := 69) X dX9_grow_68 rfl ?_
              refine J_iadd (q := 70) X dX9_grow_69 rfl ?_
              refine J_irem (q := 71) X dX9_grow_70 rfl (by omega) (by omega) ?_
              have hgp1 := Int.emod_nonneg gv (b := nn + 1) (by omega)
              have hgp2 := Int.emod_lt_of_pos gv (b := nn + 1) (by omega)
              refine J_grown (q := 74) X dX9_grow_71 sX9_221 rfl ?_
              refine J_iload (q := 76) X dX9_grow_74 rfl rfl ?_
              refine J_bipush (q := 78) X dX9_grow_76 rfl (by decide) ?_
              refine J_idiv (q := 79) X dX9_grow_78 rfl (by omega) (by omega) ?_
              refine J_bipush (q := 81) X dX9_grow_79 rfl (by decide) ?_
              refine J_irem (q := 82) X dX9_grow_81 rfl (by omega) (by omega) ?_
              refine J_grownAt (q := 83) X dX9_grow_82 (by omega) rfl ?_
              refine J_callV (q := 86) (jrV X mX9_193 dX9_grow_83 (c_X3_bringIn hR hC (by omega) (by omega) (by omega)) hR (by omega) rfl rfl rfl rfl (Nat.le_of_ble_eq_true rfl) (by decide)) rfl (fun Ew83 hpq83 => ?_)
              obtain ⟨kR, kC, hsq83⟩ := hpq83
              replace hR := kR
              replace hC := kC
              replace hFk := (hsq83 0 (by omega)).trans hFk
              replace hRd := (hsq83 1 (by omega)).trans hRd
              replace hK := (hsq83 2 (by omega)).trans hK
              replace hT := (hsq83 3 (by omega)).trans hT
              replace hY := (hsq83 4 (by omega)).trans hY
              replace hBl := (hsq83 5 (by omega)).trans hBl
              replace hDr := (hsq83 6 (by omega)).trans hDr
              replace hDC := (hsq83 7 (by omega)).trans hDC
              replace hMk := (hsq83 8 (by omega)).trans hMk
              replace hB := (hsq83 9 (by omega)).trans hB
              replace hP := (hsq83 12 (by omega)).trans hP
              replace hA := (hsq83 13 (by omega)).trans hA
              replace hH := (hsq83 14 (by omega)).trans hH
              replace hD := (hsq83 15 (by omega)).trans hD
              replace hS := (hsq83 16 (by omega)).trans hS
              replace hV := (hsq83 17 (by omega)).trans hV
              replace hZ := (hsq83 18 (by omega)).trans hZ
              replace hHs := (hsq83 19 (by omega)).trans hHs
              replace hSt := (hsq83 20 (by omega)).trans hSt
              replace hHR := (fun i hi => (hsq83 (21 + 2 * i) (by omega)).trans (hHR i hi))
              replace hHC := (fun i hi => (hsq83 (22 + 2 * i) (by omega)).trans (hHC i hi))
              replace hIm := (hsq83 63 (by omega)).trans hIm
              replace hIR := (fun i hi => (hsq83 (64 + 2 * i) (by omega)).trans (hIR i hi))
              replace hIC := (fun i hi => (hsq83 (65 + 2 * i) (by omega)).trans (hIC i hi))
              replace hKp := (hsq83 68 (by omega)).trans hKp
              replace hSh := (hsq83 69 (by omega)).trans hSh
              replace hSR := (fun i hi => (hsq83 (70 + 2 * i) (by omega)).trans (hSR i hi))
              replace hSC := (fun i hi => (hsq83 (71 + 2 * i) (by omega)).trans (hSC i hi))
              replace hF : ∀ j : Nat, 78 ≤ j → Ew83 j = E0 j := fun j hj => (hsq83 j (by omega)).trans (hF j hj)
              refine J_iinc (q := 89) X dX9_grow_86 rfl (by decide) rfl rfl ?_
              refine J_goto (q := 18) X dX9_grow_89 (by decide) ?_
              refine J_kill 5 ?_
              rw [grw, if_pos ⟨by omega, by omega⟩] at hg
              refine ih18 _ _ _ _ _ ?_ (by omega) ?_ hFk hRd hK hT hY hBl hDr hDC hMk hB hR hC hP hA hH hD hS hV hZ hHs hSt hHR hHC hIm hIR hIC hKp hSh hSR hSC hF (by omega)
              · subst hgv; exact hg
              · subst hgv; exact VR_ins hvg (by omega) (gd_sgn (gc_sgn zz))
      exact lp18 31 _ _ _ _ _ rfl (by omega) hv hFk hRd hK hT hY hBl hDr hDC hMk hB hR hC hP hA hH hD hS hV hZ hHs hSt hHR hHC hIm hIR hIC hKp hSh hSR hSC hF (by omega)
    · refine J_iconst (q := 12) X dX9_grow_11 rfl ?_
      refine J_iret X R dX9_grow_12 ?_
      rw [hE0] at hF
      rw [show qGrow s sd m = (-1, s) by unfold qGrow; rw [if_pos (by omega)]]
      exact ⟨_, rfl, rfl, hc, hF⟩

set_option maxRecDepth 100000 in
set_option maxHeartbeats 4000000 in
theorem c_X9_read {l : Launch} {Γ : JG} {ad : Nat → Nat} {E : Nat → va_E} {s : KS} {k w st m : Int} (hc : KI Γ ad E s) (hbk : -2147483648 ≤ k ∧ k < 2147483648) (hbw : -2147483648 ≤ w ∧ w < 2147483648) (hbst : -2147483648 ≤ st ∧ st < 2147483648) (hbm : -2147483648 ≤ m ∧ m < 2147483648) : JM l Γ yX9_read cX9_read 9 (some .int) 6 128 0 0 ad 95 E [.ref (ad 0), .int (jI k), .int (jI w), .int (jI st), .int (jI m)] (pI (fun z E' => z = (qRead s k w st m).1 ∧ KI Γ ad E' (qRead s k w st m).2 ∧ ∀ j : Nat, 78 ≤ j → E' j = E j)) := by
  refine JM_intro (own := RX9) [some (.ref (ad 0)), some (.int (jI k)), some (.int (jI w)), some (.int (jI st)), some (.int (jI m)), none, none, none, none] rfl rfl rfl (Nat.le_of_ble_eq_true rfl) ?_
  intro Ω X R hin
  obtain ⟨E0, hE0⟩ : ∃ E0 : Nat → va_E, E0 = E := ⟨_, rfl⟩
  have hF : ∀ j : Nat, 78 ≤ j → E j = E0 j := fun _ _ => by rw [hE0]
  obtain ⟨hj, hk⟩ := id hc
  obtain ⟨hk0, -⟩ := id hk
  obtain ⟨x, mk, ti, k0, ka, kb, kv, dm, b1, df, ma, pa, al, hp, de, sl, le, hi, hFk, hRd, hK, hT, hY, hBl, hDr, hDC, hMk, hB, hR, hC, hP, hA, hH, hD, hS, hV, hZ, hHs, hSt, hHR, hHC, hIm, hIR, hIC, hKp, hSh, hSR, hSC, hdm, hmk, hQ⟩ := hj
  have hv := hk0.hv
  obtain ⟨hn, -⟩ := id hv
  have ho := hk0.ho
  have htb := hk0.htb
  obtain ⟨htl, -⟩ := id htb
  have hb := hk0.hb
  obtain ⟨hpa, hal, hde, hsl, hle, hhi⟩ := id hQ
  have hd0 : de 0 = 0 := by rw [hde 0 (by omega) (by omega)]; rfl
  have hs0 : sl 0 = 0 := by rw [hsl 0 (by omega) (by omega)]; rfl
  refine J_iload_n (q := 1) X dX9_read_0 rfl rfl ?_
  refine J_callP (q := 4) (jrS X mX9_235 dX9_read_1 (c_X9_hasSheet (by omega)) rfl rfl (Nat.le_of_ble_eq_true rfl) (by decide)) rfl ?_
  refine J_if_eqB (q := 7) (tgt := 26) X dX9_read_4 (by decide) rfl (fun cq4 => ?_) (fun cq4 => ?_)
  · refine J_iconst (q := 27) X dX9_read_26 rfl ?_
    refine J_iret X R dX9_read_27 ?_
    rw [hE0] at hF
    rw [show qRead s k w st m = (-1, s) by unfold qRead; rw [if_pos (fun z => by obtain ⟨z1, z2, z3⟩ := z; omega)]]
    exact ⟨_, rfl, rfl, hc, hF⟩
  · refine J_iload_n (q := 8) X dX9_read_7 rfl rfl ?_
    refine J_callP (q := 11) (jrS X mX9_238 dX9_read_8 (c_X9_isLane (by omega)) rfl rfl (Nat.le_of_ble_eq_true rfl) (by decide)) rfl ?_
    refine J_if_eqB (q := 14) (tgt := 26) X dX9_read_11 (by decide) rfl (fun cq11 => ?_) (fun cq11 => ?_)
    · refine J_iconst (q := 27) X dX9_read_26 rfl ?_
      refine J_iret X R dX9_read_27 ?_
      rw [hE0] at hF
      rw [show qRead s k w st m = (-1, s) by unfold qRead; rw [if_pos (fun z => by obtain ⟨z1, z2, z3⟩ := z; omega)]]
      exact ⟨_, rfl, rfl, hc, hF⟩
    · refine J_iload (q := 16) X dX9_read_14 rfl rfl ?_
      refine J_if_lt (q := 19) (tgt := 26) X dX9_read_16 (by decide) rfl (by omega) (fun cq16 => ?_) (fun cq16 => ?_)
      · refine J_iconst (q := 27) X dX9_read_26 rfl ?_
        refine J_iret X R dX9_read_27 ?_
        rw [hE0] at hF
        rw [show qRead s k w st m = (-1, s) by unfold qRead; rw [if_pos (fun z => by obtain ⟨z1, z2, z3⟩ := z; omega)]]
        exact ⟨_, rfl, rfl, hc, hF⟩
      · refine J_iload (q := 21) X dX9_read_19 rfl rfl ?_
        refine J_bipush (q := 23) X dX9_read_21 rfl (by decide) ?_
        refine J_icmp_le (q := 26) (tgt := 28) X dX9_read_23 (by decide) rfl (by omega) (by omega) (fun cq23 => ?_) (fun cq23 => ?_)
        · have hPz := hSR k.toNat (by omega)
          have hPc := hSC k.toNat (by omega)
          have hss := hk0.hs k.toNat (by omega)
          refine J_aload_n (q := 29) X dX9_read_28 rfl rfl ?_
          refine J_get (q := 32) X dX9_read_29 fX9_53 hFk (by omega) rfl rfl ?_
          refine J_iload_n (q := 33) X dX9_read_32 rfl rfl ?_
          refine J_aald (q := 34) X dX9_read_33 (by decide) hSh (by omega) (by omega) (by decide) rfl rfl ?_
          refine J_astore (q := 36) X dX9_read_34 (by decide) rfl rfl ?_
          refine J_iconst (q := 37) X dX9_read_36 rfl ?_
          refine J_istore (q := 39) X dX9_read_37 (by decide) rfl rfl ?_
          refine J_iconst (q := 40) X dX9_read_39 rfl ?_
          refine J_istore (q := 42) X dX9_read_40 (by decide) rfl rfl ?_
          have lp42 : ∀ (mm : Nat) (c fd : Int) (hcc : 0 ≤ c ∧ c ≤ m) (hsc : sc (fun c => rdP s k w st c) m c = rdC s k w st m) (hfd : fd = 0 ∨ (fd ≠ 0 ∧ c < m ∧ fd = faN s k w (st + c))) (hfb : 0 ≤ fd ∧ fd ≤ 3) (hfc : c = 0 ∨ (0 ≤ st ∧ st + c ≤ 40 ∧ c ≤ 60 - s.n)) (hm : 2 * (m - c) + (if fd = 0 then 1 else 0) + 1 ≤ (mm : Int)), J l Γ Ω 9 ad 95 0 0 E 42 [some (.ref (ad 0)), some (.int (jI k)), some (.int (jI w)), some (.int (jI st)), some (.int (jI m)), some (.ref (ad (70 + 2 * k.toNat))), some (.int (jI fd)), some (.int (jI c)), none] [] := by
            intro mm
            induction mm with
            | zero => intro c fd hcc hsc hfd hfb hfc hm; exfalso; omega
            | succ mm ih42 =>
              intro c fd hcc hsc hfd hfb hfc hm
              refine J_iload (q := 44) X dX9_read_42 rfl rfl ?_
              refine J_iload (q := 46) X dX9_read_44 rfl rfl ?_
              refine J_icmp_ge (q := 49) (tgt := 111) X dX9_read_46 (by decide) rfl (by omega) (by omega) (fun cq46 => ?_) (fun cq46 => ?_)
              · have hrc : rdC s k w st m = c ∧ fd = (if c < m then faN s k w (st + c) else 0) := by
                  rcases hfd with z | z
                  · have hcm : c = m := by omega
                    rw [sc_stop (P := (fun c => rdP s k w st c)) (by omega)] at hsc
                    exact ⟨hsc.symm, by rw [if_neg (by omega)]; exact z⟩
                  · rw [sc_stop (P := (fun c => rdP s k w st c)) (fun y => by have y1 := y.2.1; omega)] at hsc
                    exact ⟨hsc.symm, by rw [if_pos (by omega)]; exact z.2.2⟩
                have hall : ∀ j : Int, 0 ≤ j → j < c → sgn (s.sf k.toNat (st + j)) := fun j a b => ((sc_of (P := (fun c => rdP s k w st c)) m 0).2.2.1 j a (by have e : sc (fun c => rdP s k w st c) m 0 = c := hrc.1; rw [e]; exact b)).2.1
                refine J_iconst (q := 112) X dX9_read_111 rfl ?_
                refine J_istore (q := 114) X dX9_read_112 (by decide) rfl rfl ?_
                have lp114 : ∀ (mq : Nat) (i nn : Int) (g : Int → Int) (E : Nat → va_E) (hii : 0 ≤ i ∧ i ≤ c ∧ nn = s.n + i) (hg : ∀ t : Int, g t = rdF s k st i t) (hFk : E 0 = .inr (8, [.ref (ad 1), .ref (ad 3), .ref (ad 9), .ref (ad 10), .ref (ad 19), .ref (ad 63), .ref (ad 68), .ref (ad 69), .int (jI s.tor)])) (hRd : E 1 = .inr (6, [.ref (ad 2), .ref (ad 3), .ref (ad 5), .ref (ad 6), .ref (ad 8), .int (jI x), .int (jI mk), .int (jI ti)])) (hK : E 2 = .inr (7, [.ref (ad 3), .ref (ad 5), .int (jI k0), .int (jI ka), .int (jI kb), .int (jI kv)])) (hT : E 3 = .inr (5, [.ref (ad 4), .int (jI s.tl)])) (hY : E 4 = aI Γ 160 s.tb) (hBl : E 5 = .inr (0, [.int (jI s.b0), .int (jI b1), .int (jI s.b2), .int (jI s.b3), .int (jI s.b4)])) (hDr : E 6 = .inr (3, [.ref (ad 7), .int (jI dm)])) (hDC : E 7 = aI Γ 60 df) (hMk : E 8 = aZ Γ 60 ma) (hB : E 9 = .inr (1, [.ref (ad 10), .ref (ad 12), .ref (ad 13), .ref (ad 14), .ref (ad 15), .ref (ad 16), .ref (ad 17), .ref (ad 18)])) (hR : E 10 = .inr (3, [.ref (ad 11), .int (jI nn)])) (hC : E 11 = aI Γ 60 g) (hP : E 12 = aI Γ 60 pa) (hA : E 13 = aI Γ 60 al) (hH : E 14 = aI Γ 60 hp) (hD : E 15 = aI Γ 61 de) (hS : E 16 = aI Γ 61 sl) (hV : E 17 = aI Γ 60 le) (hZ : E 18 = aZ Γ 60 hi) (hHs : E 19 = .inr (2, [.ref (ad 20), .int (jI s.o), .int (jI s.p), .int (jI s.a)])) (hSt : E 20 = aR Γ 2 21 (fun i => some (ad (21 + 2 * i)))) (hHR : ∀ i : Nat, i < 21 → E (21 + 2 * i) = .inr (3, [.ref (ad (22 + 2 * i)), .int (jI (s.hn i))])) (hHC : ∀ i : Nat, i < 21 → E (22 + 2 * i) = aI Γ 60 (s.hf i)) (hIm : E 63 = aR Γ 2 2 (fun i => some (ad (64 + 2 * i)))) (hIR : ∀ i : Nat, i < 2 → E (64 + 2 * i) = .inr (3, [.ref (ad (65 + 2 * i)), .int (jI (s.im i))])) (hIC : ∀ i : Nat, i < 2 → E (65 + 2 * i) = aI Γ 60 (s.imf i)) (hKp : E 68 = aZ Γ 2 s.kp) (hSh : E 69 = aR Γ 3 4 (fun i => some (ad (70 + 2 * i)))) (hSR : ∀ i : Nat, i < 4 → E (70 + 2 * i) = .inr (4, [.ref (ad (71 + 2 * i)), .int (jI (s.th i)), .int (jI (s.la i)), .int (jI (s.sn i))])) (hSC : ∀ i : Nat, i < 4 → E (71 + 2 * i) = aI Γ 40 (s.sf i)) (hPz : E (70 + 2 * k.toNat) = .inr (4, [.ref (ad (71 + 2 * k.toNat)), .int (jI (s.th k.toNat)), .int (jI (s.la k.toNat)), .int (jI (s.sn k.toNat))])) (hPc : E (71 + 2 * k.toNat) = aI Γ 40 (s.sf k.toNat)) (hF : ∀ j : Nat, 78 ≤ j → E j = E0 j) (hmq : c - i + 1 ≤ (mq : Int)), J l Γ Ω 9 ad 95 0 0 E 114 [some (.ref (ad 0)), some (.int (jI k)), some (.int (jI w)), some (.int (jI st)), some (.int (jI m)), some (.ref (ad (70 + 2 * k.toNat))), some (.int (jI fd)), some (.int (jI c)), some (.int (jI i))] [] := by
                  intro mq
                  induction mq with
                  | zero => intro i nn g E hii hg hFk hRd hK hT hY hBl hDr hDC hMk hB hR hC hP hA hH hD hS hV hZ hHs hSt hHR hHC hIm hIR hIC hKp hSh hSR hSC hPz hPc hF hmq; exfalso; omega
                  | succ mq ih114 =>
                    intro i nn g E hii hg hFk hRd hK hT hY hBl hDr hDC hMk hB hR hC hP hA hH hD hS hV hZ hHs hSt hHR hHC hIm hIR hIC hKp hSh hSR hSC hPz hPc hF hmq
                    refine J_iload (q := 116) X dX9_read_114 rfl rfl ?_
                    refine J_iload (q := 118) X dX9_read_116 rfl rfl ?_
                    refine J_icmp_ge (q := 121) (tgt := 151) X dX9_read_118 (by decide) rfl (by omega) (by omega) (fun cq118 => ?_) (fun cq118 => ?_)
                    · obtain rfl : i = c := by omega
                      obtain rfl : g = rdF s k st i := funext hg
                      have hvg : VR (rdF s k st i) (s.n + i) := ⟨by omega, fun j a b => by
                        simp only [rdF]
                        split
                        · exact gd_sgn (hall _ (by omega) (by omega))
                        · exact hv.2 j a (by omega)⟩
                      obtain rfl := hii.2.2
                      refine J_aload_n (q := 152) X dX9_read_151 rfl rfl ?_
                      refine J_iload (q := 154) X dX9_read_152 rfl rfl ?_
                      refine J_put (q := 157) (ty := .int) X dX9_read_154 fX9_256 rfl (by decide +kernel) rfl rfl hFk (by omega) (Nat.le_of_ble_eq_true rfl) rfl (fun Ew154 hkq154 hsq154 => ?_)
                      replace hFk : Ew154 0 = .inr (8, [.ref (ad 1), .ref (ad 3), .ref (ad 9), .ref (ad 10), .ref (ad 19), .ref (ad 63), .ref (ad 68), .ref (ad 69), .int (jI _)]) := hkq154
                      replace hRd := (hsq154 1 (by omega)).trans hRd
                      replace hK := (hsq154 2 (by omega)).trans hK
                      replace hT := (hsq154 3 (by omega)).trans hT
                      replace hY := (hsq154 4 (by omega)).trans hY
                      replace hBl := (hsq154 5 (by omega)).trans hBl
                      replace hDr := (hsq154 6 (by omega)).trans hDr
                      replace hDC := (hsq154 7 (by omega)).trans hDC
                      replace hMk := (hsq154 8 (by omega)).trans hMk
                      replace hB := (hsq154 9 (by omega)).trans hB
                      replace hR := (hsq154 10 (by omega)).trans hR
                      replace hC := (hsq154 11 (by omega)).trans hC
                      replace hP := (hsq154 12 (by omega)).trans hP
                      replace hA := (hsq154 13 (by omega)).trans hA
                      replace hH := (hsq154 14 (by omega)).trans hH
                      replace hD := (hsq154 15 (by omega)).trans hD
                      replace hS := (hsq154 16 (by omega)).trans hS
                      replace hV := (hsq154 17 (by omega)).trans hV
                      replace hZ := (hsq154 18 (by omega)).trans hZ
                      replace hHs := (hsq154 19 (by omega)).trans hHs
                      replace hSt := (hsq154 20 (by omega)).trans hSt
                      replace hHR := (fun i hi => (hsq154 (21 + 2 * i) (by omega)).trans (hHR i hi))
                      replace hHC := (fun i hi => (hsq154 (22 + 2 * i) (by omega)).trans (hHC i hi))
                      replace hIm := (hsq154 63 (by omega)).trans hIm
                      replace hIR := (fun i hi => (hsq154 (64 + 2 * i) (by omega)).trans (hIR i hi))
                      replace hIC := (fun i hi => (hsq154 (65 + 2 * i) (by omega)).trans (hIC i hi))
                      replace hKp := (hsq154 68 (by omega)).trans hKp
                      replace hSh := (hsq154 69 (by omega)).trans hSh
                      replace hSR := (fun i hi => (hsq154 (70 + 2 * i) (by omega)).trans (hSR i hi))
                      replace hSC := (fun i hi => (hsq154 (71 + 2 * i) (by omega)).trans (hSC i hi))
                      replace hPz := (hsq154 (70 + 2 * k.toNat) (by omega)).trans hPz
                      replace hPc := (hsq154 (71 + 2 * k.toNat) (by omega)).trans hPc
                      replace hF : ∀ j : Nat, 78 ≤ j → Ew154 j = E0 j := fun j hj => (hsq154 j (by omega)).trans (hF j hj)
                      refine J_aload_n (q := 158) X dX9_read_157 rfl rfl ?_
                      refine J_iload (q := 160) X dX9_read_158 rfl rfl ?_
                      refine J_callI (q := 163) (jrV X mX9_187 dX9_read_160 (c_X9_edited (s := (s.row (s.n + i) (rdF s k st i)).torn fd) (show KJ Γ ad _ ((s.row (s.n + i) (rdF s k st i)).torn fd) KQ from ⟨_, _, _, _, _, _, _, _, _, _, _, _, _, _, _, _, _, _, hFk, hRd, hK, hT, hY, hBl, hDr, hDC, hMk, hB, hR, hC, hP, hA, hH, hD, hS, hV, hZ, hHs, hSt, hHR, hHC, hIm, hIR, hIC, hKp, hSh, hSR, hSC, hdm, hmk, ⟨hd0, hs0⟩⟩) (show KV0 ((s.row (s.n + i) (rdF s k st i)).torn fd) from kv_row hk0 hvg)) hFk (by omega) rfl rfl rfl rfl (Nat.le_of_ble_eq_true rfl) (by decide)) rfl (fun zq160 Ew160 hpq160 => ?_)
                      obtain ⟨hzq160, hkqq160, hsq160⟩ := hpq160
                      replace hF : ∀ j : Nat, 78 ≤ j → Ew160 j = E0 j := fun j hj => (hsq160 j (by omega)).trans (hF j hj)
                      refine J_iret X R dX9_read_163 ?_
                      rw [hE0] at hF
                      obtain ⟨hr1, hr2⟩ := hrc
                      have hnf : ¬ (i < m ∧ faN s k w (st + i) = 0) := fun z => by rw [if_pos z.1] at hr2; omega
                      rw [show qRead s k w st m = (i, ((s.row (s.n + i) (rdF s k st i)).torn fd).ed) by unfold qRead; rw [if_neg (fun z => z ⟨cq4, cq11, by omega, by omega⟩), hr1, if_neg hnf, ← hr2]]
                      exact ⟨_, rfl, hzq160, hkqq160, hF⟩
                    · refine J_aload_n (q := 122) X dX9_read_121 rfl rfl ?_
                      refine J_get (q := 125) X dX9_read_122 fX9_32 hFk (by omega) rfl rfl ?_
                      refine J_aload_n (q := 126) X dX9_read_125 rfl rfl ?_
                      refine J_get (q := 129) X dX9_read_126 fX9_32 hFk (by omega) rfl rfl ?_
                      refine J_get (q := 132) X dX9_read_129 fX9_102 hR (by omega) rfl rfl ?_
                      refine J_aload (q := 134) X dX9_read_132 rfl rfl ?_
                      refine J_get (q := 137) X dX9_read_134 fX9_253 hPz (by omega) rfl rfl ?_
                      refine J_iload_n (q := 138) X dX9_read_137 rfl rfl ?_
                      refine J_iload (q := 140) X dX9_read_138 rfl rfl ?_
                      refine J_iadd (q := 141) X dX9_read_140 rfl ?_
                      refine J_iald (q := 142) X dX9_read_141 hPc (by omega) (by omega) (by decide) rfl ?_
                      refine J_callV (q := 145) (jrV X mX9_193 dX9_read_142 (c_X3_bringIn hR hC (by omega) (by omega) (by omega)) hR (by omega) rfl rfl rfl rfl (Nat.le_of_ble_eq_true rfl) (by decide)) rfl (fun Ew142 hpq142 => ?_)
                      obtain ⟨kR, kC, hsq142⟩ := hpq142
                      replace hR := kR
                      replace hC := kC
                      replace hFk := (hsq142 0 (by omega)).trans hFk
                      replace hRd := (hsq142 1 (by omega)).trans hRd
                      replace hK := (hsq142 2 (by omega)).trans hK
                      replace hT := (hsq142 3 (by omega)).trans hT
                      replace hY := (hsq142 4 (by omega)).trans hY
                      replace hBl := (hsq142 5 (by omega)).trans hBl
                      replace hDr := (hsq142 6 (by omega)).trans hDr
                      replace hDC := (hsq142 7 (by omega)).trans hDC
                      replace hMk := (hsq142 8 (by omega)).trans hMk
                      replace hB := (hsq142 9 (by omega)).trans hB
                      replace hP := (hsq142 12 (by omega)).trans hP
                      replace hA := (hsq142 13 (by omega)).trans hA
                      replace hH := (hsq142 14 (by omega)).trans hH
                      replace hD := (hsq142 15 (by omega)).trans hD
                      replace hS := (hsq142 16 (by omega)).trans hS
                      replace hV := (hsq142 17 (by omega)).trans hV
                      replace hZ := (hsq142 18 (by omega)).trans hZ
                      replace hHs := (hsq142 19 (by omega)).trans hHs
                      replace hSt := (hsq142 20 (by omega)).trans hSt
                      replace hHR := (fun i hi => (hsq142 (21 + 2 * i) (by omega)).trans (hHR i hi))
                      replace hHC := (fun i hi => (hsq142 (22 + 2 * i) (by omega)).trans (hHC i hi))
                      replace hIm := (hsq142 63 (by omega)).trans hIm
                      replace hIR := (fun i hi => (hsq142 (64 + 2 * i) (by omega)).trans (hIR i hi))
                      replace hIC := (fun i hi => (hsq142 (65 + 2 * i) (by omega)).trans (hIC i hi))
                      replace hKp := (hsq142 68 (by omega)).trans hKp
                      replace hSh := (hsq142 69 (by omega)).trans hSh
                      replace hSR := (fun i hi => (hsq142 (70 + 2 * i) (by omega)).trans (hSR i hi))
                      replace hSC := (fun i hi => (hsq142 (71 + 2 * i) (by omega)).trans (hSC i hi))
                      replace hPz := (hsq142 (70 + 2 * k.toNat) (by omega)).trans hPz
                      replace hPc := (hsq142 (71 + 2 * k.toNat) (by omega)).trans hPc
                      replace hF : ∀ j : Nat, 78 ≤ j → Ew142 j = E0 j := fun j hj => (hsq142 j (by omega)).trans (hF j hj)
                      refine J_iinc (q := 148) X dX9_read_145 rfl (by decide) rfl rfl ?_
                      refine J_goto (q := 114) X dX9_read_148 (by decide) ?_
                      refine ih114 _ _ _ _ (by omega) (fun t => ?_) hFk hRd hK hT hY hBl hDr hDC hMk hB hR hC hP hA hH hD hS hV hZ hHs hSt hHR hHC hIm hIR hIC hKp hSh hSR hSC hPz hPc hF (by omega)
                      simp only [iu, icp, hg, rdF]
                      repeat' split
                      all_goals first | rfl | (exfalso; omega) | (congr 1; omega)
                exact lp114 100 _ _ _ _ (by omega) (fun t => by simp only [rdF]; rw [if_neg (by omega)]) hFk hRd hK hT hY hBl hDr hDC hMk hB hR hC hP hA hH hD hS hV hZ hHs hSt hHR hHC hIm hIR hIC hKp hSh hSR hSC hPz hPc hF (by omega)
              · refine J_iload (q := 51) X dX9_read_49 rfl rfl ?_
                refine J_if_ne (q := 54) (tgt := 111) X dX9_read_51 (by decide) rfl (by omega) (fun cq51 => ?_) (fun cq51 => ?_)
                · have hrc : rdC s k w st m = c ∧ fd = (if c < m then faN s k w (st + c) else 0) := by
                    rcases hfd with z | z
                    · have hcm : c = m := by omega
                      rw [sc_stop (P := (fun c => rdP s k w st c)) (by omega)] at hsc
                      exact ⟨hsc.symm, by rw [if_neg (by omega)]; exact z⟩
                    · rw [sc_stop (P := (fun c => rdP s k w st c)) (fun y => by have y1 := y.2.1; omega)] at hsc
                      exact ⟨hsc.symm, by rw [if_pos (by omega)]; exact z.2.2⟩
                  have hall : ∀ j : Int, 0 ≤ j → j < c → sgn (s.sf k.toNat (st + j)) := fun j a b => ((sc_of (P := (fun c => rdP s k w st c)) m 0).2.2.1 j a (by have e : sc (fun c => rdP s k w st c) m 0 = c := hrc.1; rw [e]; exact b)).2.1
                  refine J_iconst (q := 112) X dX9_read_111 rfl ?_
                  refine J_istore (q := 114) X dX9_read_112 (by decide) rfl rfl ?_
                  have lp114 : ∀ (mq : Nat) (i nn : Int) (g : Int → Int) (E : Nat → va_E) (hii : 0 ≤ i ∧ i ≤ c ∧ nn = s.n + i) (hg : ∀ t : Int, g t = rdF s k st i t) (hFk : E 0 = .inr (8, [.ref (ad 1), .ref (ad 3), .ref (ad 9), .ref (ad 10), .ref (ad 19), .ref (ad 63), .ref (ad 68), .ref (ad 69), .int (jI s.tor)])) (hRd : E 1 = .inr (6, [.ref (ad 2), .ref (ad 3), .ref (ad 5), .ref (ad 6), .ref (ad 8), .int (jI x), .int (jI mk), .int (jI ti)])) (hK : E 2 = .inr (7, [.ref (ad 3), .ref (ad 5), .int (jI k0), .int (jI ka), .int (jI kb), .int (jI kv)])) (hT : E 3 = .inr (5, [.ref (ad 4), .int (jI s.tl)])) (hY : E 4 = aI Γ 160 s.tb) (hBl : E 5 = .inr (0, [.int (jI s.b0), .int (jI b1), .int (jI s.b2), .int (jI s.b3), .int (jI s.b4)])) (hDr : E 6 = .inr (3, [.ref (ad 7), .int (jI dm)])) (hDC : E 7 = aI Γ 60 df) (hMk : E 8 = aZ Γ 60 ma) (hB : E 9 = .inr (1, [.ref (ad 10), .ref (ad 12), .ref (ad 13), .ref (ad 14), .ref (ad 15), .ref (ad 16), .ref (ad 17), .ref (ad 18)])) (hR : E 10 = .inr (3, [.ref (ad 11), .int (jI nn)])) (hC : E 11 = aI Γ 60 g) (hP : E 12 = aI Γ 60 pa) (hA : E 13 = aI Γ 60 al) (hH : E 14 = aI Γ 60 hp) (hD : E 15 = aI Γ 61 de) (hS : E 16 = aI Γ 61 sl) (hV : E 17 = aI Γ 60 le) (hZ : E 18 = aZ Γ 60 hi) (hHs : E 19 = .inr (2, [.ref (ad 20), .int (jI s.o), .int (jI s.p), .int (jI s.a)])) (hSt : E 20 = aR Γ 2 21 (fun i => some (ad (21 + 2 * i)))) (hHR : ∀ i : Nat, i < 21 → E (21 + 2 * i) = .inr (3, [.ref (ad (22 + 2 * i)), .int (jI (s.hn i))])) (hHC : ∀ i : Nat, i < 21 → E (22 + 2 * i) = aI Γ 60 (s.hf i)) (hIm : E 63 = aR Γ 2 2 (fun i => some (ad (64 + 2 * i)))) (hIR : ∀ i : Nat, i < 2 → E (64 + 2 * i) = .inr (3, [.ref (ad (65 + 2 * i)), .int (jI (s.im i))])) (hIC : ∀ i : Nat, i < 2 → E (65 + 2 * i) = aI Γ 60 (s.imf i)) (hKp : E 68 = aZ Γ 2 s.kp) (hSh : E 69 = aR Γ 3 4 (fun i => some (ad (70 + 2 * i)))) (hSR : ∀ i : Nat, i < 4 → E (70 + 2 * i) = .inr (4, [.ref (ad (71 + 2 * i)), .int (jI (s.th i)), .int (jI (s.la i)), .int (jI (s.sn i))])) (hSC : ∀ i : Nat, i < 4 → E (71 + 2 * i) = aI Γ 40 (s.sf i)) (hPz : E (70 + 2 * k.toNat) = .inr (4, [.ref (ad (71 + 2 * k.toNat)), .int (jI (s.th k.toNat)), .int (jI (s.la k.toNat)), .int (jI (s.sn k.toNat))])) (hPc : E (71 + 2 * k.toNat) = aI Γ 40 (s.sf k.toNat)) (hF : ∀ j : Nat, 78 ≤ j → E j = E0 j) (hmq : c - i + 1 ≤ (mq : Int)), J l Γ Ω 9 ad 95 0 0 E 114 [some (.ref (ad 0)), some (.int (jI k)), some (.int (jI w)), some (.int (jI st)), some (.int (jI m)), some (.ref (ad (70 + 2 * k.toNat))), some (.int (jI fd)), some (.int (jI c)), some (.int (jI i))] [] := by
                    intro mq
                    induction mq with
                    | zero => intro i nn g E hii hg hFk hRd hK hT hY hBl hDr hDC hMk hB hR hC hP hA hH hD hS hV hZ hHs hSt hHR hHC hIm hIR hIC hKp hSh hSR hSC hPz hPc hF hmq; exfalso; omega
                    | succ mq ih114 =>
                      intro i nn g E hii hg hFk hRd hK hT hY hBl hDr hDC hMk hB hR hC hP hA hH hD hS hV hZ hHs hSt hHR hHC hIm hIR hIC hKp hSh hSR hSC hPz hPc hF hmq
                      refine J_iload (q := 116) X dX9_read_114 rfl rfl ?_
                      refine J_iload (q := 118) X dX9_read_116 rfl rfl ?_
                      refine J_icmp_ge (q := 121) (tgt := 151) X dX9_read_118 (by decide) rfl (by omega) (by omega) (fun cq118 => ?_) (fun cq118 => ?_)
                      · obtain rfl : i = c := by omega
                        obtain rfl : g = rdF s k st i := funext hg
                        have hvg : VR (rdF s k st i) (s.n + i) := ⟨by omega, fun j a b => by
                          simp only [rdF]
                          split
                          · exact gd_sgn (hall _ (by omega) (by omega))
                          · exact hv.2 j a (by omega)⟩
                        obtain rfl := hii.2.2
                        refine J_aload_n (q := 152) X dX9_read_151 rfl rfl ?_
                        refine J_iload (q := 154) X dX9_read_152 rfl rfl ?_
                        refine J_put (q := 157) (ty := .int) X dX9_read_154 fX9_256 rfl (by decide +kernel) rfl rfl hFk (by omega) (Nat.le_of_ble_eq_true rfl) rfl (fun Ew154 hkq154 hsq154 => ?_)
                        replace hFk : Ew154 0 = .inr (8, [.ref (ad 1), .ref (ad 3), .ref (ad 9), .ref (ad 10), .ref (ad 19), .ref (ad 63), .ref (ad 68), .ref (ad 69), .int (jI _)]) := hkq154
                        replace hRd := (hsq154 1 (by omega)).trans hRd
                        replace hK := (hsq154 2 (by omega)).trans hK
                        replace hT := (hsq154 3 (by omega)).trans hT
                        replace hY := (hsq154 4 (by omega)).trans hY
                        replace hBl := (hsq154 5 (by omega)).trans hBl
                        replace hDr := (hsq154 6 (by omega)).trans hDr
                        replace hDC := (hsq154 7 (by omega)).trans hDC
                        replace hMk := (hsq154 8 (by omega)).trans hMk
                        replace hB := (hsq154 9 (by omega)).trans hB
                        replace hR := (hsq154 10 (by omega)).trans hR
                        replace hC := (hsq154 11 (by omega)).trans hC
                        replace hP := (hsq154 12 (by omega)).trans hP
                        replace hA := (hsq154 13 (by omega)).trans hA
                        replace hH := (hsq154 14 (by omega)).trans hH
                        replace hD := (hsq154 15 (by omega)).trans hD
                        replace hS := (hsq154 16 (by omega)).trans hS
                        replace hV := (hsq154 17 (by omega)).trans hV
                        replace hZ := (hsq154 18 (by omega)).trans hZ
                        replace hHs := (hsq154 19 (by omega)).trans hHs
                        replace hSt := (hsq154 20 (by omega)).trans hSt
                        replace hHR := (fun i hi => (hsq154 (21 + 2 * i) (by omega)).trans (hHR i hi))
                        replace hHC := (fun i hi => (hsq154 (22 + 2 * i) (by omega)).trans (hHC i hi))
                        replace hIm := (hsq154 63 (by omega)).trans hIm
                        replace hIR := (fun i hi => (hsq154 (64 + 2 * i) (by omega)).trans (hIR i hi))
                        replace hIC := (fun i hi => (hsq154 (65 + 2 * i) (by omega)).trans (hIC i hi))
                        replace hKp := (hsq154 68 (by omega)).trans hKp
                        replace hSh := (hsq154 69 (by omega)).trans hSh
                        replace hSR := (fun i hi => (hsq154 (70 + 2 * i) (by omega)).trans (hSR i hi))
                        replace hSC := (fun i hi => (hsq154 (71 + 2 * i) (by omega)).trans (hSC i hi))
                        replace hPz := (hsq154 (70 + 2 * k.toNat) (by omega)).trans hPz
                        replace hPc := (hsq154 (71 + 2 * k.toNat) (by omega)).trans hPc
                        replace hF : ∀ j : Nat, 78 ≤ j → Ew154 j = E0 j := fun j hj => (hsq154 j (by omega)).trans (hF j hj)
                        refine J_aload_n (q := 158) X dX9_read_157 rfl rfl ?_
                        refine J_iload (q := 160) X dX9_read_158 rfl rfl ?_
                        refine J_callI (q := 163) (jrV X mX9_187 dX9_read_160 (c_X9_edited (s := (s.row (s.n + i) (rdF s k st i)).torn fd) (show KJ Γ ad _ ((s.row (s.n + i) (rdF s k st i)).torn fd) KQ from ⟨_, _, _, _, _, _, _, _, _, _, _, _, _, _, _, _, _, _, hFk, hRd, hK, hT, hY, hBl, hDr, hDC, hMk, hB, hR, hC, hP, hA, hH, hD, hS, hV, hZ, hHs, hSt, hHR, hHC, hIm, hIR, hIC, hKp, hSh, hSR, hSC, hdm, hmk, ⟨hd0, hs0⟩⟩) (show KV0 ((s.row (s.n + i) (rdF s k st i)).torn fd) from kv_row hk0 hvg)) hFk (by omega) rfl rfl rfl rfl (Nat.le_of_ble_eq_true rfl) (by decide)) rfl (fun zq160 Ew160 hpq160 => ?_)
                        obtain ⟨hzq160, hkqq160, hsq160⟩ := hpq160
                        replace hF : ∀ j : Nat, 78 ≤ j → Ew160 j = E0 j := fun j hj => (hsq160 j (by omega)).trans (hF j hj)
                        refine J_iret X R dX9_read_163 ?_
                        rw [hE0] at hF
                        obtain ⟨hr1, hr2⟩ := hrc
                        have hnf : ¬ (i < m ∧ faN s k w (st + i) = 0) := fun z => by rw [if_pos z.1] at hr2; omega
                        rw [show qRead s k w st m = (i, ((s.row (s.n + i) (rdF s k st i)).torn fd).ed) by unfold qRead; rw [if_neg (fun z => z ⟨cq4, cq11, by omega, by omega⟩), hr1, if_neg hnf, ← hr2]]
                        exact ⟨_, rfl, hzq160, hkqq160, hF⟩
                      · refine J_aload_n (q := 122) X dX9_read_121 rfl rfl ?_
                        refine J_get (q := 125) X dX9_read_122 fX9_32 hFk (by omega) rfl rfl ?_
                        refine J_aload_n (q := 126) X dX9_read_125 rfl rfl ?_
                        refine J_get (q := 129) X dX9_read_126 fX9_32 hFk (by omega) rfl rfl ?_
                        refine J_get (q := 132) X dX9_read_129 fX9_102 hR (by omega) rfl rfl ?_
                        refine J_aload (q := 134) X dX9_read_132 rfl rfl ?_
                        refine J_get (q := 137) X dX9_read_134 fX9_253 hPz (by omega) rfl rfl ?_
                        refine J_iload_n (q := 138) X dX9_read_137 rfl rfl ?_
                        refine J_iload (q := 140) X dX9_read_138 rfl rfl ?_
                        refine J_iadd (q := 141) X dX9_read_140 rfl ?_
                        refine J_iald (q := 142) X dX9_read_141 hPc (by omega) (by omega) (by decide) rfl ?_
                        refine J_callV (q := 145) (jrV X mX9_193 dX9_read_142 (c_X3_bringIn hR hC (by omega) (by omega) (by omega)) hR (by omega) rfl rfl rfl rfl (Nat.le_of_ble_eq_true rfl) (by decide)) rfl (fun Ew142 hpq142 => ?_)
                        obtain ⟨kR, kC, hsq142⟩ := hpq142
                        replace hR := kR
                        replace hC := kC
                        replace hFk := (hsq142 0 (by omega)).trans hFk
                        replace hRd := (hsq142 1 (by omega)).trans hRd
                        replace hK := (hsq142 2 (by omega)).trans hK
                        replace hT := (hsq142 3 (by omega)).trans hT
                        replace hY := (hsq142 4 (by omega)).trans hY
                        replace hBl := (hsq142 5 (by omega)).trans hBl
                        replace hDr := (hsq142 6 (by omega)).trans hDr
                        replace hDC := (hsq142 7 (by omega)).trans hDC
                        replace hMk := (hsq142 8 (by omega)).trans hMk
                        replace hB := (hsq142 9 (by omega)).trans hB
                        replace hP := (hsq142 12 (by omega)).trans hP
                        replace hA := (hsq142 13 (by omega)).trans hA
                        replace hH := (hsq142 14 (by omega)).trans hH
                        replace hD := (hsq142 15 (by omega)).trans hD
                        replace hS := (hsq142 16 (by omega)).trans hS
                        replace hV := (hsq142 17 (by omega)).trans hV
                        replace hZ := (hsq142 18 (by omega)).trans hZ
                        replace hHs := (hsq142 19 (by omega)).trans hHs
                        replace hSt := (hsq142 20 (by omega)).trans hSt
                        replace hHR := (fun i hi => (hsq142 (21 + 2 * i) (by omega)).trans (hHR i hi))
                        replace hHC := (fun i hi => (hsq142 (22 + 2 * i) (by omega)).trans (hHC i hi))
                        replace hIm := (hsq142 63 (by omega)).trans hIm
                        replace hIR := (fun i hi => (hsq142 (64 + 2 * i) (by omega)).trans (hIR i hi))
                        replace hIC := (fun i hi => (hsq142 (65 + 2 * i) (by omega)).trans (hIC i hi))
                        replace hKp := (hsq142 68 (by omega)).trans hKp
                        replace hSh := (hsq142 69 (by omega)).trans hSh
                        replace hSR := (fun i hi => (hsq142 (70 + 2 * i) (by omega)).trans (hSR i hi))
                        replace hSC := (fun i hi => (hsq142 (71 + 2 * i) (by omega)).trans (hSC i hi))
                        replace hPz := (hsq142 (70 + 2 * k.toNat) (by omega)).trans hPz
                        replace hPc := (hsq142 (71 + 2 * k.toNat) (by omega)).trans hPc
                        replace hF : ∀ j : Nat, 78 ≤ j → Ew142 j = E0 j := fun j hj => (hsq142 j (by omega)).trans (hF j hj)
                        refine J_iinc (q := 148) X dX9_read_145 rfl (by decide) rfl rfl ?_
                        refine J_goto (q := 114) X dX9_read_148 (by decide) ?_
                        refine ih114 _ _ _ _ (by omega) (fun t => ?_) hFk hRd hK hT hY hBl hDr hDC hMk hB hR hC hP hA hH hD hS hV hZ hHs hSt hHR hHC hIm hIR hIC hKp hSh hSR hSC hPz hPc hF (by omega)
                        simp only [iu, icp, hg, rdF]
                        repeat' split
                        all_goals first | rfl | (exfalso; omega) | (congr 1; omega)
                  exact lp114 100 _ _ _ _ (by omega) (fun t => by simp only [rdF]; rw [if_neg (by omega)]) hFk hRd hK hT hY hBl hDr hDC hMk hB hR hC hP hA hH hD hS hV hZ hHs hSt hHR hHC hIm hIR hIC hKp hSh hSR hSC hPz hPc hF (by omega)
                · refine J_aload (q := 56) X dX9_read_54 rfl rfl ?_
                  refine J_iload_n (q := 57) X dX9_read_56 rfl rfl ?_
                  refine J_iload_n (q := 58) X dX9_read_57 rfl rfl ?_
                  refine J_iload (q := 60) X dX9_read_58 rfl rfl ?_
                  refine J_iadd (q := 61) X dX9_read_60 rfl ?_
                  refine J_callP (q := 64) (jrV X mX9_247 dX9_read_61 (c_X4_faultAt hPz hPc (by omega) (hk0.hs k.toNat (by omega)).1 (hk0.hs k.toNat (by omega)).2.1 (hk0.hs k.toNat (by omega)).2.2.1 (by omega) (by omega)) hPz (by omega) rfl rfl rfl rfl (Nat.le_of_ble_eq_true rfl) (by decide)) rfl ?_
                  have hfab : 0 ≤ faN s k w (st + c) ∧ faN s k w (st + c) ≤ 3 := by
                    simp only [faN]
                    repeat' split
                    all_goals omega
                  refine J_istore (q := 66) X dX9_read_64 (by decide) rfl rfl ?_
                  refine J_iload (q := 68) X dX9_read_66 rfl rfl ?_
                  refine J_if_ne (q := 71) (tgt := 42) X dX9_read_68 (by decide) rfl (by omega) (fun cq68 => ?_) (fun cq68 => ?_)
                  · first
                      | exact ih42 _ _ (by omega) hsc (Or.inr ⟨cq68, by omega, rfl⟩) hfab (by omega) (by rw [if_neg cq68]; rw [if_pos (by omega)] at hm; omega)
                      | exact ih42 _ _ (by omega) (by rw [sc_go (P := (fun c => rdP s k w st c)) (by omega) ⟨by omega, cq84, by omega⟩]; exact hsc) (by omega) hfab (by omega) (by rw [if_pos (by omega)] at hm ⊢; omega)
                  · have hfx : 0 ≤ st + c ∧ st + c < 40 := by
                      have := hss.2.2.1
                      repeat' split at cq68
                      all_goals omega
                    have hcel := hss.2.2.2 (st + c) (by omega) (by omega)
                    refine J_aload (q := 73) X dX9_read_71 rfl rfl ?_
                    refine J_get (q := 76) X dX9_read_73 fX9_253 hPz (by omega) rfl rfl ?_
                    refine J_iload_n (q := 77) X dX9_read_76 rfl rfl ?_
                    refine J_iload (q := 79) X dX9_read_77 rfl rfl ?_
                    refine J_iadd (q := 80) X dX9_read_79 rfl ?_
                    refine J_iald (q := 81) X dX9_read_80 hPc (by omega) (by omega) (by decide) rfl ?_
                    refine J_callP (q := 84) (jrS X mX9_178 dX9_read_81 (c_X5_isSign (by omega)) rfl rfl (Nat.le_of_ble_eq_true rfl) (by decide)) rfl ?_
                    refine J_if_eqB (q := 87) (tgt := 99) X dX9_read_84 (by decide) rfl (fun cq84 => ?_) (fun cq84 => ?_)
                    · refine J_bipush (q := 101) X dX9_read_99 rfl (by decide) ?_
                      refine J_iload (q := 103) X dX9_read_101 rfl rfl ?_
                      refine J_isub (q := 104) X dX9_read_103 rfl ?_
                      refine J_iret X R dX9_read_104 ?_
                      rw [hE0] at hF
                      rw [sc_stop (P := (fun c => rdP s k w st c)) (fun y => by first | exact cq84 y.2.2.1 | (have y1 := y.2.2.2; omega))] at hsc
                      have hlt : c < m := by omega
                      have hf0 : faN s k w (st + c) = 0 := by omega
                      rw [show qRead s k w st m = (-20 - c, s) by unfold qRead; rw [if_neg (fun z => z ⟨cq4, cq11, by omega, by omega⟩), ← hsc, if_pos ⟨hlt, hf0⟩]]
                      exact ⟨_, rfl, rfl, hc, hF⟩
                    · refine J_aload_n (q := 88) X dX9_read_87 rfl rfl ?_
                      refine J_get (q := 91) X dX9_read_88 fX9_32 hFk (by omega) rfl rfl ?_
                      refine J_callP (q := 94) (jrV X mX9_190 dX9_read_91 (c_X3_room hR hC (by omega) (by omega)) hR (by omega) rfl rfl rfl rfl (Nat.le_of_ble_eq_true rfl) (by decide)) rfl ?_
                      refine J_iload (q := 96) X dX9_read_94 rfl rfl ?_
                      refine J_icmp_gt (q := 99) (tgt := 105) X dX9_read_96 (by decide) rfl (by omega) (by omega) (fun cq96 => ?_) (fun cq96 => ?_)
                      · refine J_iinc (q := 108) X dX9_read_105 rfl (by decide) rfl rfl ?_
                        refine J_goto (q := 42) X dX9_read_108 (by decide) ?_
                        first
                          | exact ih42 _ _ (by omega) hsc (Or.inr ⟨cq68, by omega, rfl⟩) hfab (by omega) (by rw [if_neg cq68]; rw [if_pos (by omega)] at hm; omega)
                          | exact ih42 _ _ (by omega) (by rw [sc_go (P := (fun c => rdP s k w st c)) (by omega) ⟨by omega, cq84, by omega⟩]; exact hsc) (by omega) hfab (by omega) (by rw [if_pos (by omega)] at hm ⊢; omega)
                      · refine J_bipush (q := 101) X dX9_read_99 rfl (by decide) ?_
                        refine J_iload (q := 103) X dX9_read_101 rfl rfl ?_
                        refine J_isub (q := 104) X dX9_read_103 rfl ?_
                        refine J_iret X R dX9_read_104 ?_
                        rw [hE0] at hF
                        rw [sc_stop (P := (fun c => rdP s k w st c)) (fun y => by first | exact cq84 y.2.2.1 | (have y1 := y.2.2.2; omega))] at hsc
                        have hlt : c < m := by omega
                        have hf0 : faN s k w (st + c) = 0 := by omega
                        rw [show qRead s k w st m = (-20 - c, s) by unfold qRead; rw [if_neg (fun z => z ⟨cq4, cq11, by omega, by omega⟩), ← hsc, if_pos ⟨hlt, hf0⟩]]
                        exact ⟨_, rfl, rfl, hc, hF⟩
          exact lp42 200 _ _ (by omega) rfl (by omega) (by omega) (by omega) (by rw [if_pos rfl]; omega)
        · refine J_iconst (q := 27) X dX9_read_26 rfl ?_
          refine J_iret X R dX9_read_27 ?_
          rw [hE0] at hF
          rw [show qRead s k w st m = (-1, s) by unfold qRead; rw [if_pos (fun z => by obtain ⟨z1, z2, z3⟩ := z; omega)]]
          exact ⟨_, rfl, rfl, hc, hF⟩
