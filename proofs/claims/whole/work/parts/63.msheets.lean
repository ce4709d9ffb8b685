set_option maxRecDepth 100000 in
set_option maxHeartbeats 4000000 in
theorem c_X10_sheet {l : Launch} {Γ : JG} {ad : Nat → Nat} {E : Nat → va_E} {s : KS} {k w m : Int} (hc : MI Γ ad E s) (hk : KV s) (hbk : -2147483648 ≤ k ∧ k < 2147483648) (hbw : -2147483648 ≤ w ∧ w < 2147483648) (hbm : -2147483648 ≤ m ∧ m < 2147483648) : JM l Γ yX10_sheet cX10_sheet 5 (some .int) 1 25 0 0 ad 95 E [.ref (ad 78), .int (jI k), .int (jI w), .int (jI m)] (pI (fun z E' => z = (qSheet s k w m).1 ∧ MI Γ ad E' (qSheet s k w m).2 ∧ ∀ j : Nat, j < 78 → E' j = E j)) := by
  refine JM_intro (own := RX10) [some (.ref (ad 78)), some (.int (jI k)), some (.int (jI w)), some (.int (jI m)), none] rfl rfl rfl (Nat.le_of_ble_eq_true rfl) ?_
  intro Ω X R hin
  obtain ⟨E0, hE0⟩ : ∃ E0 : Nat → va_E, E0 = E := ⟨_, rfl⟩
  have hF : ∀ j : Nat, j < 78 → E j = E0 j := fun _ _ => by rw [hE0]
  obtain ⟨m2, m3, m4, m5, m6, m7, m8, m9, m10, m11, g, rs, ma, pa, al, he, un, re, ot, ln, lg, ce, hM, hS, hTp, hRs, hEn, hLe, hMa, hPa, hAl, hHe, hUn, hRe, hOt, hIk, hLa, hLn, hCe, hMR⟩ := id hc
  obtain ⟨hg, him, hrs, hun, hre, hsh⟩ := id hMR
  obtain ⟨hk0, hnow⟩ := id hk
  have hv := hk0.hv
  obtain ⟨hn, hvr⟩ := id hv
  obtain ⟨hgn, hgf⟩ := id hg
  have ho := hk0.ho
  have htb := hk0.htb
  obtain ⟨htl, -⟩ := id htb
  have hb := hk0.hb
  refine J_iload_n (q := 1) X dX10_sheet_0 rfl rfl ?_
  refine J_i2l (q := 2) X dX10_sheet_1 rfl (by omega) ?_
  refine J_lconst (q := 3) (v := 0) X dX10_sheet_2 (by decide) rfl ?_
  refine J_ldc2 (q := 6) X dX10_sheet_3 kX10_228 rfl ?_
  refine J_callP (q := 9) (jrS X mX10_61 dX10_sheet_6 (c_X10_in (by omega) (by omega) (by omega)) rfl rfl (Nat.le_of_ble_eq_true rfl) (by decide)) rfl ?_
  refine J_if_eqB (q := 12) (tgt := 30) X dX10_sheet_9 (by decide) rfl (fun cq9 => ?_) (fun cq9 => ?_)
  · refine J_iconst (q := 31) X dX10_sheet_30 rfl ?_
    refine J_iret X R dX10_sheet_31 ?_
    rw [hE0] at hF
    have hq : qSheet s k w m = (-1, s) := (by unfold qSheet; rw [if_pos (fun z => by obtain ⟨z1, z2, z3⟩ := z; omega)])
    rw [hq]
    exact ⟨_, rfl, rfl, ⟨_, _, _, _, _, _, _, _, _, _, _, _, _, _, _, _, _, _, _, _, _, _, hM, hS, hTp, hRs, hEn, hLe, hMa, hPa, hAl, hHe, hUn, hRe, hOt, hIk, hLa, hLn, hCe, hMR⟩, hF⟩
  · refine J_iload_n (q := 13) X dX10_sheet_12 rfl rfl ?_
    refine J_i2l (q := 14) X dX10_sheet_13 rfl (by omega) ?_
    refine J_lconst (q := 15) (v := 0) X dX10_sheet_14 (by decide) rfl ?_
    refine J_ldc2 (q := 18) X dX10_sheet_15 kX10_168 rfl ?_
    refine J_callP (q := 21) (jrS X mX10_61 dX10_sheet_18 (c_X10_in (by omega) (by omega) (by omega)) rfl rfl (Nat.le_of_ble_eq_true rfl) (by decide)) rfl ?_
    refine J_if_eqB (q := 24) (tgt := 30) X dX10_sheet_21 (by decide) rfl (fun cq21 => ?_) (fun cq21 => ?_)
    · refine J_iconst (q := 31) X dX10_sheet_30 rfl ?_
      refine J_iret X R dX10_sheet_31 ?_
      rw [hE0] at hF
      have hq : qSheet s k w m = (-1, s) := (by unfold qSheet; rw [if_pos (fun z => by obtain ⟨z1, z2, z3⟩ := z; omega)])
      rw [hq]
      exact ⟨_, rfl, rfl, ⟨_, _, _, _, _, _, _, _, _, _, _, _, _, _, _, _, _, _, _, _, _, _, hM, hS, hTp, hRs, hEn, hLe, hMa, hPa, hAl, hHe, hUn, hRe, hOt, hIk, hLa, hLn, hCe, hMR⟩, hF⟩
    · refine J_iload_n (q := 25) X dX10_sheet_24 rfl rfl ?_
      refine J_bipush (q := 27) X dX10_sheet_25 rfl (by decide) ?_
      refine J_icmp_le (q := 30) (tgt := 32) X dX10_sheet_27 (by decide) rfl (by omega) (by omega) (fun cq27 => ?_) (fun cq27 => ?_)
      · refine J_iload_n (q := 33) X dX10_sheet_32 rfl rfl ?_
        refine J_if_ge (q := 36) (tgt := 39) X dX10_sheet_33 (by decide) rfl (by omega) (fun cq33 => ?_) (fun cq33 => ?_)
        · refine J_aload_n (q := 40) X dX10_sheet_39 rfl rfl ?_
          refine J_get (q := 43) X dX10_sheet_40 fX10_50 hM (by omega) rfl rfl ?_
          refine J_iload_n (q := 44) X dX10_sheet_43 rfl rfl ?_
          refine J_iload_n (q := 45) X dX10_sheet_44 rfl rfl ?_
          refine J_iast (q := 46) X dX10_sheet_45 hLa (by omega) (by omega) (by decide) rfl (fun Ew45 hkq45 hsq45 => ?_)
          replace hLa := hkq45
          replace hM := (hsq45 78 (by omega)).trans hM
          replace hS := (hsq45 79 (by omega)).trans hS
          replace hTp := (hsq45 80 (by omega)).trans hTp
          replace hRs := (hsq45 81 (by omega)).trans hRs
          replace hEn := (hsq45 82 (by omega)).trans hEn
          replace hLe := (hsq45 83 (by omega)).trans hLe
          replace hMa := (hsq45 84 (by omega)).trans hMa
          replace hPa := (hsq45 85 (by omega)).trans hPa
          replace hAl := (hsq45 86 (by omega)).trans hAl
          replace hHe := (hsq45 87 (by omega)).trans hHe
          replace hUn := (hsq45 88 (by omega)).trans hUn
          replace hRe := (hsq45 89 (by omega)).trans hRe
          replace hOt := (hsq45 90 (by omega)).trans hOt
          replace hIk := (hsq45 91 (by omega)).trans hIk
          replace hLn := (hsq45 93 (by omega)).trans hLn
          replace hCe := (hsq45 94 (by omega)).trans hCe
          replace hF : ∀ j : Nat, j < 78 → Ew45 j = E0 j := fun j hj => (hsq45 j (by omega)).trans (hF j hj)
          refine J_aload_n (q := 47) X dX10_sheet_46 rfl rfl ?_
          refine J_get (q := 50) X dX10_sheet_47 fX10_53 hM (by omega) rfl rfl ?_
          refine J_iload_n (q := 51) X dX10_sheet_50 rfl rfl ?_
          refine J_iload_n (q := 52) X dX10_sheet_51 rfl rfl ?_
          refine J_iast (q := 53) X dX10_sheet_52 hLn (by omega) (by omega) (by decide) rfl (fun Ew52 hkq52 hsq52 => ?_)
          replace hLn := hkq52
          replace hM := (hsq52 78 (by omega)).trans hM
          replace hS := (hsq52 79 (by omega)).trans hS
          replace hTp := (hsq52 80 (by omega)).trans hTp
          replace hRs := (hsq52 81 (by omega)).trans hRs
          replace hEn := (hsq52 82 (by omega)).trans hEn
          replace hLe := (hsq52 83 (by omega)).trans hLe
          replace hMa := (hsq52 84 (by omega)).trans hMa
          replace hPa := (hsq52 85 (by omega)).trans hPa
          replace hAl := (hsq52 86 (by omega)).trans hAl
          replace hHe := (hsq52 87 (by omega)).trans hHe
          replace hUn := (hsq52 88 (by omega)).trans hUn
          replace hRe := (hsq52 89 (by omega)).trans hRe
          replace hOt := (hsq52 90 (by omega)).trans hOt
          replace hIk := (hsq52 91 (by omega)).trans hIk
          replace hLa := (hsq52 92 (by omega)).trans hLa
          replace hCe := (hsq52 94 (by omega)).trans hCe
          replace hF : ∀ j : Nat, j < 78 → Ew52 j = E0 j := fun j hj => (hsq52 j (by omega)).trans (hF j hj)
          refine J_iconst (q := 54) X dX10_sheet_53 rfl ?_
          refine J_istore (q := 56) X dX10_sheet_54 (by decide) rfl rfl ?_
          have lp56 : ∀ (mm : Nat) (t : Int) (cc : Int → Int) (E : Nat → va_E) (ht : 0 ≤ t ∧ t ≤ 40) (hcc : ∀ j : Int, cc j = zeF ce k t j) (hM : E 78 = .inr (9, [.ref (ad 79), .ref (ad 80), .int (jI s.tl), .int (jI s.b0), .int (jI m2), .int (jI m3), .int (jI m4), .int (jI m5), .int (jI m6), .int (jI m7), .int (jI m8), .int (jI m9), .int (jI m10), .int (jI m11), .ref (ad 81), .ref (ad 82), .ref (ad 83), .ref (ad 84), .ref (ad 85), .ref (ad 86), .ref (ad 87), .ref (ad 88), .ref (ad 89), .int (jI s.p), .int (jI s.a), .ref (ad 90), .ref (ad 91), .ref (ad 92), .ref (ad 93), .ref (ad 94), .int (jI s.tor)])) (hS : E 79 = aI Γ 305 g) (hTp : E 80 = aI Γ 160 s.tb) (hRs : E 81 = aI Γ 3 rs) (hEn : E 82 = aI Γ 4 enF) (hLe : E 83 = aI Γ 10 leF) (hMa : E 84 = aI Γ 60 ma) (hPa : E 85 = aI Γ 60 pa) (hAl : E 86 = aI Γ 60 al) (hHe : E 87 = aI Γ 60 he) (hUn : E 88 = aI Γ 1220 un) (hRe : E 89 = aI Γ 1220 re) (hOt : E 90 = aI Γ 120 ot) (hIk : E 91 = aZ Γ 2 s.kp) (hLa : E 92 = aI Γ 4 (iu ln k w)) (hLn : E 93 = aI Γ 4 (iu lg k m)) (hCe : E 94 = aI Γ 160 cc) (hF : ∀ j : Nat, j < 78 → E j = E0 j) (hmm : 40 - t + 1 ≤ (mm : Int)), J l Γ Ω 5 ad 95 0 0 E 56 [some (.ref (ad 78)), some (.int (jI k)), some (.int (jI w)), some (.int (jI m)), some (.int (jI t))] [] := by
            intro mm
            induction mm with
            | zero => intro t cc E ht hcc hM hS hTp hRs hEn hLe hMa hPa hAl hHe hUn hRe hOt hIk hLa hLn hCe hF hmm; exfalso; omega
            | succ mm ih56 =>
              intro t cc E ht hcc hM hS hTp hRs hEn hLe hMa hPa hAl hHe hUn hRe hOt hIk hLa hLn hCe hF hmm
              refine J_iload (q := 58) X dX10_sheet_56 rfl rfl ?_
              refine J_bipush (q := 60) X dX10_sheet_58 rfl (by decide) ?_
              refine J_icmp_ge (q := 63) (tgt := 82) X dX10_sheet_60 (by decide) rfl (by omega) (by omega) (fun cq60 => ?_) (fun cq60 => ?_)
              · refine J_iconst (q := 83) X dX10_sheet_82 rfl ?_
                refine J_iret X R dX10_sheet_83 ?_
                rw [hE0] at hF
                have et : t = 40 := by omega
                subst et
                obtain rfl : cc = zeF ce k 40 := funext hcc
                have hq : qSheet s k w m = (1, s.made k w m) := (by unfold qSheet; rw [if_neg (fun z => z ⟨by omega, by omega, by omega⟩), if_neg (by omega)])
                rw [hq]
                exact ⟨_, rfl, rfl, ⟨_, _, _, _, _, _, _, _, _, _, _, _, _, _, _, _, _, _, _, _, _, _, hM, hS, hTp, hRs, hEn, hLe, hMa, hPa, hAl, hHe, hUn, hRe, hOt, hIk, hLa, hLn, hCe, (MR_made hk (by omega) (by omega) hMR)⟩, hF⟩
              · refine J_aload_n (q := 64) X dX10_sheet_63 rfl rfl ?_
                refine J_get (q := 67) X dX10_sheet_64 fX10_56 hM (by omega) rfl rfl ?_
                refine J_bipush (q := 69) X dX10_sheet_67 rfl (by decide) ?_
                refine J_iload_n (q := 70) X dX10_sheet_69 rfl rfl ?_
                refine J_imul (q := 71) X dX10_sheet_70 rfl ?_
                refine J_iload (q := 73) X dX10_sheet_71 rfl rfl ?_
                refine J_iadd (q := 74) X dX10_sheet_73 rfl ?_
                refine J_iconst (q := 75) X dX10_sheet_74 rfl ?_
                refine J_iast (q := 76) X dX10_sheet_75 hCe (by omega) (by omega) (by decide) rfl (fun Ew75 hkq75 hsq75 => ?_)
                replace hCe := hkq75
                replace hM := (hsq75 78 (by omega)).trans hM
                replace hS := (hsq75 79 (by omega)).trans hS
                replace hTp := (hsq75 80 (by omega)).trans hTp
                replace hRs := (hsq75 81 (by omega)).trans hRs
                replace hEn := (hsq75 82 (by omega)).trans hEn
                replace hLe := (hsq75 83 (by omega)).trans hLe
                replace hMa := (hsq75 84 (by omega)).trans hMa
                replace hPa := (hsq75 85 (by omega)).trans hPa
                replace hAl := (hsq75 86 (by omega)).trans hAl
                replace hHe := (hsq75 87 (by omega)).trans hHe
                replace hUn := (hsq75 88 (by omega)).trans hUn
                replace hRe := (hsq75 89 (by omega)).trans hRe
                replace hOt := (hsq75 90 (by omega)).trans hOt
                replace hIk := (hsq75 91 (by omega)).trans hIk
                replace hLa := (hsq75 92 (by omega)).trans hLa
                replace hLn := (hsq75 93 (by omega)).trans hLn
                replace hF : ∀ j : Nat, j < 78 → Ew75 j = E0 j := fun j hj => (hsq75 j (by omega)).trans (hF j hj)
                refine J_iinc (q := 79) X dX10_sheet_76 rfl (by decide) rfl rfl ?_
                refine J_goto (q := 56) X dX10_sheet_79 (by decide) ?_
                refine ih56 _ _ _ (by omega) (fun j => ?_) hM hS hTp hRs hEn hLe hMa hPa hAl hHe hUn hRe hOt hIk hLa hLn hCe hF (by omega)
                simp only [iu, hcc, zeF]
                repeat' split
                all_goals first | rfl | (exfalso; omega) | (congr 1; omega)
          refine lp56 100 _ _ _ (by omega) (fun j => ?_) hM hS hTp hRs hEn hLe hMa hPa hAl hHe hUn hRe hOt hIk hLa hLn hCe hF (by omega)
          simp only [zeF]
          repeat' split
          all_goals first | rfl | (exfalso; omega) | (congr 1; omega)
        · refine J_bipush (q := 38) X dX10_sheet_36 rfl (by decide) ?_
          refine J_iret X R dX10_sheet_38 ?_
          rw [hE0] at hF
          have hq : qSheet s k w m = (-14, s) := (by unfold qSheet; rw [if_neg (fun z => z ⟨by omega, by omega, by omega⟩), if_pos (by omega)])
          rw [hq]
          exact ⟨_, rfl, rfl, ⟨_, _, _, _, _, _, _, _, _, _, _, _, _, _, _, _, _, _, _, _, _, _, hM, hS, hTp, hRs, hEn, hLe, hMa, hPa, hAl, hHe, hUn, hRe, hOt, hIk, hLa, hLn, hCe, hMR⟩, hF⟩
      · refine J_iconst (q := 31) X dX10_sheet_30 rfl ?_
        refine J_iret X R dX10_sheet_31 ?_
        rw [hE0] at hF
        have hq : qSheet s k w m = (-1, s) := (by unfold qSheet; rw [if_pos (fun z => by obtain ⟨z1, z2, z3⟩ := z; omega)])
        rw [hq]
        exact ⟨_, rfl, rfl, ⟨_, _, _, _, _, _, _, _, _, _, _, _, _, _, _, _, _, _, _, _, _, _, hM, hS, hTp, hRs, hEn, hLe, hMa, hPa, hAl, hHe, hUn, hRe, hOt, hIk, hLa, hLn, hCe, hMR⟩, hF⟩

set_option maxRecDepth 100000 in
set_option maxHeartbeats 4000000 in
theorem c_X10_lay {l : Launch} {Γ : JG} {ad : Nat → Nat} {E : Nat → va_E} {s : KS} {k ic v : Int} (hc : MI Γ ad E s) (hk : KV s) (hbk : -2147483648 ≤ k ∧ k < 2147483648) (hbic : -2147483648 ≤ ic ∧ ic < 2147483648) (hbv : -2147483648 ≤ v ∧ v < 2147483648) : JM l Γ yX10_lay cX10_lay 4 (some .int) 1 25 0 0 ad 95 E [.ref (ad 78), .int (jI k), .int (jI ic), .int (jI v)] (pI (fun z E' => z = (qLay s k ic v).1 ∧ MI Γ ad E' (qLay s k ic v).2 ∧ ∀ j : Nat, j < 78 → E' j = E j)) := by
  refine JM_intro (own := RX10) [some (.ref (ad 78)), some (.int (jI k)), some (.int (jI ic)), some (.int (jI v))] rfl rfl rfl (Nat.le_of_ble_eq_true rfl) ?_
  intro Ω X R hin
  obtain ⟨E0, hE0⟩ : ∃ E0 : Nat → va_E, E0 = E := ⟨_, rfl⟩
  have hF : ∀ j : Nat, j < 78 → E j = E0 j := fun _ _ => by rw [hE0]
  obtain ⟨m2, m3, m4, m5, m6, m7, m8, m9, m10, m11, g, rs, ma, pa, al, he, un, re, ot, ln, lg, ce, hM, hS, hTp, hRs, hEn, hLe, hMa, hPa, hAl, hHe, hUn, hRe, hOt, hIk, hLa, hLn, hCe, hMR⟩ := id hc
  obtain ⟨hg, him, hrs, hun, hre, hsh⟩ := id hMR
  obtain ⟨hk0, hnow⟩ := id hk
  have hv := hk0.hv
  obtain ⟨hn, hvr⟩ := id hv
  obtain ⟨hgn, hgf⟩ := id hg
  have ho := hk0.ho
  have htb := hk0.htb
  obtain ⟨htl, -⟩ := id htb
  have hb := hk0.hb
  refine J_iload_n (q := 1) X dX10_lay_0 rfl rfl ?_
  refine J_i2l (q := 2) X dX10_lay_1 rfl (by omega) ?_
  refine J_lconst (q := 3) (v := 0) X dX10_lay_2 (by decide) rfl ?_
  refine J_ldc2 (q := 6) X dX10_lay_3 kX10_228 rfl ?_
  refine J_callP (q := 9) (jrS X mX10_61 dX10_lay_6 (c_X10_in (by omega) (by omega) (by omega)) rfl rfl (Nat.le_of_ble_eq_true rfl) (by decide)) rfl ?_
  refine J_if_neB (q := 12) (tgt := 14) X dX10_lay_9 (by decide) rfl (fun cq9 => ?_) (fun cq9 => ?_)
  · have hsk := hsh k (by omega) (by omega)
    have hss := hk0.hs k.toNat (by omega)
    have hlb : -4 ≤ ln k ∧ ln k ≤ 2 := by
      by_cases h0 : s.th k.toNat = 0
      · have := hsk.1 h0; omega
      · have := (hsk.2 h0).1; have := hss.2.1; omega
    refine J_aload_n (q := 15) X dX10_lay_14 rfl rfl ?_
    refine J_get (q := 18) X dX10_lay_15 fX10_50 hM (by omega) rfl rfl ?_
    refine J_iload_n (q := 19) X dX10_lay_18 rfl rfl ?_
    refine J_iald (q := 20) X dX10_lay_19 hLa (by omega) (by omega) (by decide) rfl ?_
    refine J_bipush (q := 22) X dX10_lay_20 rfl (by decide) ?_
    refine J_icmp_ne (q := 25) (tgt := 28) X dX10_lay_22 (by decide) rfl (by omega) (by omega) (fun cq22 => ?_) (fun cq22 => ?_)
    · have hth : s.th k.toNat ≠ 0 := fun z => cq22 (hsk.1 z)
      obtain ⟨hl1, hl2, hl3⟩ := hsk.2 hth
      have hs3 := hss.2.2.1
      refine J_iload_n (q := 29) X dX10_lay_28 rfl rfl ?_
      refine J_i2l (q := 30) X dX10_lay_29 rfl (by omega) ?_
      refine J_lconst (q := 31) (v := 0) X dX10_lay_30 (by decide) rfl ?_
      refine J_aload_n (q := 32) X dX10_lay_31 rfl rfl ?_
      refine J_get (q := 35) X dX10_lay_32 fX10_53 hM (by omega) rfl rfl ?_
      refine J_iload_n (q := 36) X dX10_lay_35 rfl rfl ?_
      refine J_iald (q := 37) X dX10_lay_36 hLn (by omega) (by omega) (by decide) rfl ?_
      refine J_iconst (q := 38) X dX10_lay_37 rfl ?_
      refine J_isub (q := 39) X dX10_lay_38 rfl ?_
      refine J_i2l (q := 40) X dX10_lay_39 rfl (by omega) ?_
      refine J_callP (q := 43) (jrS X mX10_61 dX10_lay_40 (c_X10_in (by omega) (by omega) (by omega)) rfl rfl (Nat.le_of_ble_eq_true rfl) (by decide)) rfl ?_
      refine J_if_neB (q := 46) (tgt := 49) X dX10_lay_43 (by decide) rfl (fun cq43 => ?_) (fun cq43 => ?_)
      · refine J_aload_n (q := 50) X dX10_lay_49 rfl rfl ?_
        refine J_get (q := 53) X dX10_lay_50 fX10_56 hM (by omega) rfl rfl ?_
        refine J_bipush (q := 55) X dX10_lay_53 rfl (by decide) ?_
        refine J_iload_n (q := 56) X dX10_lay_55 rfl rfl ?_
        refine J_imul (q := 57) X dX10_lay_56 rfl ?_
        refine J_iload_n (q := 58) X dX10_lay_57 rfl rfl ?_
        refine J_iadd (q := 59) X dX10_lay_58 rfl ?_
        refine J_aload_n (q := 60) X dX10_lay_59 rfl rfl ?_
        refine J_get (q := 63) X dX10_lay_60 fX10_50 hM (by omega) rfl rfl ?_
        refine J_iload_n (q := 64) X dX10_lay_63 rfl rfl ?_
        refine J_iald (q := 65) X dX10_lay_64 hLa (by omega) (by omega) (by decide) rfl ?_
        refine J_if_ne (q := 68) (tgt := 78) X dX10_lay_65 (by decide) rfl (by omega) (fun cq65 => ?_) (fun cq65 => ?_)
        · refine J_aload_n (q := 79) X dX10_lay_78 rfl rfl ?_
          refine J_get (q := 82) X dX10_lay_79 fX10_50 hM (by omega) rfl rfl ?_
          refine J_iload_n (q := 83) X dX10_lay_82 rfl rfl ?_
          refine J_iald (q := 84) X dX10_lay_83 hLa (by omega) (by omega) (by decide) rfl ?_
          refine J_iconst (q := 85) X dX10_lay_84 rfl ?_
          refine J_icmp_ne (q := 88) (tgt := 98) X dX10_lay_85 (by decide) rfl (by omega) (by omega) (fun cq85 => ?_) (fun cq85 => ?_)
          · refine J_iload_n (q := 99) X dX10_lay_98 rfl rfl ?_
            refine J_iast (q := 100) X dX10_lay_99 hCe (by omega) (by omega) (by decide) rfl (fun Ew99 hkq99 hsq99 => ?_)
            replace hCe := hkq99
            replace hM := (hsq99 78 (by omega)).trans hM
            replace hS := (hsq99 79 (by omega)).trans hS
            replace hTp := (hsq99 80 (by omega)).trans hTp
            replace hRs := (hsq99 81 (by omega)).trans hRs
            replace hEn := (hsq99 82 (by omega)).trans hEn
            replace hLe := (hsq99 83 (by omega)).trans hLe
            replace hMa := (hsq99 84 (by omega)).trans hMa
            replace hPa := (hsq99 85 (by omega)).trans hPa
            replace hAl := (hsq99 86 (by omega)).trans hAl
            replace hHe := (hsq99 87 (by omega)).trans hHe
            replace hUn := (hsq99 88 (by omega)).trans hUn
            replace hRe := (hsq99 89 (by omega)).trans hRe
            replace hOt := (hsq99 90 (by omega)).trans hOt
            replace hIk := (hsq99 91 (by omega)).trans hIk
            replace hLa := (hsq99 92 (by omega)).trans hLa
            replace hLn := (hsq99 93 (by omega)).trans hLn
            replace hF : ∀ j : Nat, j < 78 → Ew99 j = E0 j := fun j hj => (hsq99 j (by omega)).trans (hF j hj)
            refine J_iconst (q := 101) X dX10_lay_100 rfl ?_
            refine J_iret X R dX10_lay_101 ?_
            first
              | (rw [hE0] at hF
                 have hfa : faN s k (s.la k.toNat) ic = 0 := by
                   simp only [faN]
                   rw [if_neg hth, if_neg (fun z => z rfl), if_neg (by omega)]
                 have hce : iu ce (40 * k + ic) (v.bmod 256) = iu ce (40 * k + ic) (lanev (s.la k.toNat) v) := by
                   congr 1
                   unfold lanev
                   repeat' split
                   all_goals first | rfl | (exfalso; omega)
                 rw [hce] at hCe
                 have hq : qLay s k ic v = (1, s.laid k ic v) := (by unfold qLay; rw [if_neg (by omega), if_neg (fun z => z hfa)])
                 rw [hq]
                 exact ⟨_, rfl, rfl, ⟨_, _, _, _, _, _, _, _, _, _, _, _, _, _, _, _, _, _, _, _, _, _, hM, hS, hTp, hRs, hEn, hLe, hMa, hPa, hAl, hHe, hUn, hRe, hOt, hIk, hLa, hLn, hCe, (MR_laid hk (by omega) (by omega) hMR)⟩, hF⟩)
              | (rw [hE0] at hF
                 have hfa : faN s k (s.la k.toNat) ic = 0 := by
                   simp only [faN]
                   rw [if_neg hth, if_neg (fun z => z rfl), if_neg (by omega)]
                 have hce : iu ce (40 * k + ic) (v.bmod 65536) = iu ce (40 * k + ic) (lanev (s.la k.toNat) v) := by
                   congr 1
                   unfold lanev
                   repeat' split
                   all_goals first | rfl | (exfalso; omega)
                 rw [hce] at hCe
                 have hq : qLay s k ic v = (1, s.laid k ic v) := (by unfold qLay; rw [if_neg (by omega), if_neg (fun z => z hfa)])
                 rw [hq]
                 exact ⟨_, rfl, rfl, ⟨_, _, _, _, _, _, _, _, _, _, _, _, _, _, _, _, _, _, _, _, _, _, hM, hS, hTp, hRs, hEn, hLe, hMa, hPa, hAl, hHe, hUn, hRe, hOt, hIk, hLa, hLn, hCe, (MR_laid hk (by omega) (by omega) hMR)⟩, hF⟩)
              | (rw [hE0] at hF
                 have hfa : faN s k (s.la k.toNat) ic = 0 := by
                   simp only [faN]
                   rw [if_neg hth, if_neg (fun z => z rfl), if_neg (by omega)]
                 have hce : iu ce (40 * k + ic) (v) = iu ce (40 * k + ic) (lanev (s.la k.toNat) v) := by
                   congr 1
                   unfold lanev
                   repeat' split
                   all_goals first | rfl | (exfalso; omega)
                 rw [hce] at hCe
                 have hq : qLay s k ic v = (1, s.laid k ic v) := (by unfold qLay; rw [if_neg (by omega), if_neg (fun z => z hfa)])
                 rw [hq]
                 exact ⟨_, rfl, rfl, ⟨_, _, _, _, _, _, _, _, _, _, _, _, _, _, _, _, _, _, _, _, _, _, hM, hS, hTp, hRs, hEn, hLe, hMa, hPa, hAl, hHe, hUn, hRe, hOt, hIk, hLa, hLn, hCe, (MR_laid hk (by omega) (by omega) hMR)⟩, hF⟩)
          · refine J_iload_n (q := 89) X dX10_lay_88 rfl rfl ?_
            refine J_bipush (q := 91) X dX10_lay_89 rfl (by decide) ?_
            refine J_ishl (q := 92) X dX10_lay_91 rfl (shl16 v) ?_
            refine J_bipush (q := 94) X dX10_lay_92 rfl (by decide) ?_
            refine J_ishr (q := 95) X dX10_lay_94 rfl (lay16 v) ?_
            refine J_goto (q := 99) X dX10_lay_95 (by decide) ?_
            refine J_iast (q := 100) X dX10_lay_99 hCe (by omega) (by omega) (by decide) rfl (fun Ew99 hkq99 hsq99 => ?_)
            replace hCe := hkq99
            replace hM := (hsq99 78 (by omega)).trans hM
            replace hS := (hsq99 79 (by omega)).trans hS
            replace hTp := (hsq99 80 (by omega)).trans hTp
            replace hRs := (hsq99 81 (by omega)).trans hRs
            replace hEn := (hsq99 82 (by omega)).trans hEn
            replace hLe := (hsq99 83 (by omega)).trans hLe
            replace hMa := (hsq99 84 (by omega)).trans hMa
            replace hPa := (hsq99 85 (by omega)).trans hPa
            replace hAl := (hsq99 86 (by omega)).trans hAl
            replace hHe := (hsq99 87 (by omega)).trans hHe
            replace hUn := (hsq99 88 (by omega)).trans hUn
            replace hRe := (hsq99 89 (by omega)).trans hRe
            replace hOt := (hsq99 90 (by omega)).trans hOt
            replace hIk := (hsq99 91 (by omega)).trans hIk
            replace hLa := (hsq99 92 (by omega)).trans hLa
            replace hLn := (hsq99 93 (by omega)).trans hLn
            replace hF : ∀ j : Nat, j < 78 → Ew99 j = E0 j := fun j hj => (hsq99 j (by omega)).trans (hF j hj)
            refine J_iconst (q := 101) X dX10_lay_100 rfl ?_
            refine J_iret X R dX10_lay_101 ?_
            first
              | (rw [hE0] at hF
                 have hfa : faN s k (s.la k.toNat) ic = 0 := by
                   simp only [faN]
                   rw [if_neg hth, if_neg (fun z => z rfl), if_neg (by omega)]
                 have hce : iu ce (40 * k + ic) (v.bmod 256) = iu ce (40 * k + ic) (lanev (s.la k.toNat) v) := by
                   congr 1
                   unfold lanev
                   repeat' split
                   all_goals first | rfl | (exfalso; omega)
                 rw [hce] at hCe
                 have hq : qLay s k ic v = (1, s.laid k ic v) := (by unfold qLay; rw [if_neg (by omega), if_neg (fun z => z hfa)])
                 rw [hq]
                 exact ⟨_, rfl, rfl, ⟨_, _, _, _, _, _, _, _, _, _, _, _, _, _, _, _, _, _, _, _, _, _, hM, hS, hTp, hRs, hEn, hLe, hMa, hPa, hAl, hHe, hUn, hRe, hOt, hIk, hLa, hLn, hCe, (MR_laid hk (by omega) (by omega) hMR)⟩, hF⟩)
              | (rw [hE0] at hF
                 have hfa : faN s k (s.la k.toNat) ic = 0 := by
                   simp only [faN]
                   rw [if_neg hth, if_neg (fun z => z rfl), if_neg (by omega)]
                 have hce : iu ce (40 * k + ic) (v.bmod 65536) = iu ce (40 * k + ic) (lanev (s.la k.toNat) v) := by
                   congr 1
                   unfold lanev
                   repeat' split
                   all_goals first | rfl | (exfalso; omega)
                 rw [hce] at hCe
                 have hq : qLay s k ic v = (1, s.laid k ic v) := (by unfold qLay; rw [if_neg (by omega), if_neg (fun z => z hfa)])
                 rw [hq]
                 exact ⟨_, rfl, rfl, ⟨_, _, _, _, _, _, _, _, _, _, _, _, _, _, _, _, _, _, _, _, _, _, hM, hS, hTp, hRs, hEn, hLe, hMa, hPa, hAl, hHe, hUn, hRe, hOt, hIk, hLa, hLn, hCe, (MR_laid hk (by omega) (by omega) hMR)⟩, hF⟩)
              | (rw [hE0] at hF
                 have hfa : faN s k (s.la k.toNat) ic = 0 := by
                   simp only [faN]
                   rw [if_neg hth, if_neg (fun z => z rfl), if_neg (by omega)]
                 have hce : iu ce (40 * k + ic) (v) = iu ce (40 * k + ic) (lanev (s.la k.toNat) v) := by
                   congr 1
                   unfold lanev
                   repeat' split
                   all_goals first | rfl | (exfalso; omega)
                 rw [hce] at hCe
                 have hq : qLay s k ic v = (1, s.laid k ic v) := (by unfold qLay; rw [if_neg (by omega), if_neg (fun z => z hfa)])
                 rw [hq]
                 exact ⟨_, rfl, rfl, ⟨_, _, _, _, _, _, _, _, _, _, _, _, _, _, _, _, _, _, _, _, _, _, hM, hS, hTp, hRs, hEn, hLe, hMa, hPa, hAl, hHe, hUn, hRe, hOt, hIk, hLa, hLn, hCe, (MR_laid hk (by omega) (by omega) hMR)⟩, hF⟩)
        · refine J_iload_n (q := 69) X dX10_lay_68 rfl rfl ?_
          refine J_bipush (q := 71) X dX10_lay_69 rfl (by decide) ?_
          refine J_ishl (q := 72) X dX10_lay_71 rfl (shl24 v) ?_
          refine J_bipush (q := 74) X dX10_lay_72 rfl (by decide) ?_
          refine J_ishr (q := 75) X dX10_lay_74 rfl (lay8 v) ?_
          refine J_goto (q := 99) X dX10_lay_75 (by decide) ?_
          refine J_iast (q := 100) X dX10_lay_99 hCe (by omega) (by omega) (by decide) rfl (fun Ew99 hkq99 hsq99 => ?_)
          replace hCe := hkq99
          replace hM := (hsq99 78 (by omega)).trans hM
          replace hS := (hsq99 79 (by omega)).trans hS
          replace hTp := (hsq99 80 (by omega)).trans hTp
          replace hRs := (hsq99 81 (by omega)).trans hRs
          replace hEn := (hsq99 82 (by omega)).trans hEn
          replace hLe := (hsq99 83 (by omega)).trans hLe
          replace hMa := (hsq99 84 (by omega)).trans hMa
          replace hPa := (hsq99 85 (by omega)).trans hPa
          replace hAl := (hsq99 86 (by omega)).trans hAl
          replace hHe := (hsq99 87 (by omega)).trans hHe
          replace hUn := (hsq99 88 (by omega)).trans hUn
          replace hRe := (hsq99 89 (by omega)).trans hRe
          replace hOt := (hsq99 90 (by omega)).trans hOt
          replace hIk := (hsq99 91 (by omega)).trans hIk
          replace hLa := (hsq99 92 (by omega)).trans hLa
          replace hLn := (hsq99 93 (by omega)).trans hLn
          replace hF : ∀ j : Nat, j < 78 → Ew99 j = E0 j := fun j hj => (hsq99 j (by omega)).trans (hF j hj)
          refine J_iconst (q := 101) X dX10_lay_100 rfl ?_
          refine J_iret X R dX10_lay_101 ?_
          first
            | (rw [hE0] at hF
               have hfa : faN s k (s.la k.toNat) ic = 0 := by
                 simp only [faN]
                 rw [if_neg hth, if_neg (fun z => z rfl), if_neg (by omega)]
               have hce : iu ce (40 * k + ic) (v.bmod 256) = iu ce (40 * k + ic) (lanev (s.la k.toNat) v) := by
                 congr 1
                 unfold lanev
                 repeat' split
                 all_goals first | rfl | (exfalso; omega)
               rw [hce] at hCe
               have hq : qLay s k ic v = (1, s.laid k ic v) := (by unfold qLay; rw [if_neg (by omega), if_neg (fun z => z hfa)])
               rw [hq]
               exact ⟨_, rfl, rfl, ⟨_, _, _, _, _, _, _, _, _, _, _, _, _, _, _, _, _, _, _, _, _, _, hM, hS, hTp, hRs, hEn, hLe, hMa, hPa, hAl, hHe, hUn, hRe, hOt, hIk, hLa, hLn, hCe, (MR_laid hk (by omega) (by omega) hMR)⟩, hF⟩)
            | (rw [hE0] at hF
               have hfa : faN s k (s.la k.toNat) ic = 0 := by
                 simp only [faN]
                 rw [if_neg hth, if_neg (fun z => z rfl), if_neg (by omega)]
               have hce : iu ce (40 * k + ic) (v.bmod 65536) = iu ce (40 * k + ic) (lanev (s.la k.toNat) v) := by
                 congr 1
                 unfold lanev
                 repeat' split
                 all_goals first | rfl | (exfalso; omega)
               rw [hce] at hCe
               have hq : qLay s k ic v = (1, s.laid k ic v) := (by unfold qLay; rw [if_neg (by omega), if_neg (fun z => z hfa)])
               rw [hq]
               exact ⟨_, rfl, rfl, ⟨_, _, _, _, _, _, _, _, _, _, _, _, _, _, _, _, _, _, _, _, _, _, hM, hS, hTp, hRs, hEn, hLe, hMa, hPa, hAl, hHe, hUn, hRe, hOt, hIk, hLa, hLn, hCe, (MR_laid hk (by omega) (by omega) hMR)⟩, hF⟩)
            | (rw [hE0] at hF
               have hfa : faN s k (s.la k.toNat) ic = 0 := by
                 simp only [faN]
                 rw [if_neg hth, if_neg (fun z => z rfl), if_neg (by omega)]
               have hce : iu ce (40 * k + ic) (v) = iu ce (40 * k + ic) (lanev (s.la k.toNat) v) := by
                 congr 1
                 unfold lanev
                 repeat' split
                 all_goals first | rfl | (exfalso; omega)
               rw [hce] at hCe
               have hq : qLay s k ic v = (1, s.laid k ic v) := (by unfold qLay; rw [if_neg (by omega), if_neg (fun z => z hfa)])
               rw [hq]
               exact ⟨_, rfl, rfl, ⟨_, _, _, _, _, _, _, _, _, _, _, _, _, _, _, _, _, _, _, _, _, _, hM, hS, hTp, hRs, hEn, hLe, hMa, hPa, hAl, hHe, hUn, hRe, hOt, hIk, hLa, hLn, hCe, (MR_laid hk (by omega) (by omega) hMR)⟩, hF⟩)
      · refine J_bipush (q := 48) X dX10_lay_46 rfl (by decide) ?_
        refine J_iret X R dX10_lay_48 ?_
        rw [hE0] at hF
        have hfa : faN s k (s.la k.toNat) ic = 2 := by
          simp only [faN]
          rw [if_neg hth, if_neg (fun z => z rfl), if_pos (by omega)]
        have hq : qLay s k ic v = (-12, s) := (by unfold qLay; rw [if_neg (by omega), hfa]; rfl)
        rw [hq]
        exact ⟨_, rfl, rfl, ⟨_, _, _, _, _, _, _, _, _, _, _, _, _, _, _, _, _, _, _, _, _, _, hM, hS, hTp, hRs, hEn, hLe, hMa, hPa, hAl, hHe, hUn, hRe, hOt, hIk, hLa, hLn, hCe, hMR⟩, hF⟩
    · refine J_bipush (q := 27) X dX10_lay_25 rfl (by decide) ?_
      refine J_iret X R dX10_lay_27 ?_
      rw [hE0] at hF
      have hth : s.th k.toNat = 0 := by
        by_cases z : s.th k.toNat = 0
        · exact z
        · have := (hsk.2 z).1; have := hss.2.1; omega
      have hfa : faN s k (s.la k.toNat) ic = 1 := if_pos hth
      have hq : qLay s k ic v = (-11, s) := (by unfold qLay; rw [if_neg (by omega), hfa]; rfl)
      rw [hq]
      exact ⟨_, rfl, rfl, ⟨_, _, _, _, _, _, _, _, _, _, _, _, _, _, _, _, _, _, _, _, _, _, hM, hS, hTp, hRs, hEn, hLe, hMa, hPa, hAl, hHe, hUn, hRe, hOt, hIk, hLa, hLn, hCe, hMR⟩, hF⟩
  · refine J_iconst (q := 13) X dX10_lay_12 rfl ?_
    refine J_iret X R dX10_lay_13 ?_
    rw [hE0] at hF
    have hq : qLay s k ic v = (-1, s) := (by unfold qLay; rw [if_pos (by omega)])
    rw [hq]
    exact ⟨_, rfl, rfl, ⟨_, _, _, _, _, _, _, _, _, _, _, _, _, _, _, _, _, _, _, _, _, _, hM, hS, hTp, hRs, hEn, hLe, hMa, hPa, hAl, hHe, hUn, hRe, hOt, hIk, hLa, hLn, hCe, hMR⟩, hF⟩
