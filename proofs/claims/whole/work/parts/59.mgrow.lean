set_option maxRecDepth 100000 in
set_option maxHeartbeats 4000000 in
theorem c_X10_turn {l : Launch} {Γ : JG} {ad : Nat → Nat} {E : Nat → va_E} {s : KS} {i w : Int} (hc : MI Γ ad E s) (hk : KV s) (hbi : -2147483648 ≤ i ∧ i < 2147483648) (hbw : -2147483648 ≤ w ∧ w < 2147483648) : JM l Γ yX10_turn cX10_turn 6 (some .int) 3 64 0 0 ad 95 E [.ref (ad 78), .int (jI i), .int (jI w)] (pI (fun z E' => z = (qTurn s i w).1 ∧ MI Γ ad E' (qTurn s i w).2 ∧ ∀ j : Nat, j < 78 → E' j = E j)) := by
  refine JM_intro (own := RX10) [some (.ref (ad 78)), some (.int (jI i)), some (.int (jI w)), none, none, none] rfl rfl rfl (Nat.le_of_ble_eq_true rfl) ?_
  intro Ω X R hin
  obtain ⟨E0, hE0⟩ : ∃ E0 : Nat → va_E, E0 = E := ⟨_, rfl⟩
  have hF : ∀ j : Nat, j < 78 → E j = E0 j := fun _ _ => by rw [hE0]
  obtain ⟨m2, m3, m4, m5, m6, m7, m8, m9, m10, m11, g, rs, ma, pa, al, he, un, re, ot, ln, lg, ce, hM, hS, hTp, hRs, hEn, hLe, hMa, hPa, hAl, hHe, hUn, hRe, hOt, hIk, hLa, hLn, hCe, hMR⟩ := id hc
  obtain ⟨hg, him, hrs, hun, hre, hsh⟩ := id hMR
  obtain ⟨hk0, hnow⟩ := id hk
  have hv := hk0.hv
  obtain ⟨hn, hvr⟩ := id hv
  obtain ⟨hgn, hgf⟩ := id hg
  have ho := hk0.ho
  have htb := hk0.htb
  obtain ⟨htl, -⟩ := id htb
  have hb := hk0.hb
  refine J_aload_n (q := 1) X dX10_turn_0 rfl rfl ?_
  refine J_iload_n (q := 2) X dX10_turn_1 rfl rfl ?_
  refine J_iload_n (q := 3) X dX10_turn_2 rfl rfl ?_
  refine J_callP (q := 6) (jrV X mX10_246 dX10_turn_3 (c_X10_isPart hM hS hg hv (by omega) (by omega)) hM (by omega) rfl rfl rfl rfl (Nat.le_of_ble_eq_true rfl) (by decide)) rfl ?_
  refine J_if_neB (q := 9) (tgt := 11) X dX10_turn_6 (by decide) rfl (fun cq6 => ?_) (fun cq6 => ?_)
  · refine J_aload_n (q := 12) X dX10_turn_11 rfl rfl ?_
    refine J_callV (q := 15) (jrV X mX10_240 dX10_turn_12 (c_X10_edits hM hS hUn (by omega)) hM (by omega) rfl rfl rfl rfl (Nat.le_of_ble_eq_true rfl) (by decide)) rfl (fun Ew12 hpq12 => ?_)
    obtain ⟨unq12, kM, kUn, huaq12, hubq12, hsq12⟩ := hpq12
    replace hM := kM
    replace hUn := kUn
    have ep : (if s.p = 20 then (20 : Int) else s.p + 1) = (if s.p < 20 then s.p + 1 else s.p) := by split <;> split <;> omega
    rw [ep] at hM
    replace hS := (hsq12 79 (by omega)).trans hS
    replace hTp := (hsq12 80 (by omega)).trans hTp
    replace hRs := (hsq12 81 (by omega)).trans hRs
    replace hEn := (hsq12 82 (by omega)).trans hEn
    replace hLe := (hsq12 83 (by omega)).trans hLe
    replace hMa := (hsq12 84 (by omega)).trans hMa
    replace hPa := (hsq12 85 (by omega)).trans hPa
    replace hAl := (hsq12 86 (by omega)).trans hAl
    replace hHe := (hsq12 87 (by omega)).trans hHe
    replace hRe := (hsq12 89 (by omega)).trans hRe
    replace hOt := (hsq12 90 (by omega)).trans hOt
    replace hIk := (hsq12 91 (by omega)).trans hIk
    replace hLa := (hsq12 92 (by omega)).trans hLa
    replace hLn := (hsq12 93 (by omega)).trans hLn
    replace hCe := (hsq12 94 (by omega)).trans hCe
    replace hF : ∀ j : Nat, j < 78 → Ew12 j = E0 j := fun j hj => (hsq12 j (by omega)).trans (hF j hj)
    refine J_aload_n (q := 16) X dX10_turn_15 rfl rfl ?_
    refine J_iload_n (q := 17) X dX10_turn_16 rfl rfl ?_
    refine J_iload_n (q := 18) X dX10_turn_17 rfl rfl ?_
    refine J_callV (q := 21) (jrV X mX10_252 dX10_turn_18 (c_X10_lifts hM hS hOt (by omega)) hM (by omega) rfl rfl rfl rfl (Nat.le_of_ble_eq_true rfl) (by decide)) rfl (fun Ew18 hpq18 => ?_)
    obtain ⟨kOt, hsq18⟩ := hpq18
    replace hOt := kOt
    replace hM := (hsq18 78 (by omega)).trans hM
    replace hS := (hsq18 79 (by omega)).trans hS
    replace hTp := (hsq18 80 (by omega)).trans hTp
    replace hRs := (hsq18 81 (by omega)).trans hRs
    replace hEn := (hsq18 82 (by omega)).trans hEn
    replace hLe := (hsq18 83 (by omega)).trans hLe
    replace hMa := (hsq18 84 (by omega)).trans hMa
    replace hPa := (hsq18 85 (by omega)).trans hPa
    replace hAl := (hsq18 86 (by omega)).trans hAl
    replace hHe := (hsq18 87 (by omega)).trans hHe
    replace hUn := (hsq18 88 (by omega)).trans hUn
    replace hRe := (hsq18 89 (by omega)).trans hRe
    replace hIk := (hsq18 91 (by omega)).trans hIk
    replace hLa := (hsq18 92 (by omega)).trans hLa
    replace hLn := (hsq18 93 (by omega)).trans hLn
    replace hCe := (hsq18 94 (by omega)).trans hCe
    replace hF : ∀ j : Nat, j < 78 → Ew18 j = E0 j := fun j hj => (hsq18 j (by omega)).trans (hF j hj)
    refine J_iconst (q := 22) X dX10_turn_21 rfl ?_
    refine J_istore_n (q := 23) X dX10_turn_22 (by decide) rfl rfl ?_
    refine J_iconst (q := 24) X dX10_turn_23 rfl ?_
    refine J_istore (q := 26) X dX10_turn_24 (by decide) rfl rfl ?_
    have lp26 : ∀ (mm : Nat) (t : Int) (gg : Int → Int) (E : Nat → va_E) (ht : 0 ≤ t ∧ t ≤ w) (hgg : ∀ j : Int, gg j = if i ≤ j ∧ j < i + t then trn (s.f (i + (i + w) - 1 - j) % 128) else g j) (hM : E 78 = .inr (9, [.ref (ad 79), .ref (ad 80), .int (jI s.tl), .int (jI s.b0), .int (jI m2), .int (jI m3), .int (jI m4), .int (jI m5), .int (jI m6), .int (jI m7), .int (jI m8), .int (jI m9), .int (jI m10), .int (jI m11), .ref (ad 81), .ref (ad 82), .ref (ad 83), .ref (ad 84), .ref (ad 85), .ref (ad 86), .ref (ad 87), .ref (ad 88), .ref (ad 89), .int (jI (if s.p < 20 then s.p + 1 else s.p)), .int (jI 0), .ref (ad 90), .ref (ad 91), .ref (ad 92), .ref (ad 93), .ref (ad 94), .int (jI s.tor)])) (hS : E 79 = aI Γ 305 gg) (hTp : E 80 = aI Γ 160 s.tb) (hRs : E 81 = aI Γ 3 rs) (hEn : E 82 = aI Γ 4 enF) (hLe : E 83 = aI Γ 10 leF) (hMa : E 84 = aI Γ 60 ma) (hPa : E 85 = aI Γ 60 pa) (hAl : E 86 = aI Γ 60 al) (hHe : E 87 = aI Γ 60 he) (hUn : E 88 = aI Γ 1220 unq12) (hRe : E 89 = aI Γ 1220 re) (hOt : E 90 = aI Γ 120 (liF g ot i w)) (hIk : E 91 = aZ Γ 2 s.kp) (hLa : E 92 = aI Γ 4 ln) (hLn : E 93 = aI Γ 4 lg) (hCe : E 94 = aI Γ 160 ce) (hF : ∀ j : Nat, j < 78 → E j = E0 j) (hmm : w - t + 1 ≤ (mm : Int)), J l Γ Ω 6 ad 95 0 0 E 26 [some (.ref (ad 78)), some (.int (jI i)), some (.int (jI w)), some (.int (jI (smI (fun j => bI (brk (rv s.f i (i + w) (i + j) % 128))) t))), some (.int (jI t)), none] [] := by
      intro mm
      induction mm with
      | zero => intro t gg E ht hgg hM hS hTp hRs hEn hLe hMa hPa hAl hHe hUn hRe hOt hIk hLa hLn hCe hF hmm; exfalso; omega
      | succ mm ih26 =>
        intro t gg E ht hgg hM hS hTp hRs hEn hLe hMa hPa hAl hHe hUn hRe hOt hIk hLa hLn hCe hF hmm
        refine J_iload (q := 28) X dX10_turn_26 rfl rfl ?_
        refine J_iload_n (q := 29) X dX10_turn_28 rfl rfl ?_
        refine J_icmp_ge (q := 32) (tgt := 87) X dX10_turn_29 (by decide) rfl (by omega) (by omega) (fun cq29 => ?_) (fun cq29 => ?_)
        · refine J_iload_n (q := 88) X dX10_turn_87 rfl rfl ?_
          refine J_iret X R dX10_turn_88 ?_
          rw [hE0] at hF
          have et : t = w := by omega
          have hms : MS gg s.n (tnF s.f i w) := by
            refine ⟨by rw [hgg, if_neg (by omega)]; exact hgn, fun j a b => ?_⟩
            rw [hgg, et]
            simp only [tnF]
            split
            · rfl
            · exact hgf j a b
          have hgi : ∀ j, 61 ≤ j → j < 183 → gg j = g j := fun j a b => by rw [hgg, if_neg (by omega)]
          have hq : qTurn s i w = (smI (fun j => bI (brk (rv s.f i (i + w) (i + j) % 128))) w, (s.row s.n (tnF s.f i w)).ed) := (by unfold qTurn; rw [if_neg (fun z => z cq6)])
          rw [hq]
          exact ⟨_, rfl, (by rw [show t = w by omega]), ⟨_, _, _, _, _, _, _, _, _, _, _, _, _, _, _, _, _, _, _, _, _, _, hM, hS, hTp, hRs, hEn, hLe, hMa, hPa, hAl, hHe, hUn, hRe, hOt, hIk, hLa, hLn, hCe, (MR_ed hk hMR huaq12 hubq12 hms hgi)⟩, hF⟩
        · have hot : liF g ot i w (w - 1 - t) = s.f (i + (w - 1 - t)) := (if_pos (by omega)).trans (hgf _ (by omega) (by omega))
          obtain ⟨hfb, -⟩ := hvr (i + (w - 1 - t)) (by omega) (by omega)
          refine J_aload_n (q := 33) X dX10_turn_32 rfl rfl ?_
          refine J_get (q := 36) X dX10_turn_33 fX10_43 hM (by omega) rfl rfl ?_
          refine J_iload_n (q := 37) X dX10_turn_36 rfl rfl ?_
          refine J_iconst (q := 38) X dX10_turn_37 rfl ?_
          refine J_isub (q := 39) X dX10_turn_38 rfl ?_
          refine J_iload (q := 41) X dX10_turn_39 rfl rfl ?_
          refine J_isub (q := 42) X dX10_turn_41 rfl ?_
          refine J_iald (q := 43) X dX10_turn_42 hOt (by omega) (by omega) (by decide) rfl ?_
          refine J_sipush (q := 46) X dX10_turn_43 rfl (by decide) ?_
          refine J_irem (q := 47) X dX10_turn_46 rfl (by rw [hot]; omega) (by omega) ?_
          rw [hot]
          refine J_istore (q := 49) X dX10_turn_47 (by decide) rfl rfl ?_
          refine J_iload_n (q := 50) X dX10_turn_49 rfl rfl ?_
          refine J_iload (q := 52) X dX10_turn_50 rfl rfl ?_
          refine J_callP (q := 55) (jrS X mX10_78 dX10_turn_52 (c_X10_kindOf (by omega)) rfl rfl (Nat.le_of_ble_eq_true rfl) (by decide)) rfl ?_
          refine J_bipush (q := 57) X dX10_turn_55 rfl (by decide) ?_
          refine J_icmp_ne (q := 60) (tgt := 64) X dX10_turn_57 (by decide) rfl (by have := knd_bd (s.f (i + (w - 1 - t)) % 128); omega) (by omega) (fun cq57 => ?_) (fun cq57 => ?_)
          · refine J_iconst (q := 65) X dX10_turn_64 rfl ?_
            refine J_iadd (q := 66) X dX10_turn_65 rfl ?_
            refine J_istore_n (q := 67) X dX10_turn_66 (by decide) rfl rfl ?_
            refine J_aload_n (q := 68) X dX10_turn_67 rfl rfl ?_
            refine J_get (q := 71) X dX10_turn_68 fX10_7 hM (by omega) rfl rfl ?_
            refine J_iload_n (q := 72) X dX10_turn_71 rfl rfl ?_
            refine J_iload (q := 74) X dX10_turn_72 rfl rfl ?_
            refine J_iadd (q := 75) X dX10_turn_74 rfl ?_
            refine J_iload (q := 77) X dX10_turn_75 rfl rfl ?_
            refine J_callP (q := 80) (jrS X mX10_258 dX10_turn_77 (c_X10_turned (by omega)) rfl rfl (Nat.le_of_ble_eq_true rfl) (by decide)) rfl ?_
            refine J_iast (q := 81) X dX10_turn_80 hS (by omega) (by omega) (by decide) rfl (fun Ew80 hkq80 hsq80 => ?_)
            replace hS := hkq80
            replace hM := (hsq80 78 (by omega)).trans hM
            replace hTp := (hsq80 80 (by omega)).trans hTp
            replace hRs := (hsq80 81 (by omega)).trans hRs
            replace hEn := (hsq80 82 (by omega)).trans hEn
            replace hLe := (hsq80 83 (by omega)).trans hLe
            replace hMa := (hsq80 84 (by omega)).trans hMa
            replace hPa := (hsq80 85 (by omega)).trans hPa
            replace hAl := (hsq80 86 (by omega)).trans hAl
            replace hHe := (hsq80 87 (by omega)).trans hHe
            replace hUn := (hsq80 88 (by omega)).trans hUn
            replace hRe := (hsq80 89 (by omega)).trans hRe
            replace hOt := (hsq80 90 (by omega)).trans hOt
            replace hIk := (hsq80 91 (by omega)).trans hIk
            replace hLa := (hsq80 92 (by omega)).trans hLa
            replace hLn := (hsq80 93 (by omega)).trans hLn
            replace hCe := (hsq80 94 (by omega)).trans hCe
            replace hF : ∀ j : Nat, j < 78 → Ew80 j = E0 j := fun j hj => (hsq80 j (by omega)).trans (hF j hj)
            refine J_iinc (q := 84) X dX10_turn_81 rfl (by decide) rfl rfl ?_
            refine J_goto (q := 26) X dX10_turn_84 (by decide) ?_
            refine J_kill 5 ?_
            have hrv : rv s.f i (i + w) (i + t) = s.f (i + (w - 1 - t)) := by simp only [rv]; rw [if_pos (by omega)]; congr 1; omega
            have hsu := smI_succ (fun j => bI (brk (rv s.f i (i + w) (i + j) % 128))) ht.1
            rw [hrv] at hsu
            have hkb := knd_brk (s.f (i + (w - 1 - t)) % 128)
            first
              | (rw [bI_t (show brk (s.f (i + (w - 1 - t)) % 128) from hkb.1 cq57)] at hsu; rw [← hsu])
              | (rw [bI_f (show ¬ brk (s.f (i + (w - 1 - t)) % 128) from fun z => hkb.2 z cq57)] at hsu; rw [← hsu])
            refine ih26 _ _ _ (by omega) (fun j => ?_) hM hS hTp hRs hEn hLe hMa hPa hAl hHe hUn hRe hOt hIk hLa hLn hCe hF (by omega)
            simp only [iu, hgg]
            repeat' split
            all_goals first | rfl | (exfalso; omega) | (congr 3; omega)
          · refine J_iconst (q := 61) X dX10_turn_60 rfl ?_
            refine J_goto (q := 65) X dX10_turn_61 (by decide) ?_
            refine J_iadd (q := 66) X dX10_turn_65 rfl ?_
            refine J_istore_n (q := 67) X dX10_turn_66 (by decide) rfl rfl ?_
            refine J_aload_n (q := 68) X dX10_turn_67 rfl rfl ?_
            refine J_get (q := 71) X dX10_turn_68 fX10_7 hM (by omega) rfl rfl ?_
            refine J_iload_n (q := 72) X dX10_turn_71 rfl rfl ?_
            refine J_iload (q := 74) X dX10_turn_72 rfl rfl ?_
            refine J_iadd (q := 75) X dX10_turn_74 rfl ?_
            refine J_iload (q := 77) X dX10_turn_75 rfl rfl ?_
            refine J_callP (q := 80) (jrS X mX10_258 dX10_turn_77 (c_X10_turned (by omega)) rfl rfl (Nat.le_of_ble_eq_true rfl) (by decide)) rfl ?_
            refine J_iast (q := 81) X dX10_turn_80 hS (by omega) (by omega) (by decide) rfl (fun Ew80 hkq80 hsq80 => ?_)
            replace hS := hkq80
            replace hM := (hsq80 78 (by omega)).trans hM
            replace hTp := (hsq80 80 (by omega)).trans hTp
            replace hRs := (hsq80 81 (by omega)).trans hRs
            replace hEn := (hsq80 82 (by omega)).trans hEn
            replace hLe := (hsq80 83 (by omega)).trans hLe
            replace hMa := (hsq80 84 (by omega)).trans hMa
            replace hPa := (hsq80 85 (by omega)).trans hPa
            replace hAl := (hsq80 86 (by omega)).trans hAl
            replace hHe := (hsq80 87 (by omega)).trans hHe
            replace hUn := (hsq80 88 (by omega)).trans hUn
            replace hRe := (hsq80 89 (by omega)).trans hRe
            replace hOt := (hsq80 90 (by omega)).trans hOt
            replace hIk := (hsq80 91 (by omega)).trans hIk
            replace hLa := (hsq80 92 (by omega)).trans hLa
            replace hLn := (hsq80 93 (by omega)).trans hLn
            replace hCe := (hsq80 94 (by omega)).trans hCe
            replace hF : ∀ j : Nat, j < 78 → Ew80 j = E0 j := fun j hj => (hsq80 j (by omega)).trans (hF j hj)
            refine J_iinc (q := 84) X dX10_turn_81 rfl (by decide) rfl rfl ?_
            refine J_goto (q := 26) X dX10_turn_84 (by decide) ?_
            refine J_kill 5 ?_
            have hrv : rv s.f i (i + w) (i + t) = s.f (i + (w - 1 - t)) := by simp only [rv]; rw [if_pos (by omega)]; congr 1; omega
            have hsu := smI_succ (fun j => bI (brk (rv s.f i (i + w) (i + j) % 128))) ht.1
            rw [hrv] at hsu
            have hkb := knd_brk (s.f (i + (w - 1 - t)) % 128)
            first
              | (rw [bI_t (show brk (s.f (i + (w - 1 - t)) % 128) from hkb.1 cq57)] at hsu; rw [← hsu])
              | (rw [bI_f (show ¬ brk (s.f (i + (w - 1 - t)) % 128) from fun z => hkb.2 z cq57)] at hsu; rw [← hsu])
            refine ih26 _ _ _ (by omega) (fun j => ?_) hM hS hTp hRs hEn hLe hMa hPa hAl hHe hUn hRe hOt hIk hLa hLn hCe hF (by omega)
            simp only [iu, hgg]
            repeat' split
            all_goals first | rfl | (exfalso; omega) | (congr 3; omega)
    refine lp26 100 0 _ _ (by omega) (fun j => by rw [if_neg (by omega)]) hM hS hTp hRs hEn hLe hMa hPa hAl hHe hUn hRe hOt hIk hLa hLn hCe hF (by omega)
  · refine J_iconst (q := 10) X dX10_turn_9 rfl ?_
    refine J_iret X R dX10_turn_10 ?_
    rw [hE0] at hF
    have hq : qTurn s i w = (-1, s) := (by unfold qTurn; rw [if_pos cq6])
    rw [hq]
    exact ⟨_, rfl, rfl, ⟨_, _, _, _, _, _, _, _, _, _, _, _, _, _, _, _, _, _, _, _, _, _, hM, hS, hTp, hRs, hEn, hLe, hMa, hPa, hAl, hHe, hUn, hRe, hOt, hIk, hLa, hLn, hCe, hMR⟩, hF⟩

set_option maxRecDepth 100000 in
set_option maxHeartbeats 4000000 in
theorem c_X10_grow {l : Launch} {Γ : JG} {ad : Nat → Nat} {E : Nat → va_E} {s : KS} {sd w : Int} (hc : MI Γ ad E s) (hk : KV s) (hbsd : -2147483648 ≤ sd ∧ sd < 2147483648) (hbw : -2147483648 ≤ w ∧ w < 2147483648) : JM l Γ yX10_grow cX10_grow 6 (some .int) 3 64 0 0 ad 95 E [.ref (ad 78), .int (jI sd), .int (jI w)] (pI (fun z E' => z = (qGrow s sd w).1 ∧ MI Γ ad E' (qGrow s sd w).2 ∧ ∀ j : Nat, j < 78 → E' j = E j)) := by
  refine JM_intro (own := RX10) [some (.ref (ad 78)), some (.int (jI sd)), some (.int (jI w)), none, none, none] rfl rfl rfl (Nat.le_of_ble_eq_true rfl) ?_
  intro Ω X R hin
  obtain ⟨E0, hE0⟩ : ∃ E0 : Nat → va_E, E0 = E := ⟨_, rfl⟩
  have hF : ∀ j : Nat, j < 78 → E j = E0 j := fun _ _ => by rw [hE0]
  obtain ⟨m2, m3, m4, m5, m6, m7, m8, m9, m10, m11, g, rs, ma, pa, al, he, un, re, ot, ln, lg, ce, hM, hS, hTp, hRs, hEn, hLe, hMa, hPa, hAl, hHe, hUn, hRe, hOt, hIk, hLa, hLn, hCe, hMR⟩ := id hc
  obtain ⟨hg, him, hrs, hun, hre, hsh⟩ := id hMR
  obtain ⟨hk0, hnow⟩ := id hk
  have hv := hk0.hv
  obtain ⟨hn, hvr⟩ := id hv
  obtain ⟨hgn, hgf⟩ := id hg
  have ho := hk0.ho
  have htb := hk0.htb
  obtain ⟨htl, -⟩ := id htb
  have hb := hk0.hb
  refine J_iload_n (q := 1) X dX10_grow_0 rfl rfl ?_
  refine J_i2l (q := 2) X dX10_grow_1 rfl (by omega) ?_
  refine J_lconst (q := 3) (v := 1) X dX10_grow_2 (by decide) rfl ?_
  refine J_ldc2 (q := 6) X dX10_grow_3 kX10_261 rfl ?_
  refine J_callP (q := 9) (jrS X mX10_61 dX10_grow_6 (c_X10_in (by omega) (by omega) (by omega)) rfl rfl (Nat.le_of_ble_eq_true rfl) (by decide)) rfl ?_
  refine J_if_neB (q := 12) (tgt := 14) X dX10_grow_9 (by decide) rfl (fun cq9 => ?_) (fun cq9 => ?_)
  · refine J_aload_n (q := 15) X dX10_grow_14 rfl rfl ?_
    refine J_callV (q := 18) (jrV X mX10_240 dX10_grow_15 (c_X10_edits hM hS hUn (by omega)) hM (by omega) rfl rfl rfl rfl (Nat.le_of_ble_eq_true rfl) (by decide)) rfl (fun Ew15 hpq15 => ?_)
    obtain ⟨unq15, kM, kUn, huaq15, hubq15, hsq15⟩ := hpq15
    replace hM := kM
    replace hUn := kUn
    have ep : (if s.p = 20 then (20 : Int) else s.p + 1) = (if s.p < 20 then s.p + 1 else s.p) := by split <;> split <;> omega
    rw [ep] at hM
    replace hS := (hsq15 79 (by omega)).trans hS
    replace hTp := (hsq15 80 (by omega)).trans hTp
    replace hRs := (hsq15 81 (by omega)).trans hRs
    replace hEn := (hsq15 82 (by omega)).trans hEn
    replace hLe := (hsq15 83 (by omega)).trans hLe
    replace hMa := (hsq15 84 (by omega)).trans hMa
    replace hPa := (hsq15 85 (by omega)).trans hPa
    replace hAl := (hsq15 86 (by omega)).trans hAl
    replace hHe := (hsq15 87 (by omega)).trans hHe
    replace hRe := (hsq15 89 (by omega)).trans hRe
    replace hOt := (hsq15 90 (by omega)).trans hOt
    replace hIk := (hsq15 91 (by omega)).trans hIk
    replace hLa := (hsq15 92 (by omega)).trans hLa
    replace hLn := (hsq15 93 (by omega)).trans hLn
    replace hCe := (hsq15 94 (by omega)).trans hCe
    replace hF : ∀ j : Nat, j < 78 → Ew15 j = E0 j := fun j hj => (hsq15 j (by omega)).trans (hF j hj)
    refine J_iload_n (q := 19) X dX10_grow_18 rfl rfl ?_
    refine J_istore_n (q := 20) X dX10_grow_19 (by decide) rfl rfl ?_
    refine J_iconst (q := 21) X dX10_grow_20 rfl ?_
    refine J_istore (q := 23) X dX10_grow_21 (by decide) rfl rfl ?_
    have lp23 : ∀ (mm : Nat) (c zz nn : Int) (ff gg : Int → Int) (E : Nat → va_E) (hgr : grw w mm zz c nn ff = grw w 31 sd 0 s.n s.f) (hcc : 0 ≤ c ∧ c ≤ w) (hvg : VR ff nn) (hms : MS gg nn ff) (hgi : ∀ j, 61 ≤ j → j < 183 → gg j = g j) (hM : E 78 = .inr (9, [.ref (ad 79), .ref (ad 80), .int (jI s.tl), .int (jI s.b0), .int (jI m2), .int (jI m3), .int (jI m4), .int (jI m5), .int (jI m6), .int (jI m7), .int (jI m8), .int (jI m9), .int (jI m10), .int (jI m11), .ref (ad 81), .ref (ad 82), .ref (ad 83), .ref (ad 84), .ref (ad 85), .ref (ad 86), .ref (ad 87), .ref (ad 88), .ref (ad 89), .int (jI (if s.p < 20 then s.p + 1 else s.p)), .int (jI 0), .ref (ad 90), .ref (ad 91), .ref (ad 92), .ref (ad 93), .ref (ad 94), .int (jI s.tor)])) (hS : E 79 = aI Γ 305 gg) (hTp : E 80 = aI Γ 160 s.tb) (hRs : E 81 = aI Γ 3 rs) (hEn : E 82 = aI Γ 4 enF) (hLe : E 83 = aI Γ 10 leF) (hMa : E 84 = aI Γ 60 ma) (hPa : E 85 = aI Γ 60 pa) (hAl : E 86 = aI Γ 60 al) (hHe : E 87 = aI Γ 60 he) (hUn : E 88 = aI Γ 1220 unq15) (hRe : E 89 = aI Γ 1220 re) (hOt : E 90 = aI Γ 120 ot) (hIk : E 91 = aZ Γ 2 s.kp) (hLa : E 92 = aI Γ 4 ln) (hLn : E 93 = aI Γ 4 lg) (hCe : E 94 = aI Γ 160 ce) (hF : ∀ j : Nat, j < 78 → E j = E0 j) (hm : w - c + 1 ≤ (mm : Int)), J l Γ Ω 6 ad 95 0 0 E 23 [some (.ref (ad 78)), some (.int (jI sd)), some (.int (jI w)), some (.int (jI zz)), some (.int (jI c)), none] [] := by
      intro mm
      induction mm with
      | zero => intro c zz nn ff gg E hgr hcc hvg hms hgi hM hS hTp hRs hEn hLe hMa hPa hAl hHe hUn hRe hOt hIk hLa hLn hCe hF hm; exfalso; omega
      | succ mm ih23 =>
        intro c zz nn ff gg E hgr hcc hvg hms hgi hM hS hTp hRs hEn hLe hMa hPa hAl hHe hUn hRe hOt hIk hLa hLn hCe hF hm
        have hnn := hvg.1
        refine J_iload (q := 25) X dX10_grow_23 rfl rfl ?_
        refine J_iload_n (q := 26) X dX10_grow_25 rfl rfl ?_
        refine J_icmp_ge (q := 29) (tgt := 88) X dX10_grow_26 (by decide) rfl (by omega) (by omega) (fun cq26 => ?_) (fun cq26 => ?_)
        · refine J_iload (q := 90) X dX10_grow_88 rfl rfl ?_
          refine J_iret X R dX10_grow_90 ?_
          rw [hE0] at hF
          rw [grw, if_neg (by omega)] at hgr
          have hq : qGrow s sd w = (c, (s.row nn ff).ed) := (by unfold qGrow; rw [if_neg (by omega), ← hgr])
          rw [hq]
          exact ⟨_, rfl, rfl, ⟨_, _, _, _, _, _, _, _, _, _, _, _, _, _, _, _, _, _, _, _, _, _, hM, hS, hTp, hRs, hEn, hLe, hMa, hPa, hAl, hHe, hUn, hRe, hOt, hIk, hLa, hLn, hCe, (MR_ed hk hMR huaq15 hubq15 hms hgi)⟩, hF⟩
        · refine J_aload_n (q := 30) X dX10_grow_29 rfl rfl ?_
          refine J_callP (q := 33) (jrV X mX10_165 dX10_grow_30 (c_X10_many hM hS hms hvg) hM (by omega) rfl rfl rfl rfl (Nat.le_of_ble_eq_true rfl) (by decide)) rfl ?_
          refine J_bipush (q := 35) X dX10_grow_33 rfl (by decide) ?_
          refine J_icmp_ge (q := 38) (tgt := 88) X dX10_grow_35 (by decide) rfl (by omega) (by omega) (fun cq35 => ?_) (fun cq35 => ?_)
          · refine J_iload (q := 90) X dX10_grow_88 rfl rfl ?_
            refine J_iret X R dX10_grow_90 ?_
            rw [hE0] at hF
            rw [grw, if_neg (by omega)] at hgr
            have hq : qGrow s sd w = (c, (s.row nn ff).ed) := (by unfold qGrow; rw [if_neg (by omega), ← hgr])
            rw [hq]
            exact ⟨_, rfl, rfl, ⟨_, _, _, _, _, _, _, _, _, _, _, _, _, _, _, _, _, _, _, _, _, _, hM, hS, hTp, hRs, hEn, hLe, hMa, hPa, hAl, hHe, hUn, hRe, hOt, hIk, hLa, hLn, hCe, (MR_ed hk hMR huaq15 hubq15 hms hgi)⟩, hF⟩
          · refine J_iload_n (q := 39) X dX10_grow_38 rfl rfl ?_
            refine J_ldcw (q := 42) X dX10_grow_39 kX10_263 rfl ?_
            refine J_imul (q := 43) X dX10_grow_42 rfl ?_
            refine J_sipush (q := 46) X dX10_grow_43 rfl (by decide) ?_
            refine J_iadd (q := 47) X dX10_grow_46 rfl ?_
            refine J_istore_n (q := 48) X dX10_grow_47 (by decide) rfl rfl ?_
            refine J_iload_n (q := 49) X dX10_grow_48 rfl rfl ?_
            refine J_bipush (q := 51) X dX10_grow_49 rfl (by decide) ?_
            refine J_ishr (q := 52) X dX10_grow_51 rfl (jI_shr16 _) ?_
            refine J_sipush (q := 55) X dX10_grow_52 rfl (by decide) ?_
            refine J_iand (q := 56) X dX10_grow_55 rfl ((jI_and32767 _).trans (by rw [bm16])) ?_
            obtain ⟨gv, hgv⟩ : ∃ gv, gv = gt zz := ⟨_, rfl⟩
            have hgt : 0 ≤ gv ∧ gv < 32768 := by rw [hgv]; exact ⟨Int.emod_nonneg _ (by decide), Int.emod_lt_of_pos _ (by decide)⟩
            rw [show (zz * 1103515245 + 12345) / 65536 % 32768 = gv from hgv.symm]
            refine J_istore (q := 58) X dX10_grow_56 (by decide) rfl rfl ?_
            refine J_aload_n (q := 59) X dX10_grow_58 rfl rfl ?_
            refine J_iload (q := 61) X dX10_grow_59 rfl rfl ?_
            refine J_aload_n (q := 62) X dX10_grow_61 rfl rfl ?_
            refine J_callP (q := 65) (jrV X mX10_165 dX10_grow_62 (c_X10_many hM hS hms hvg) hM (by omega) rfl rfl rfl rfl (Nat.le_of_ble_eq_true rfl) (by decide)) rfl ?_
            refine J_iconst (q := 66) X dX10_grow_65 rfl ?_
            refine J_iadd (q := 67) X dX10_grow_66 rfl ?_
            refine J_irem (q := 68) X dX10_grow_67 rfl (by omega) (by omega) ?_
            have hgp1 := Int.emod_nonneg gv (b := nn + 1) (by omega)
            have hgp2 := Int.emod_lt_of_pos gv (b := nn + 1) (by omega)
            refine J_iload (q := 70) X dX10_grow_68 rfl rfl ?_
            refine J_bipush (q := 72) X dX10_grow_70 rfl (by decide) ?_
            refine J_idiv (q := 73) X dX10_grow_72 rfl (by omega) (by omega) ?_
            refine J_bipush (q := 75) X dX10_grow_73 rfl (by decide) ?_
            refine J_irem (q := 76) X dX10_grow_75 rfl (by omega) (by omega) ?_
            refine J_callP (q := 79) (jrS X mX10_264 dX10_grow_76 (c_X10_drawn (by omega)) rfl rfl (Nat.le_of_ble_eq_true rfl) (by decide)) rfl ?_
            refine J_callV (q := 82) (jrV X mX10_243 dX10_grow_79 (c_X10_comesIn hM hS hms.1 (by omega)) hM (by omega) rfl rfl rfl rfl (Nat.le_of_ble_eq_true rfl) (by decide)) rfl (fun Ew79 hpq79 => ?_)
            obtain ⟨kS, hsq79⟩ := hpq79
            replace hS := kS
            replace hM := (hsq79 78 (by omega)).trans hM
            replace hTp := (hsq79 80 (by omega)).trans hTp
            replace hRs := (hsq79 81 (by omega)).trans hRs
            replace hEn := (hsq79 82 (by omega)).trans hEn
            replace hLe := (hsq79 83 (by omega)).trans hLe
            replace hMa := (hsq79 84 (by omega)).trans hMa
            replace hPa := (hsq79 85 (by omega)).trans hPa
            replace hAl := (hsq79 86 (by omega)).trans hAl
            replace hHe := (hsq79 87 (by omega)).trans hHe
            replace hUn := (hsq79 88 (by omega)).trans hUn
            replace hRe := (hsq79 89 (by omega)).trans hRe
            replace hOt := (hsq79 90 (by omega)).trans hOt
            replace hIk := (hsq79 91 (by omega)).trans hIk
            replace hLa := (hsq79 92 (by omega)).trans hLa
            replace hLn := (hsq79 93 (by omega)).trans hLn
            replace hCe := (hsq79 94 (by omega)).trans hCe
            replace hF : ∀ j : Nat, j < 78 → Ew79 j = E0 j := fun j hj => (hsq79 j (by omega)).trans (hF j hj)
            refine J_iinc (q := 85) X dX10_grow_82 rfl (by decide) rfl rfl ?_
            refine J_goto (q := 23) X dX10_grow_85 (by decide) ?_
            refine J_kill 5 ?_
            rw [grw, if_pos ⟨by omega, by omega⟩] at hgr
            subst hgv
            refine ih23 _ _ _ _ (ciF gg nn (gt zz % (nn + 1)) (jgrown.getD (gt zz / 64 % 9).toNat 0)) _ hgr (by omega) (VR_ins hvg ⟨hgp1, Int.lt_add_one_iff.1 hgp2, by omega⟩ (gd_sgn (gc_sgn zz))) ⟨if_pos rfl, fun j a b => ?_⟩ (fun j a b => ?_) hM hS hTp hRs hEn hLe hMa hPa hAl hHe hUn hRe hOt hIk hLa hLn hCe hF (by omega)
            · obtain ⟨hm1, hm2⟩ := hms
              show ciF gg nn (gt zz % (nn + 1)) (gc zz) j = iu (icp ff ff (gt zz % (nn + 1)) (gt zz % (nn + 1) + 1) (nn - gt zz % (nn + 1))) (gt zz % (nn + 1)) (gc zz) j
              generalize gt zz % (nn + 1) = pq at hgp1 hgp2 ⊢
              simp only [ciF, iu, icp]
              repeat' split
              all_goals first | rfl | (exfalso; omega) | exact hm2 _ (by omega) (by omega) | (rw [hm2 _ (by omega) (by omega)]; congr 1; omega)
            · rw [← hgi j a b]
              simp only [ciF]
              repeat' split
              all_goals first | rfl | (exfalso; omega)
    exact lp23 31 _ _ _ _ _ _ rfl (by omega) hv hg (fun j _ _ => rfl) hM hS hTp hRs hEn hLe hMa hPa hAl hHe hUn hRe hOt hIk hLa hLn hCe hF (by omega)
  · refine J_iconst (q := 13) X dX10_grow_12 rfl ?_
    refine J_iret X R dX10_grow_13 ?_
    rw [hE0] at hF
    have hq : qGrow s sd w = (-1, s) := (by unfold qGrow; rw [if_pos (by omega)])
    rw [hq]
    exact ⟨_, rfl, rfl, ⟨_, _, _, _, _, _, _, _, _, _, _, _, _, _, _, _, _, _, _, _, _, _, hM, hS, hTp, hRs, hEn, hLe, hMa, hPa, hAl, hHe, hUn, hRe, hOt, hIk, hLa, hLn, hCe, hMR⟩, hF⟩
