set_option maxRecDepth 100000 in
set_option maxHeartbeats 4000000 in
theorem c_X10_fault {l : Launch} {Γ : JG} {ad : Nat → Nat} {E : Nat → va_E} {s : KS} (hc : MI Γ ad E s) (hk : KV s) : JM l Γ yX10_fault cX10_fault 1 (some .int) 0 0 0 0 ad 95 E [.ref (ad 78)] (pI (fun z E' => z = qFault s ∧ MI Γ ad E' s ∧ ∀ j : Nat, j < 78 → E' j = E j)) := by
  refine JM_intro (own := RX10) [some (.ref (ad 78))] rfl rfl rfl (Nat.le_of_ble_eq_true rfl) ?_
  intro Ω X R hin
  obtain ⟨E0, hE0⟩ : ∃ E0 : Nat → va_E, E0 = E := ⟨_, rfl⟩
  have hF : ∀ j : Nat, j < 78 → E j = E0 j := fun _ _ => by rw [hE0]
  obtain ⟨m2, m3, m4, m5, m6, m7, m8, m9, m10, m11, g, rs, ma, pa, al, he, un, re, ot, ln, lg, ce, hM, hS, hTp, hRs, hEn, hLe, hMa, hPa, hAl, hHe, hUn, hRe, hOt, hIk, hLa, hLn, hCe, hMR⟩ := id hc
  obtain ⟨hg, him, hrs, hun, hre, hsh⟩ := id hMR
  obtain ⟨hk0, hnow⟩ := id hk
  have hv := hk0.hv
  obtain ⟨hn, hvr⟩ := id hv
  obtain ⟨hgn, hgf⟩ := id hg
  have ho := hk0.ho
  have htb := hk0.htb
  obtain ⟨htl, -⟩ := id htb
  have hb := hk0.hb
  refine J_aload_n (q := 1) X dX10_fault_0 rfl rfl ?_
  refine J_get (q := 4) X dX10_fault_1 fX10_152 hM (by omega) rfl rfl ?_
  refine J_iret X R dX10_fault_4 ?_
  rw [hE0] at hF
  exact ⟨_, rfl, rfl, ⟨_, _, _, _, _, _, _, _, _, _, _, _, _, _, _, _, _, _, _, _, _, _, hM, hS, hTp, hRs, hEn, hLe, hMa, hPa, hAl, hHe, hUn, hRe, hOt, hIk, hLa, hLn, hCe, hMR⟩, hF⟩

set_option maxRecDepth 100000 in
set_option maxHeartbeats 4000000 in
theorem c_X10_torn {l : Launch} {Γ : JG} {ad : Nat → Nat} {E : Nat → va_E} {s : KS} (hc : MI Γ ad E s) (hk : KV s) : JM l Γ yX10_torn cX10_torn 1 (some .int) 0 0 0 0 ad 95 E [.ref (ad 78)] (pI (fun z E' => z = qTorn s ∧ MI Γ ad E' s ∧ ∀ j : Nat, j < 78 → E' j = E j)) := by
  refine JM_intro (own := RX10) [some (.ref (ad 78))] rfl rfl rfl (Nat.le_of_ble_eq_true rfl) ?_
  intro Ω X R hin
  obtain ⟨E0, hE0⟩ : ∃ E0 : Nat → va_E, E0 = E := ⟨_, rfl⟩
  have hF : ∀ j : Nat, j < 78 → E j = E0 j := fun _ _ => by rw [hE0]
  obtain ⟨m2, m3, m4, m5, m6, m7, m8, m9, m10, m11, g, rs, ma, pa, al, he, un, re, ot, ln, lg, ce, hM, hS, hTp, hRs, hEn, hLe, hMa, hPa, hAl, hHe, hUn, hRe, hOt, hIk, hLa, hLn, hCe, hMR⟩ := id hc
  obtain ⟨hg, him, hrs, hun, hre, hsh⟩ := id hMR
  obtain ⟨hk0, hnow⟩ := id hk
  have hv := hk0.hv
  obtain ⟨hn, hvr⟩ := id hv
  obtain ⟨hgn, hgf⟩ := id hg
  have ho := hk0.ho
  have htb := hk0.htb
  obtain ⟨htl, -⟩ := id htb
  have hb := hk0.hb
  refine J_aload_n (q := 1) X dX10_torn_0 rfl rfl ?_
  refine J_get (q := 4) X dX10_torn_1 fX10_272 hM (by omega) rfl rfl ?_
  refine J_iret X R dX10_torn_4 ?_
  rw [hE0] at hF
  exact ⟨_, rfl, rfl, ⟨_, _, _, _, _, _, _, _, _, _, _, _, _, _, _, _, _, _, _, _, _, _, hM, hS, hTp, hRs, hEn, hLe, hMa, hPa, hAl, hHe, hUn, hRe, hOt, hIk, hLa, hLn, hCe, hMR⟩, hF⟩

set_option maxRecDepth 100000 in
set_option maxHeartbeats 4000000 in
theorem c_X10_reason {l : Launch} {Γ : JG} {ad : Nat → Nat} {E : Nat → va_E} {s : KS} {w : Int} (hc : MI Γ ad E s) (hk : KV s) (hbw : -2147483648 ≤ w ∧ w < 2147483648) : JM l Γ yX10_reason cX10_reason 2 (some .int) 1 25 0 0 ad 95 E [.ref (ad 78), .int (jI w)] (pI (fun z E' => z = qReason s w ∧ MI Γ ad E' s ∧ ∀ j : Nat, j < 78 → E' j = E j)) := by
  refine JM_intro (own := RX10) [some (.ref (ad 78)), some (.int (jI w))] rfl rfl rfl (Nat.le_of_ble_eq_true rfl) ?_
  intro Ω X R hin
  obtain ⟨E0, hE0⟩ : ∃ E0 : Nat → va_E, E0 = E := ⟨_, rfl⟩
  have hF : ∀ j : Nat, j < 78 → E j = E0 j := fun _ _ => by rw [hE0]
  obtain ⟨m2, m3, m4, m5, m6, m7, m8, m9, m10, m11, g, rs, ma, pa, al, he, un, re, ot, ln, lg, ce, hM, hS, hTp, hRs, hEn, hLe, hMa, hPa, hAl, hHe, hUn, hRe, hOt, hIk, hLa, hLn, hCe, hMR⟩ := id hc
  obtain ⟨hg, him, hrs, hun, hre, hsh⟩ := id hMR
  obtain ⟨hk0, hnow⟩ := id hk
  have hv := hk0.hv
  obtain ⟨hn, hvr⟩ := id hv
  obtain ⟨hgn, hgf⟩ := id hg
  have ho := hk0.ho
  have htb := hk0.htb
  obtain ⟨htl, -⟩ := id htb
  have hb := hk0.hb
  refine J_iload_n (q := 1) X dX10_reason_0 rfl rfl ?_
  refine J_i2l (q := 2) X dX10_reason_1 rfl (by omega) ?_
  refine J_lconst (q := 3) (v := 0) X dX10_reason_2 (by decide) rfl ?_
  refine J_ldc2 (q := 6) X dX10_reason_3 kX10_168 rfl ?_
  refine J_callP (q := 9) (jrS X mX10_61 dX10_reason_6 (c_X10_in (by omega) (by omega) (by omega)) rfl rfl (Nat.le_of_ble_eq_true rfl) (by decide)) rfl ?_
  refine J_if_eqB (q := 12) (tgt := 21) X dX10_reason_9 (by decide) rfl (fun cq9 => ?_) (fun cq9 => ?_)
  · refine J_iconst (q := 22) X dX10_reason_21 rfl ?_
    refine J_iret X R dX10_reason_22 ?_
    rw [hE0] at hF
    refine ⟨_, rfl, ?_, ⟨_, _, _, _, _, _, _, _, _, _, _, _, _, _, _, _, _, _, _, _, _, _, hM, hS, hTp, hRs, hEn, hLe, hMa, hPa, hAl, hHe, hUn, hRe, hOt, hIk, hLa, hLn, hCe, hMR⟩, hF⟩
    unfold qReason
    first
      | (rw [if_pos (by omega)]; done)
      | (rw [if_neg (by omega)]; rcases (show w = 0 ∨ w = 1 ∨ w = 2 by omega) with e | e | e
         · subst e; (rw [hrs.1]; by_cases hc0 : s.b0 = 0 ∨ s.b0 = 6; (rw [rsn, if_pos hc0, if_pos hc0]); (rw [rsn, if_neg hc0, if_neg hc0]; rfl))
         · subst e; (rw [hrs.2.1]; by_cases hc0 : s.b0 = 0 ∨ s.b0 = 6; (rw [rsn, if_pos hc0, if_pos hc0]); (rw [rsn, if_neg hc0, if_neg hc0]; rfl))
         · subst e; (rw [hrs.2.2]; by_cases hc0 : s.b0 = 0 ∨ s.b0 = 6; (rw [rsn, if_pos hc0, if_pos hc0]); (rw [rsn, if_neg hc0, if_neg hc0]; rfl)))
  · refine J_aload_n (q := 13) X dX10_reason_12 rfl rfl ?_
    refine J_get (q := 16) X dX10_reason_13 fX10_16 hM (by omega) rfl rfl ?_
    refine J_iload_n (q := 17) X dX10_reason_16 rfl rfl ?_
    refine J_iald (q := 18) X dX10_reason_17 hRs (by omega) (by omega) (by decide) rfl ?_
    refine J_goto (q := 22) X dX10_reason_18 (by decide) ?_
    refine J_iret X R dX10_reason_22 ?_
    rw [hE0] at hF
    refine ⟨_, rfl, ?_, ⟨_, _, _, _, _, _, _, _, _, _, _, _, _, _, _, _, _, _, _, _, _, _, hM, hS, hTp, hRs, hEn, hLe, hMa, hPa, hAl, hHe, hUn, hRe, hOt, hIk, hLa, hLn, hCe, hMR⟩, hF⟩
    unfold qReason
    first
      | (rw [if_pos (by omega)]; done)
      | (rw [if_neg (by omega)]; rcases (show w = 0 ∨ w = 1 ∨ w = 2 by omega) with e | e | e
         · subst e; (rw [hrs.1]; by_cases hc0 : s.b0 = 0 ∨ s.b0 = 6; (rw [rsn, if_pos hc0, if_pos hc0]); (rw [rsn, if_neg hc0, if_neg hc0]; rfl))
         · subst e; (rw [hrs.2.1]; by_cases hc0 : s.b0 = 0 ∨ s.b0 = 6; (rw [rsn, if_pos hc0, if_pos hc0]); (rw [rsn, if_neg hc0, if_neg hc0]; rfl))
         · subst e; (rw [hrs.2.2]; by_cases hc0 : s.b0 = 0 ∨ s.b0 = 6; (rw [rsn, if_pos hc0, if_pos hc0]); (rw [rsn, if_neg hc0, if_neg hc0]; rfl)))

set_option maxRecDepth 100000 in
set_option maxHeartbeats 4000000 in
theorem c_X10_rule {l : Launch} {Γ : JG} {ad : Nat → Nat} {E : Nat → va_E} {s : KS} {w : Int} (hc : MI Γ ad E s) (hk : KV s) (hbw : -2147483648 ≤ w ∧ w < 2147483648) : JM l Γ yX10_rule cX10_rule 2 (some .int) 5 112 0 0 ad 95 E [.ref (ad 78), .int (jI w)] (pI (fun z E' => z = qRule s w ∧ MI Γ ad E' s ∧ ∀ j : Nat, j < 78 → E' j = E j)) := by
  refine JM_intro (own := RX10) [some (.ref (ad 78)), some (.int (jI w))] rfl rfl rfl (Nat.le_of_ble_eq_true rfl) ?_
  intro Ω X R hin
  obtain ⟨E0, hE0⟩ : ∃ E0 : Nat → va_E, E0 = E := ⟨_, rfl⟩
  have hF : ∀ j : Nat, j < 78 → E j = E0 j := fun _ _ => by rw [hE0]
  obtain ⟨m2, m3, m4, m5, m6, m7, m8, m9, m10, m11, g, rs, ma, pa, al, he, un, re, ot, ln, lg, ce, hM, hS, hTp, hRs, hEn, hLe, hMa, hPa, hAl, hHe, hUn, hRe, hOt, hIk, hLa, hLn, hCe, hMR⟩ := id hc
  obtain ⟨hg, him, hrs, hun, hre, hsh⟩ := id hMR
  obtain ⟨hk0, hnow⟩ := id hk
  have hv := hk0.hv
  obtain ⟨hn, hvr⟩ := id hv
  obtain ⟨hgn, hgf⟩ := id hg
  have ho := hk0.ho
  have htb := hk0.htb
  obtain ⟨htl, -⟩ := id htb
  have hb := hk0.hb
  refine J_iload_n (q := 1) X dX10_rule_0 rfl rfl ?_
  rcases (show (w < 0 ∨ 10 < w) ∨ w = 0 ∨ w = 1 ∨ w = 2 ∨ w = 3 ∨ w = 4 ∨ w = 5 ∨ w = 6 ∨ w = 7 ∨ w = 8 ∨ w = 9 ∨ w = 10 by omega) with hsw | hsw | hsw | hsw | hsw | hsw | hsw | hsw | hsw | hsw | hsw | hsw
  · refine J_tableOut (tgt := 91) X dX10_rule_1 (by omega) hsw (by decide) ?_
    refine J_iload_n (q := 92) X dX10_rule_91 rfl rfl ?_
    refine J_i2l (q := 93) X dX10_rule_92 rfl (by omega) ?_
    refine J_ldc2 (q := 96) X dX10_rule_93 kX10_168 rfl ?_
    refine J_ldc2 (q := 99) X dX10_rule_96 kX10_214 rfl ?_
    refine J_callP (q := 102) (jrS X mX10_61 dX10_rule_99 (c_X10_in (by omega) (by omega) (by omega)) rfl rfl (Nat.le_of_ble_eq_true rfl) (by decide)) rfl ?_
    refine J_if_eqB (q := 105) (tgt := 113) X dX10_rule_102 (by decide) rfl (fun cq102 => ?_) (fun cq102 => ?_)
    · refine J_iconst (q := 114) X dX10_rule_113 rfl ?_
      refine J_iret X R dX10_rule_114 ?_
      first
        | (exfalso; omega)
        | (rw [hE0] at hF; have hq : qRule s w = smI (fun j => bI (bel s.f s.n w j)) s.n := (by unfold qRule; repeat (first | (rw [if_pos (by omega)]; done) | (rw [if_neg (by omega)]; done) | rw [if_neg (by omega)])); exact ⟨_, rfl, Eq.trans (hzq107) hq.symm, ⟨_, _, _, _, _, _, _, _, _, _, _, _, _, _, _, _, _, _, _, _, _, _, hM, hS, hTp, hRs, hEn, hLe, hMa, hPa, hAl, hHe, hUn, hRe, hOt, hIk, hLa, hLn, hCe, hMR⟩, hF⟩)
        | (rw [hE0] at hF; have hq : qRule s w = -1 := (by unfold qRule; repeat (first | (rw [if_pos (by omega)]; done) | (rw [if_neg (by omega)]; done) | rw [if_neg (by omega)])); exact ⟨_, rfl, Eq.trans (rfl) hq.symm, ⟨_, _, _, _, _, _, _, _, _, _, _, _, _, _, _, _, _, _, _, _, _, _, hM, hS, hTp, hRs, hEn, hLe, hMa, hPa, hAl, hHe, hUn, hRe, hOt, hIk, hLa, hLn, hCe, hMR⟩, hF⟩)
    · refine J_aload_n (q := 106) X dX10_rule_105 rfl rfl ?_
      refine J_iload_n (q := 107) X dX10_rule_106 rfl rfl ?_
      refine J_callI (q := 110) (jrV X mX10_216 dX10_rule_107 (c_X10_counted hM hS hPa hAl hHe hg hv (by omega)) hM (by omega) rfl rfl rfl rfl (Nat.le_of_ble_eq_true rfl) (by decide)) rfl (fun zq107 Ew107 hpq107 => ?_)
      obtain ⟨hzq107, ⟨paq107, alq107, heq107, kPa, kAl, kHe⟩, hsq107⟩ := hpq107
      replace hPa := kPa
      replace hAl := kAl
      replace hHe := kHe
      replace hM := (hsq107 78 (by omega)).trans hM
      replace hS := (hsq107 79 (by omega)).trans hS
      replace hTp := (hsq107 80 (by omega)).trans hTp
      replace hRs := (hsq107 81 (by omega)).trans hRs
      replace hEn := (hsq107 82 (by omega)).trans hEn
      replace hLe := (hsq107 83 (by omega)).trans hLe
      replace hMa := (hsq107 84 (by omega)).trans hMa
      replace hUn := (hsq107 88 (by omega)).trans hUn
      replace hRe := (hsq107 89 (by omega)).trans hRe
      replace hOt := (hsq107 90 (by omega)).trans hOt
      replace hIk := (hsq107 91 (by omega)).trans hIk
      replace hLa := (hsq107 92 (by omega)).trans hLa
      replace hLn := (hsq107 93 (by omega)).trans hLn
      replace hCe := (hsq107 94 (by omega)).trans hCe
      replace hF : ∀ j : Nat, j < 78 → Ew107 j = E0 j := fun j hj => (hsq107 j (by omega)).trans (hF j hj)
      refine J_goto (q := 114) X dX10_rule_110 (by decide) ?_
      refine J_iret X R dX10_rule_114 ?_
      first
        | (exfalso; omega)
        | (rw [hE0] at hF; have hq : qRule s w = smI (fun j => bI (bel s.f s.n w j)) s.n := (by unfold qRule; repeat (first | (rw [if_pos (by omega)]; done) | (rw [if_neg (by omega)]; done) | rw [if_neg (by omega)])); exact ⟨_, rfl, Eq.trans (hzq107) hq.symm, ⟨_, _, _, _, _, _, _, _, _, _, _, _, _, _, _, _, _, _, _, _, _, _, hM, hS, hTp, hRs, hEn, hLe, hMa, hPa, hAl, hHe, hUn, hRe, hOt, hIk, hLa, hLn, hCe, hMR⟩, hF⟩)
        | (rw [hE0] at hF; have hq : qRule s w = -1 := (by unfold qRule; repeat (first | (rw [if_pos (by omega)]; done) | (rw [if_neg (by omega)]; done) | rw [if_neg (by omega)])); exact ⟨_, rfl, Eq.trans (rfl) hq.symm, ⟨_, _, _, _, _, _, _, _, _, _, _, _, _, _, _, _, _, _, _, _, _, _, hM, hS, hTp, hRs, hEn, hLe, hMa, hPa, hAl, hHe, hUn, hRe, hOt, hIk, hLa, hLn, hCe, hMR⟩, hF⟩)
  · refine J_tableIn (tgt := 60) (v := 0) (off := 59) X dX10_rule_1 hsw (by decide) rfl (by decide) ?_
    refine J_aload_n (q := 61) X dX10_rule_60 rfl rfl ?_
    refine J_callP (q := 64) (jrV X mX10_165 dX10_rule_61 (c_X10_many hM hS hg hv) hM (by omega) rfl rfl rfl rfl (Nat.le_of_ble_eq_true rfl) (by decide)) rfl ?_
    refine J_iret X R dX10_rule_64 ?_
    rw [hE0] at hF
    have hq : qRule s w = s.n := (by unfold qRule; repeat (first | (rw [if_pos (by omega)]; done) | (rw [if_neg (by omega)]; done) | rw [if_neg (by omega)]))
    exact ⟨_, rfl, Eq.trans (rfl) hq.symm, ⟨_, _, _, _, _, _, _, _, _, _, _, _, _, _, _, _, _, _, _, _, _, _, hM, hS, hTp, hRs, hEn, hLe, hMa, hPa, hAl, hHe, hUn, hRe, hOt, hIk, hLa, hLn, hCe, hMR⟩, hF⟩
  · refine J_tableIn (tgt := 65) (v := 1) (off := 64) X dX10_rule_1 hsw (by decide) rfl (by decide) ?_
    refine J_aload_n (q := 66) X dX10_rule_65 rfl rfl ?_
    refine J_aload_n (q := 67) X dX10_rule_66 rfl rfl ?_
    refine J_callP (q := 70) (jrV X mX10_165 dX10_rule_67 (c_X10_many hM hS hg hv) hM (by omega) rfl rfl rfl rfl (Nat.le_of_ble_eq_true rfl) (by decide)) rfl ?_
    refine J_callP (q := 73) (jrV X mX10_208 dX10_rule_70 (c_X10_linesTo hM hS hg hv (by omega)) hM (by omega) rfl rfl rfl rfl (Nat.le_of_ble_eq_true rfl) (by decide)) rfl ?_
    refine J_iconst (q := 74) X dX10_rule_73 rfl ?_
    refine J_iadd (q := 75) X dX10_rule_74 rfl ?_
    refine J_iret X R dX10_rule_75 ?_
    rw [hE0] at hF
    have hq : qRule s w = lin s.f s.n + 1 := (by unfold qRule; repeat (first | (rw [if_pos (by omega)]; done) | (rw [if_neg (by omega)]; done) | rw [if_neg (by omega)]))
    exact ⟨_, rfl, Eq.trans (rfl) hq.symm, ⟨_, _, _, _, _, _, _, _, _, _, _, _, _, _, _, _, _, _, _, _, _, _, hM, hS, hTp, hRs, hEn, hLe, hMa, hPa, hAl, hHe, hUn, hRe, hOt, hIk, hLa, hLn, hCe, hMR⟩, hF⟩
  · refine J_tableIn (tgt := 91) (v := 2) (off := 90) X dX10_rule_1 hsw (by decide) rfl (by decide) ?_
    refine J_iload_n (q := 92) X dX10_rule_91 rfl rfl ?_
    refine J_i2l (q := 93) X dX10_rule_92 rfl (by omega) ?_
    refine J_ldc2 (q := 96) X dX10_rule_93 kX10_168 rfl ?_
    refine J_ldc2 (q := 99) X dX10_rule_96 kX10_214 rfl ?_
    refine J_callP (q := 102) (jrS X mX10_61 dX10_rule_99 (c_X10_in (by omega) (by omega) (by omega)) rfl rfl (Nat.le_of_ble_eq_true rfl) (by decide)) rfl ?_
    refine J_if_eqB (q := 105) (tgt := 113) X dX10_rule_102 (by decide) rfl (fun cq102 => ?_) (fun cq102 => ?_)
    · refine J_iconst (q := 114) X dX10_rule_113 rfl ?_
      refine J_iret X R dX10_rule_114 ?_
      first
        | (exfalso; omega)
        | (rw [hE0] at hF; have hq : qRule s w = smI (fun j => bI (bel s.f s.n w j)) s.n := (by unfold qRule; repeat (first | (rw [if_pos (by omega)]; done) | (rw [if_neg (by omega)]; done) | rw [if_neg (by omega)])); exact ⟨_, rfl, Eq.trans (hzq107) hq.symm, ⟨_, _, _, _, _, _, _, _, _, _, _, _, _, _, _, _, _, _, _, _, _, _, hM, hS, hTp, hRs, hEn, hLe, hMa, hPa, hAl, hHe, hUn, hRe, hOt, hIk, hLa, hLn, hCe, hMR⟩, hF⟩)
        | (rw [hE0] at hF; have hq : qRule s w = -1 := (by unfold qRule; repeat (first | (rw [if_pos (by omega)]; done) | (rw [if_neg (by omega)]; done) | rw [if_neg (by omega)])); exact ⟨_, rfl, Eq.trans (rfl) hq.symm, ⟨_, _, _, _, _, _, _, _, _, _, _, _, _, _, _, _, _, _, _, _, _, _, hM, hS, hTp, hRs, hEn, hLe, hMa, hPa, hAl, hHe, hUn, hRe, hOt, hIk, hLa, hLn, hCe, hMR⟩, hF⟩)
    · refine J_aload_n (q := 106) X dX10_rule_105 rfl rfl ?_
      refine J_iload_n (q := 107) X dX10_rule_106 rfl rfl ?_
      refine J_callI (q := 110) (jrV X mX10_216 dX10_rule_107 (c_X10_counted hM hS hPa hAl hHe hg hv (by omega)) hM (by omega) rfl rfl rfl rfl (Nat.le_of_ble_eq_true rfl) (by decide)) rfl (fun zq107 Ew107 hpq107 => ?_)
      obtain ⟨hzq107, ⟨paq107, alq107, heq107, kPa, kAl, kHe⟩, hsq107⟩ := hpq107
      replace hPa := kPa
      replace hAl := kAl
      replace hHe := kHe
      replace hM := (hsq107 78 (by omega)).trans hM
      replace hS := (hsq107 79 (by omega)).trans hS
      replace hTp := (hsq107 80 (by omega)).trans hTp
      replace hRs := (hsq107 81 (by omega)).trans hRs
      replace hEn := (hsq107 82 (by omega)).trans hEn
      replace hLe := (hsq107 83 (by omega)).trans hLe
      replace hMa := (hsq107 84 (by omega)).trans hMa
      replace hUn := (hsq107 88 (by omega)).trans hUn
      replace hRe := (hsq107 89 (by omega)).trans hRe
      replace hOt := (hsq107 90 (by omega)).trans hOt
      replace hIk := (hsq107 91 (by omega)).trans hIk
      replace hLa := (hsq107 92 (by omega)).trans hLa
      replace hLn := (hsq107 93 (by omega)).trans hLn
      replace hCe := (hsq107 94 (by omega)).trans hCe
      replace hF : ∀ j : Nat, j < 78 → Ew107 j = E0 j := fun j hj => (hsq107 j (by omega)).trans (hF j hj)
      refine J_goto (q := 114) X dX10_rule_110 (by decide) ?_
      refine J_iret X R dX10_rule_114 ?_
      first
        | (exfalso; omega)
        | (rw [hE0] at hF; have hq : qRule s w = smI (fun j => bI (bel s.f s.n w j)) s.n := (by unfold qRule; repeat (first | (rw [if_pos (by omega)]; done) | (rw [if_neg (by omega)]; done) | rw [if_neg (by omega)])); exact ⟨_, rfl, Eq.trans (hzq107) hq.symm, ⟨_, _, _, _, _, _, _, _, _, _, _, _, _, _, _, _, _, _, _, _, _, _, hM, hS, hTp, hRs, hEn, hLe, hMa, hPa, hAl, hHe, hUn, hRe, hOt, hIk, hLa, hLn, hCe, hMR⟩, hF⟩)
        | (rw [hE0] at hF; have hq : qRule s w = -1 := (by unfold qRule; repeat (first | (rw [if_pos (by omega)]; done) | (rw [if_neg (by omega)]; done) | rw [if_neg (by omega)])); exact ⟨_, rfl, Eq.trans (rfl) hq.symm, ⟨_, _, _, _, _, _, _, _, _, _, _, _, _, _, _, _, _, _, _, _, _, _, hM, hS, hTp, hRs, hEn, hLe, hMa, hPa, hAl, hHe, hUn, hRe, hOt, hIk, hLa, hLn, hCe, hMR⟩, hF⟩)
  · refine J_tableIn (tgt := 91) (v := 3) (off := 90) X dX10_rule_1 hsw (by decide) rfl (by decide) ?_
    refine J_iload_n (q := 92) X dX10_rule_91 rfl rfl ?_
    refine J_i2l (q := 93) X dX10_rule_92 rfl (by omega) ?_
    refine J_ldc2 (q := 96) X dX10_rule_93 kX10_168 rfl ?_
    refine J_ldc2 (q := 99) X dX10_rule_96 kX10_214 rfl ?_
    refine J_callP (q := 102) (jrS X mX10_61 dX10_rule_99 (c_X10_in (by omega) (by omega) (by omega)) rfl rfl (Nat.le_of_ble_eq_true rfl) (by decide)) rfl ?_
    refine J_if_eqB (q := 105) (tgt := 113) X dX10_rule_102 (by decide) rfl (fun cq102 => ?_) (fun cq102 => ?_)
    · refine J_iconst (q := 114) X dX10_rule_113 rfl ?_
      refine J_iret X R dX10_rule_114 ?_
      first
        | (exfalso; omega)
        | (rw [hE0] at hF; have hq : qRule s w = smI (fun j => bI (bel s.f s.n w j)) s.n := (by unfold qRule; repeat (first | (rw [if_pos (by omega)]; done) | (rw [if_neg (by omega)]; done) | rw [if_neg (by omega)])); exact ⟨_, rfl, Eq.trans (hzq107) hq.symm, ⟨_, _, _, _, _, _, _, _, _, _, _, _, _, _, _, _, _, _, _, _, _, _, hM, hS, hTp, hRs, hEn, hLe, hMa, hPa, hAl, hHe, hUn, hRe, hOt, hIk, hLa, hLn, hCe, hMR⟩, hF⟩)
        | (rw [hE0] at hF; have hq : qRule s w = -1 := (by unfold qRule; repeat (first | (rw [if_pos (by omega)]; done) | (rw [if_neg (by omega)]; done) | rw [if_neg (by omega)])); exact ⟨_, rfl, Eq.trans (rfl) hq.symm, ⟨_, _, _, _, _, _, _, _, _, _, _, _, _, _, _, _, _, _, _, _, _, _, hM, hS, hTp, hRs, hEn, hLe, hMa, hPa, hAl, hHe, hUn, hRe, hOt, hIk, hLa, hLn, hCe, hMR⟩, hF⟩)
    · refine J_aload_n (q := 106) X dX10_rule_105 rfl rfl ?_
      refine J_iload_n (q := 107) X dX10_rule_106 rfl rfl ?_
      refine J_callI (q := 110) (jrV X mX10_216 dX10_rule_107 (c_X10_counted hM hS hPa hAl hHe hg hv (by omega)) hM (by omega) rfl rfl rfl rfl (Nat.le_of_ble_eq_true rfl) (by decide)) rfl (fun zq107 Ew107 hpq107 => ?_)
      obtain ⟨hzq107, ⟨paq107, alq107, heq107, kPa, kAl, kHe⟩, hsq107⟩ := hpq107
      replace hPa := kPa
      replace hAl := kAl
      replace hHe := kHe
      replace hM := (hsq107 78 (by omega)).trans hM
      replace hS := (hsq107 79 (by omega)).trans hS
      replace hTp := (hsq107 80 (by omega)).trans hTp
      replace hRs := (hsq107 81 (by omega)).trans hRs
      replace hEn := (hsq107 82 (by omega)).trans hEn
      replace hLe := (hsq107 83 (by omega)).trans hLe
      replace hMa := (hsq107 84 (by omega)).trans hMa
      replace hUn := (hsq107 88 (by omega)).trans hUn
      replace hRe := (hsq107 89 (by omega)).trans hRe
      replace hOt := (hsq107 90 (by omega)).trans hOt
      replace hIk := (hsq107 91 (by omega)).trans hIk
      replace hLa := (hsq107 92 (by omega)).trans hLa
      replace hLn := (hsq107 93 (by omega)).trans hLn
      replace hCe := (hsq107 94 (by omega)).trans hCe
      replace hF : ∀ j : Nat, j < 78 → Ew107 j = E0 j := fun j hj => (hsq107 j (by omega)).trans (hF j hj)
      refine J_goto (q := 114) X dX10_rule_110 (by decide) ?_
      refine J_iret X R dX10_rule_114 ?_
      first
        | (exfalso; omega)
        | (rw [hE0] at hF; have hq : qRule s w = smI (fun j => bI (bel s.f s.n w j)) s.n := (by unfold qRule; repeat (first | (rw [if_pos (by omega)]; done) | (rw [if_neg (by omega)]; done) | rw [if_neg (by omega)])); exact ⟨_, rfl, Eq.trans (hzq107) hq.symm, ⟨_, _, _, _, _, _, _, _, _, _, _, _, _, _, _, _, _, _, _, _, _, _, hM, hS, hTp, hRs, hEn, hLe, hMa, hPa, hAl, hHe, hUn, hRe, hOt, hIk, hLa, hLn, hCe, hMR⟩, hF⟩)
        | (rw [hE0] at hF; have hq : qRule s w = -1 := (by unfold qRule; repeat (first | (rw [if_pos (by omega)]; done) | (rw [if_neg (by omega)]; done) | rw [if_neg (by omega)])); exact ⟨_, rfl, Eq.trans (rfl) hq.symm, ⟨_, _, _, _, _, _, _, _, _, _, _, _, _, _, _, _, _, _, _, _, _, _, hM, hS, hTp, hRs, hEn, hLe, hMa, hPa, hAl, hHe, hUn, hRe, hOt, hIk, hLa, hLn, hCe, hMR⟩, hF⟩)
  · refine J_tableIn (tgt := 91) (v := 4) (off := 90) X dX10_rule_1 hsw (by decide) rfl (by decide) ?_
    refine J_iload_n (q := 92) X dX10_rule_91 rfl rfl ?_
    refine J_i2l (q := 93) X dX10_rule_92 rfl (by omega) ?_
    refine J_ldc2 (q := 96) X dX10_rule_93 kX10_168 rfl ?_
    refine J_ldc2 (q := 99) X dX10_rule_96 kX10_214 rfl ?_
    refine J_callP (q := 102) (jrS X mX10_61 dX10_rule_99 (c_X10_in (by omega) (by omega) (by omega)) rfl rfl (Nat.le_of_ble_eq_true rfl) (by decide)) rfl ?_
    refine J_if_eqB (q := 105) (tgt := 113) X dX10_rule_102 (by decide) rfl (fun cq102 => ?_) (fun cq102 => ?_)
    · refine J_iconst (q := 114) X dX10_rule_113 rfl ?_
      refine J_iret X R dX10_rule_114 ?_
      first
        | (exfalso; omega)
        | (rw [hE0] at hF; have hq : qRule s w = smI (fun j => bI (bel s.f s.n w j)) s.n := (by unfold qRule; repeat (first | (rw [if_pos (by omega)]; done) | (rw [if_neg (by omega)]; done) | rw [if_neg (by omega)])); exact ⟨_, rfl, Eq.trans (hzq107) hq.symm, ⟨_, _, _, _, _, _, _, _, _, _, _, _, _, _, _, _, _, _, _, _, _, _, hM, hS, hTp, hRs, hEn, hLe, hMa, hPa, hAl, hHe, hUn, hRe, hOt, hIk, hLa, hLn, hCe, hMR⟩, hF⟩)
        | (rw [hE0] at hF; have hq : qRule s w = -1 := (by unfold qRule; repeat (first | (rw [if_pos (by omega)]; done) | (rw [if_neg (by omega)]; done) | rw [if_neg (by omega)])); exact ⟨_, rfl, Eq.trans (rfl) hq.symm, ⟨_, _, _, _, _, _, _, _, _, _, _, _, _, _, _, _, _, _, _, _, _, _, hM, hS, hTp, hRs, hEn, hLe, hMa, hPa, hAl, hHe, hUn, hRe, hOt, hIk, hLa, hLn, hCe, hMR⟩, hF⟩)
    · refine J_aload_n (q := 106) X dX10_rule_105 rfl rfl ?_
      refine J_iload_n (q := 107) X dX10_rule_106 rfl rfl ?_
      refine J_callI (q := 110) (jrV X mX10_216 dX10_rule_107 (c_X10_counted hM hS hPa hAl hHe hg hv (by omega)) hM (by omega) rfl rfl rfl rfl (Nat.le_of_ble_eq_true rfl) (by decide)) rfl (fun zq107 Ew107 hpq107 => ?_)
      obtain ⟨hzq107, ⟨paq107, alq107, heq107, kPa, kAl, kHe⟩, hsq107⟩ := hpq107
      replace hPa := kPa
      replace hAl := kAl
      replace hHe := kHe
      replace hM := (hsq107 78 (by omega)).trans hM
      replace hS := (hsq107 79 (by omega)).trans hS
      replace hTp := (hsq107 80 (by omega)).trans hTp
      replace hRs := (hsq107 81 (by omega)).trans hRs
      replace hEn := (hsq107 82 (by omega)).trans hEn
      replace hLe := (hsq107 83 (by omega)).trans hLe
      replace hMa := (hsq107 84 (by omega)).trans hMa
      replace hUn := (hsq107 88 (by omega)).trans hUn
      replace hRe := (hsq107 89 (by omega)).trans hRe
      replace hOt := (hsq107 90 (by omega)).trans hOt
      replace hIk := (hsq107 91 (by omega)).trans hIk
      replace hLa := (hsq107 92 (by omega)).trans hLa
      replace hLn := (hsq107 93 (by omega)).trans hLn
      replace hCe := (hsq107 94 (by omega)).trans hCe
      replace hF : ∀ j : Nat, j < 78 → Ew107 j = E0 j := fun j hj => (hsq107 j (by omega)).trans (hF j hj)
      refine J_goto (q := 114) X dX10_rule_110 (by decide) ?_
      refine J_iret X R dX10_rule_114 ?_
      first
        | (exfalso; omega)
        | (rw [hE0] at hF; have hq : qRule s w = smI (fun j => bI (bel s.f s.n w j)) s.n := (by unfold qRule; repeat (first | (rw [if_pos (by omega)]; done) | (rw [if_neg (by omega)]; done) | rw [if_neg (by omega)])); exact ⟨_, rfl, Eq.trans (hzq107) hq.symm, ⟨_, _, _, _, _, _, _, _, _, _, _, _, _, _, _, _, _, _, _, _, _, _, hM, hS, hTp, hRs, hEn, hLe, hMa, hPa, hAl, hHe, hUn, hRe, hOt, hIk, hLa, hLn, hCe, hMR⟩, hF⟩)
        | (rw [hE0] at hF; have hq : qRule s w = -1 := (by unfold qRule; repeat (first | (rw [if_pos (by omega)]; done) | (rw [if_neg (by omega)]; done) | rw [if_neg (by omega)])); exact ⟨_, rfl, Eq.trans (rfl) hq.symm, ⟨_, _, _, _, _, _, _, _, _, _, _, _, _, _, _, _, _, _, _, _, _, _, hM, hS, hTp, hRs, hEn, hLe, hMa, hPa, hAl, hHe, hUn, hRe, hOt, hIk, hLa, hLn, hCe, hMR⟩, hF⟩)
  · refine J_tableIn (tgt := 91) (v := 5) (off := 90) X dX10_rule_1 hsw (by decide) rfl (by decide) ?_
    refine J_iload_n (q := 92) X dX10_rule_91 rfl rfl ?_
    refine J_i2l (q := 93) X dX10_rule_92 rfl (by omega) ?_
    refine J_ldc2 (q := 96) X dX10_rule_93 kX10_168 rfl ?_
    refine J_ldc2 (q := 99) X dX10_rule_96 kX10_214 rfl ?_
    refine J_callP (q := 102) (jrS X mX10_61 dX10_rule_99 (c_X10_in (by omega) (by omega) (by omega)) rfl rfl (Nat.le_of_ble_eq_true rfl) (by decide)) rfl ?_
    refine J_if_eqB (q := 105) (tgt := 113) X dX10_rule_102 (by decide) rfl (fun cq102 => ?_) (fun cq102 => ?_)
    · refine J_iconst (q := 114) X dX10_rule_113 rfl ?_
      refine J_iret X R dX10_rule_114 ?_
      first
        | (exfalso; omega)
        | (rw [hE0] at hF; have hq : qRule s w = smI (fun j => bI (bel s.f s.n w j)) s.n := (by unfold qRule; repeat (first | (rw [if_pos (by omega)]; done) | (rw [if_neg (by omega)]; done) | rw [if_neg (by omega)])); exact ⟨_, rfl, Eq.trans (hzq107) hq.symm, ⟨_, _, _, _, _, _, _, _, _, _, _, _, _, _, _, _, _, _, _, _, _, _, hM, hS, hTp, hRs, hEn, hLe, hMa, hPa, hAl, hHe, hUn, hRe, hOt, hIk, hLa, hLn, hCe, hMR⟩, hF⟩)
        | (rw [hE0] at hF; have hq : qRule s w = -1 := (by unfold qRule; repeat (first | (rw [if_pos (by omega)]; done) | (rw [if_neg (by omega)]; done) | rw [if_neg (by omega)])); exact ⟨_, rfl, Eq.trans (rfl) hq.symm, ⟨_, _, _, _, _, _, _, _, _, _, _, _, _, _, _, _, _, _, _, _, _, _, hM, hS, hTp, hRs, hEn, hLe, hMa, hPa, hAl, hHe, hUn, hRe, hOt, hIk, hLa, hLn, hCe, hMR⟩, hF⟩)
    · refine J_aload_n (q := 106) X dX10_rule_105 rfl rfl ?_
      refine J_iload_n (q := 107) X dX10_rule_106 rfl rfl ?_
      refine J_callI (q := 110) (jrV X mX10_216 dX10_rule_107 (c_X10_counted hM hS hPa hAl hHe hg hv (by omega)) hM (by omega) rfl rfl rfl rfl (Nat.le_of_ble_eq_true rfl) (by decide)) rfl (fun zq107 Ew107 hpq107 => ?_)
      obtain ⟨hzq107, ⟨paq107, alq107, heq107, kPa, kAl, kHe⟩, hsq107⟩ := hpq107
      replace hPa := kPa
      replace hAl := kAl
      replace hHe := kHe
      replace hM := (hsq107 78 (by omega)).trans hM
      replace hS := (hsq107 79 (by omega)).trans hS
      replace hTp := (hsq107 80 (by omega)).trans hTp
      replace hRs := (hsq107 81 (by omega)).trans hRs
      replace hEn := (hsq107 82 (by omega)).trans hEn
      replace hLe := (hsq107 83 (by omega)).trans hLe
      replace hMa := (hsq107 84 (by omega)).trans hMa
      replace hUn := (hsq107 88 (by omega)).trans hUn
      replace hRe := (hsq107 89 (by omega)).trans hRe
      replace hOt := (hsq107 90 (by omega)).trans hOt
      replace hIk := (hsq107 91 (by omega)).trans hIk
      replace hLa := (hsq107 92 (by omega)).trans hLa
      replace hLn := (hsq107 93 (by omega)).trans hLn
      replace hCe := (hsq107 94 (by omega)).trans hCe
      replace hF : ∀ j : Nat, j < 78 → Ew107 j = E0 j := fun j hj => (hsq107 j (by omega)).trans (hF j hj)
      refine J_goto (q := 114) X dX10_rule_110 (by decide) ?_
      refine J_iret X R dX10_rule_114 ?_
      first
        | (exfalso; omega)
        | (rw [hE0] at hF; have hq : qRule s w = smI (fun j => bI (bel s.f s.n w j)) s.n := (by unfold qRule; repeat (first | (rw [if_pos (by omega)]; done) | (rw [if_neg (by omega)]; done) | rw [if_neg (by omega)])); exact ⟨_, rfl, Eq.trans (hzq107) hq.symm, ⟨_, _, _, _, _, _, _, _, _, _, _, _, _, _, _, _, _, _, _, _, _, _, hM, hS, hTp, hRs, hEn, hLe, hMa, hPa, hAl, hHe, hUn, hRe, hOt, hIk, hLa, hLn, hCe, hMR⟩, hF⟩)
        | (rw [hE0] at hF; have hq : qRule s w = -1 := (by unfold qRule; repeat (first | (rw [if_pos (by omega)]; done) | (rw [if_neg (by omega)]; done) | rw [if_neg (by omega)])); exact ⟨_, rfl, Eq.trans (rfl) hq.symm, ⟨_, _, _, _, _, _, _, _, _, _, _, _, _, _, _, _, _, _, _, _, _, _, hM, hS, hTp, hRs, hEn, hLe, hMa, hPa, hAl, hHe, hUn, hRe, hOt, hIk, hLa, hLn, hCe, hMR⟩, hF⟩)
  · refine J_tableIn (tgt := 91) (v := 6) (off := 90) X dX10_rule_1 hsw (by decide) rfl (by decide) ?_
    refine J_iload_n (q := 92) X dX10_rule_91 rfl rfl ?_
    refine J_i2l (q := 93) X dX10_rule_92 rfl (by omega) ?_
    refine J_ldc2 (q := 96) X dX10_rule_93 kX10_168 rfl ?_
    refine J_ldc2 (q := 99) X dX10_rule_96 kX10_214 rfl ?_
    refine J_callP (q := 102) (jrS X mX10_61 dX10_rule_99 (c_X10_in (by omega) (by omega) (by omega)) rfl rfl (Nat.le_of_ble_eq_true rfl) (by decide)) rfl ?_
    refine J_if_eqB (q := 105) (tgt := 113) X dX10_rule_102 (by decide) rfl (fun cq102 => ?_) (fun cq102 => ?_)
    · refine J_iconst (q := 114) X dX10_rule_113 rfl ?_
      refine J_iret X R dX10_rule_114 ?_
      first
        | (exfalso; omega)
        | (rw [hE0] at hF; have hq : qRule s w = smI (fun j => bI (bel s.f s.n w j)) s.n := (by unfold qRule; repeat (first | (rw [if_pos (by omega)]; done) | (rw [if_neg (by omega)]; done) | rw [if_neg (by omega)])); exact ⟨_, rfl, Eq.trans (hzq107) hq.symm, ⟨_, _, _, _, _, _, _, _, _, _, _, _, _, _, _, _, _, _, _, _, _, _, hM, hS, hTp, hRs, hEn, hLe, hMa, hPa, hAl, hHe, hUn, hRe, hOt, hIk, hLa, hLn, hCe, hMR⟩, hF⟩)
        | (rw [hE0] at hF; have hq : qRule s w = -1 := (by unfold qRule; repeat (first | (rw [if_pos (by omega)]; done) | (rw [if_neg (by omega)]; done) | rw [if_neg (by omega)])); exact ⟨_, rfl, Eq.trans (rfl) hq.symm, ⟨_, _, _, _, _, _, _, _, _, _, _, _, _, _, _, _, _, _, _, _, _, _, hM, hS, hTp, hRs, hEn, hLe, hMa, hPa, hAl, hHe, hUn, hRe, hOt, hIk, hLa, hLn, hCe, hMR⟩, hF⟩)
    · refine J_aload_n (q := 106) X dX10_rule_105 rfl rfl ?_
      refine J_iload_n (q := 107) X dX10_rule_106 rfl rfl ?_
      refine J_callI (q := 110) (jrV X mX10_216 dX10_rule_107 (c_X10_counted hM hS hPa hAl hHe hg hv (by omega)) hM (by omega) rfl rfl rfl rfl (Nat.le_of_ble_eq_true rfl) (by decide)) rfl (fun zq107 Ew107 hpq107 => ?_)
      obtain ⟨hzq107, ⟨paq107, alq107, heq107, kPa, kAl, kHe⟩, hsq107⟩ := hpq107
      replace hPa := kPa
      replace hAl := kAl
      replace hHe := kHe
      replace hM := (hsq107 78 (by omega)).trans hM
      replace hS := (hsq107 79 (by omega)).trans hS
      replace hTp := (hsq107 80 (by omega)).trans hTp
      replace hRs := (hsq107 81 (by omega)).trans hRs
      replace hEn := (hsq107 82 (by omega)).trans hEn
      replace hLe := (hsq107 83 (by omega)).trans hLe
      replace hMa := (hsq107 84 (by omega)).trans hMa
      replace hUn := (hsq107 88 (by omega)).trans hUn
      replace hRe := (hsq107 89 (by omega)).trans hRe
      replace hOt := (hsq107 90 (by omega)).trans hOt
      replace hIk := (hsq107 91 (by omega)).trans hIk
      replace hLa := (hsq107 92 (by omega)).trans hLa
      replace hLn := (hsq107 93 (by omega)).trans hLn
      replace hCe := (hsq107 94 (by omega)).trans hCe
      replace hF : ∀ j : Nat, j < 78 → Ew107 j = E0 j := fun j hj => (hsq107 j (by omega)).trans (hF j hj)
      refine J_goto (q := 114) X dX10_rule_110 (by decide) ?_
      refine J_iret X R dX10_rule_114 ?_
      first
        | (exfalso; omega)
        | (rw [hE0] at hF; have hq : qRule s w = smI (fun j => bI (bel s.f s.n w j)) s.n := (by unfold qRule; repeat (first | (rw [if_pos (by omega)]; done) | (rw [if_neg (by omega)]; done) | rw [if_neg (by omega)])); exact ⟨_, rfl, Eq.trans (hzq107) hq.symm, ⟨_, _, _, _, _, _, _, _, _, _, _, _, _, _, _, _, _, _, _, _, _, _, hM, hS, hTp, hRs, hEn, hLe, hMa, hPa, hAl, hHe, hUn, hRe, hOt, hIk, hLa, hLn, hCe, hMR⟩, hF⟩)
        | (rw [hE0] at hF; have hq : qRule s w = -1 := (by unfold qRule; repeat (first | (rw [if_pos (by omega)]; done) | (rw [if_neg (by omega)]; done) | rw [if_neg (by omega)])); exact ⟨_, rfl, Eq.trans (rfl) hq.symm, ⟨_, _, _, _, _, _, _, _, _, _, _, _, _, _, _, _, _, _, _, _, _, _, hM, hS, hTp, hRs, hEn, hLe, hMa, hPa, hAl, hHe, hUn, hRe, hOt, hIk, hLa, hLn, hCe, hMR⟩, hF⟩)
  · refine J_tableIn (tgt := 91) (v := 7) (off := 90) X dX10_rule_1 hsw (by decide) rfl (by decide) ?_
    refine J_iload_n (q := 92) X dX10_rule_91 rfl rfl ?_
    refine J_i2l (q := 93) X dX10_rule_92 rfl (by omega) ?_
    refine J_ldc2 (q := 96) X dX10_rule_93 kX10_168 rfl ?_
    refine J_ldc2 (q := 99) X dX10_rule_96 kX10_214 rfl ?_
    refine J_callP (q := 102) (jrS X mX10_61 dX10_rule_99 (c_X10_in (by omega) (by omega) (by omega)) rfl rfl (Nat.le_of_ble_eq_true rfl) (by decide)) rfl ?_
    refine J_if_eqB (q := 105) (tgt := 113) X dX10_rule_102 (by decide) rfl (fun cq102 => ?_) (fun cq102 => ?_)
    · refine J_iconst (q := 114) X dX10_rule_113 rfl ?_
      refine J_iret X R dX10_rule_114 ?_
      first
        | (exfalso; omega)
        | (rw [hE0] at hF; have hq : qRule s w = smI (fun j => bI (bel s.f s.n w j)) s.n := (by unfold qRule; repeat (first | (rw [if_pos (by omega)]; done) | (rw [if_neg (by omega)]; done) | rw [if_neg (by omega)])); exact ⟨_, rfl, Eq.trans (hzq107) hq.symm, ⟨_, _, _, _, _, _, _, _, _, _, _, _, _, _, _, _, _, _, _, _, _, _, hM, hS, hTp, hRs, hEn, hLe, hMa, hPa, hAl, hHe, hUn, hRe, hOt, hIk, hLa, hLn, hCe, hMR⟩, hF⟩)
        | (rw [hE0] at hF; have hq : qRule s w = -1 := (by unfold qRule; repeat (first | (rw [if_pos (by omega)]; done) | (rw [if_neg (by omega)]; done) | rw [if_neg (by omega)])); exact ⟨_, rfl, Eq.trans (rfl) hq.symm, ⟨_, _, _, _, _, _, _, _, _, _, _, _, _, _, _, _, _, _, _, _, _, _, hM, hS, hTp, hRs, hEn, hLe, hMa, hPa, hAl, hHe, hUn, hRe, hOt, hIk, hLa, hLn, hCe, hMR⟩, hF⟩)
    · refine J_aload_n (q := 106) X dX10_rule_105 rfl rfl ?_
      refine J_iload_n (q := 107) X dX10_rule_106 rfl rfl ?_
      refine J_callI (q := 110) (jrV X mX10_216 dX10_rule_107 (c_X10_counted hM hS hPa hAl hHe hg hv (by omega)) hM (by omega) rfl rfl rfl rfl (Nat.le_of_ble_eq_true rfl) (by decide)) rfl (fun zq107 Ew107 hpq107 => ?_)
      obtain ⟨hzq107, ⟨paq107, alq107, heq107, kPa, kAl, kHe⟩, hsq107⟩ := hpq107
      replace hPa := kPa
      replace hAl := kAl
      replace hHe := kHe
      replace hM := (hsq107 78 (by omega)).trans hM
      replace hS := (hsq107 79 (by omega)).trans hS
      replace hTp := (hsq107 80 (by omega)).trans hTp
      replace hRs := (hsq107 81 (by omega)).trans hRs
      replace hEn := (hsq107 82 (by omega)).trans hEn
      replace hLe := (hsq107 83 (by omega)).trans hLe
      replace hMa := (hsq107 84 (by omega)).trans hMa
      replace hUn := (hsq107 88 (by omega)).trans hUn
      replace hRe := (hsq107 89 (by omega)).trans hRe
      replace hOt := (hsq107 90 (by omega)).trans hOt
      replace hIk := (hsq107 91 (by omega)).trans hIk
      replace hLa := (hsq107 92 (by omega)).trans hLa
      replace hLn := (hsq107 93 (by omega)).trans hLn
      replace hCe := (hsq107 94 (by omega)).trans hCe
      replace hF : ∀ j : Nat, j < 78 → Ew107 j = E0 j := fun j hj => (hsq107 j (by omega)).trans (hF j hj)
      refine J_goto (q := 114) X dX10_rule_110 (by decide) ?_
      refine J_iret X R dX10_rule_114 ?_
      first
        | (exfalso; omega)
        | (rw [hE0] at hF; have hq : qRule s w = smI (fun j => bI (bel s.f s.n w j)) s.n := (by unfold qRule; repeat (first | (rw [if_pos (by omega)]; done) | (rw [if_neg (by omega)]; done) | rw [if_neg (by omega)])); exact ⟨_, rfl, Eq.trans (hzq107) hq.symm, ⟨_, _, _, _, _, _, _, _, _, _, _, _, _, _, _, _, _, _, _, _, _, _, hM, hS, hTp, hRs, hEn, hLe, hMa, hPa, hAl, hHe, hUn, hRe, hOt, hIk, hLa, hLn, hCe, hMR⟩, hF⟩)
        | (rw [hE0] at hF; have hq : qRule s w = -1 := (by unfold qRule; repeat (first | (rw [if_pos (by omega)]; done) | (rw [if_neg (by omega)]; done) | rw [if_neg (by omega)])); exact ⟨_, rfl, Eq.trans (rfl) hq.symm, ⟨_, _, _, _, _, _, _, _, _, _, _, _, _, _, _, _, _, _, _, _, _, _, hM, hS, hTp, hRs, hEn, hLe, hMa, hPa, hAl, hHe, hUn, hRe, hOt, hIk, hLa, hLn, hCe, hMR⟩, hF⟩)
  · refine J_tableIn (tgt := 76) (v := 8) (off := 75) X dX10_rule_1 hsw (by decide) rfl (by decide) ?_
    refine J_aload_n (q := 77) X dX10_rule_76 rfl rfl ?_
    refine J_get (q := 80) X dX10_rule_77 fX10_159 hM (by omega) rfl rfl ?_
    refine J_iret X R dX10_rule_80 ?_
    rw [hE0] at hF
    have hq : qRule s w = s.p := (by unfold qRule; repeat (first | (rw [if_pos (by omega)]; done) | (rw [if_neg (by omega)]; done) | rw [if_neg (by omega)]))
    exact ⟨_, rfl, Eq.trans (rfl) hq.symm, ⟨_, _, _, _, _, _, _, _, _, _, _, _, _, _, _, _, _, _, _, _, _, _, hM, hS, hTp, hRs, hEn, hLe, hMa, hPa, hAl, hHe, hUn, hRe, hOt, hIk, hLa, hLn, hCe, hMR⟩, hF⟩
  · refine J_tableIn (tgt := 81) (v := 9) (off := 80) X dX10_rule_1 hsw (by decide) rfl (by decide) ?_
    refine J_aload_n (q := 82) X dX10_rule_81 rfl rfl ?_
    refine J_get (q := 85) X dX10_rule_82 fX10_162 hM (by omega) rfl rfl ?_
    refine J_iret X R dX10_rule_85 ?_
    rw [hE0] at hF
    have hq : qRule s w = s.a := (by unfold qRule; repeat (first | (rw [if_pos (by omega)]; done) | (rw [if_neg (by omega)]; done) | rw [if_neg (by omega)]))
    exact ⟨_, rfl, Eq.trans (rfl) hq.symm, ⟨_, _, _, _, _, _, _, _, _, _, _, _, _, _, _, _, _, _, _, _, _, _, hM, hS, hTp, hRs, hEn, hLe, hMa, hPa, hAl, hHe, hUn, hRe, hOt, hIk, hLa, hLn, hCe, hMR⟩, hF⟩
  · refine J_tableIn (tgt := 86) (v := 10) (off := 85) X dX10_rule_1 hsw (by decide) rfl (by decide) ?_
    refine J_aload_n (q := 87) X dX10_rule_86 rfl rfl ?_
    refine J_callI (q := 90) (jrV X mX10_211 dX10_rule_87 (c_X10_greatestLevel hM hS hPa hAl hHe hg hv) hM (by omega) rfl rfl rfl rfl (Nat.le_of_ble_eq_true rfl) (by decide)) rfl (fun zq87 Ew87 hpq87 => ?_)
    obtain ⟨hzq87, ⟨paq87, alq87, heq87, kPa, kAl, kHe⟩, hsq87⟩ := hpq87
    replace hPa := kPa
    replace hAl := kAl
    replace hHe := kHe
    replace hM := (hsq87 78 (by omega)).trans hM
    replace hS := (hsq87 79 (by omega)).trans hS
    replace hTp := (hsq87 80 (by omega)).trans hTp
    replace hRs := (hsq87 81 (by omega)).trans hRs
    replace hEn := (hsq87 82 (by omega)).trans hEn
    replace hLe := (hsq87 83 (by omega)).trans hLe
    replace hMa := (hsq87 84 (by omega)).trans hMa
    replace hUn := (hsq87 88 (by omega)).trans hUn
    replace hRe := (hsq87 89 (by omega)).trans hRe
    replace hOt := (hsq87 90 (by omega)).trans hOt
    replace hIk := (hsq87 91 (by omega)).trans hIk
    replace hLa := (hsq87 92 (by omega)).trans hLa
    replace hLn := (hsq87 93 (by omega)).trans hLn
    replace hCe := (hsq87 94 (by omega)).trans hCe
    replace hF : ∀ j : Nat, j < 78 → Ew87 j = E0 j := fun j hj => (hsq87 j (by omega)).trans (hF j hj)
    refine J_iret X R dX10_rule_90 ?_
    rw [hE0] at hF
    have hq : qRule s w = mx (lvl s.f s.n) s.n.toNat := (by unfold qRule; repeat (first | (rw [if_pos (by omega)]; done) | (rw [if_neg (by omega)]; done) | rw [if_neg (by omega)]))
    exact ⟨_, rfl, Eq.trans (hzq87) hq.symm, ⟨_, _, _, _, _, _, _, _, _, _, _, _, _, _, _, _, _, _, _, _, _, _, hM, hS, hTp, hRs, hEn, hLe, hMa, hPa, hAl, hHe, hUn, hRe, hOt, hIk, hLa, hLn, hCe, hMR⟩, hF⟩

set_option maxRecDepth 100000 in
set_option maxHeartbeats 4000000 in
theorem c_X10_sign {l : Launch} {Γ : JG} {ad : Nat → Nat} {E : Nat → va_E} {s : KS} {i w : Int} (hc : MI Γ ad E s) (hk : KV s) (hbi : -2147483648 ≤ i ∧ i < 2147483648) (hbw : -2147483648 ≤ w ∧ w < 2147483648) : JM l Γ yX10_sign cX10_sign 3 (some .int) 3 68 0 0 ad 95 E [.ref (ad 78), .int (jI i), .int (jI w)] (pI (fun z E' => z = qSign s i w ∧ MI Γ ad E' s ∧ ∀ j : Nat, j < 78 → E' j = E j)) := by
  refine JM_intro (own := RX10) [some (.ref (ad 78)), some (.int (jI i)), some (.int (jI w))] rfl rfl rfl (Nat.le_of_ble_eq_true rfl) ?_
  intro Ω X R hin
  obtain ⟨E0, hE0⟩ : ∃ E0 : Nat → va_E, E0 = E := ⟨_, rfl⟩
  have hF : ∀ j : Nat, j < 78 → E j = E0 j := fun _ _ => by rw [hE0]
  obtain ⟨m2, m3, m4, m5, m6, m7, m8, m9, m10, m11, g, rs, ma, pa, al, he, un, re, ot, ln, lg, ce, hM, hS, hTp, hRs, hEn, hLe, hMa, hPa, hAl, hHe, hUn, hRe, hOt, hIk, hLa, hLn, hCe, hMR⟩ := id hc
  obtain ⟨hg, him, hrs, hun, hre, hsh⟩ := id hMR
  obtain ⟨hk0, hnow⟩ := id hk
  have hv := hk0.hv
  obtain ⟨hn, hvr⟩ := id hv
  obtain ⟨hgn, hgf⟩ := id hg
  have ho := hk0.ho
  have htb := hk0.htb
  obtain ⟨htl, -⟩ := id htb
  have hb := hk0.hb
  refine J_aload_n (q := 1) X dX10_sign_0 rfl rfl ?_
  refine J_iload_n (q := 2) X dX10_sign_1 rfl rfl ?_
  refine J_callP (q := 5) (jrV X mX10_219 dX10_sign_2 (c_X10_isThere hM hS hg hv (by omega)) hM (by omega) rfl rfl rfl rfl (Nat.le_of_ble_eq_true rfl) (by decide)) rfl ?_
  refine J_if_neB (q := 8) (tgt := 10) X dX10_sign_5 (by decide) rfl (fun cq5 => ?_) (fun cq5 => ?_)
  · refine J_aload_n (q := 11) X dX10_sign_10 rfl rfl ?_
    refine J_callV (q := 14) (jrV X mX10_198 dX10_sign_11 (c_X10_findsAll hM hS hPa hAl hHe hg hv) hM (by omega) rfl rfl rfl rfl (Nat.le_of_ble_eq_true rfl) (by decide)) rfl (fun Ew11 hpq11 => ?_)
    obtain ⟨paq11, alq11, heq11, kPa, kAl, kHe, hpaq11, halq11, hsq11⟩ := hpq11
    replace hPa := kPa
    replace hAl := kAl
    replace hHe := kHe
    have hpa := hpaq11
    have hal := halq11
    replace hM := (hsq11 78 (by omega)).trans hM
    replace hS := (hsq11 79 (by omega)).trans hS
    replace hTp := (hsq11 80 (by omega)).trans hTp
    replace hRs := (hsq11 81 (by omega)).trans hRs
    replace hEn := (hsq11 82 (by omega)).trans hEn
    replace hLe := (hsq11 83 (by omega)).trans hLe
    replace hMa := (hsq11 84 (by omega)).trans hMa
    replace hUn := (hsq11 88 (by omega)).trans hUn
    replace hRe := (hsq11 89 (by omega)).trans hRe
    replace hOt := (hsq11 90 (by omega)).trans hOt
    replace hIk := (hsq11 91 (by omega)).trans hIk
    replace hLa := (hsq11 92 (by omega)).trans hLa
    replace hLn := (hsq11 93 (by omega)).trans hLn
    replace hCe := (hsq11 94 (by omega)).trans hCe
    replace hF : ∀ j : Nat, j < 78 → Ew11 j = E0 j := fun j hj => (hsq11 j (by omega)).trans (hF j hj)
    refine J_iload_n (q := 15) X dX10_sign_14 rfl rfl ?_
    rcases (show (w < 0 ∨ 8 < w) ∨ w = 0 ∨ w = 1 ∨ w = 2 ∨ w = 3 ∨ w = 4 ∨ w = 5 ∨ w = 6 ∨ w = 7 ∨ w = 8 by omega) with hsw | hsw | hsw | hsw | hsw | hsw | hsw | hsw | hsw | hsw
    · refine J_tableOut (tgt := 144) X dX10_sign_15 (by omega) hsw (by decide) ?_
      refine J_iconst (q := 145) X dX10_sign_144 rfl ?_
      refine J_iret X R dX10_sign_145 ?_
      rw [hE0] at hF
      have hq : qSign s i w = -1 := (by unfold qSign; repeat (first | (rw [if_pos (by omega)]; done) | (rw [if_neg (by omega)]; done) | rw [if_neg (by omega)]))
      exact ⟨_, rfl, Eq.trans (rfl) hq.symm, ⟨_, _, _, _, _, _, _, _, _, _, _, _, _, _, _, _, _, _, _, _, _, _, hM, hS, hTp, hRs, hEn, hLe, hMa, hPa, hAl, hHe, hUn, hRe, hOt, hIk, hLa, hLn, hCe, hMR⟩, hF⟩
    · refine J_tableIn (tgt := 64) (v := 0) (off := 49) X dX10_sign_15 hsw (by decide) rfl (by decide) ?_
      refine J_aload_n (q := 65) X dX10_sign_64 rfl rfl ?_
      refine J_iload_n (q := 66) X dX10_sign_65 rfl rfl ?_
      refine J_callP (q := 69) (jrV X mX10_170 dX10_sign_66 (c_X10_signAt hM hS hg hv (by omega)) hM (by omega) rfl rfl rfl rfl (Nat.le_of_ble_eq_true rfl) (by decide)) rfl ?_
      refine J_iret X R dX10_sign_69 ?_
      rw [hE0] at hF
      have hq : qSign s i w = s.f i % 128 := (by unfold qSign; repeat (first | (rw [if_pos (by omega)]; done) | (rw [if_neg (by omega)]; done) | rw [if_neg (by omega)]))
      exact ⟨_, rfl, Eq.trans (rfl) hq.symm, ⟨_, _, _, _, _, _, _, _, _, _, _, _, _, _, _, _, _, _, _, _, _, _, hM, hS, hTp, hRs, hEn, hLe, hMa, hPa, hAl, hHe, hUn, hRe, hOt, hIk, hLa, hLn, hCe, hMR⟩, hF⟩
    · refine J_tableIn (tgt := 70) (v := 1) (off := 55) X dX10_sign_15 hsw (by decide) rfl (by decide) ?_
      refine J_aload_n (q := 71) X dX10_sign_70 rfl rfl ?_
      refine J_iload_n (q := 72) X dX10_sign_71 rfl rfl ?_
      refine J_callP (q := 75) (jrV X mX10_222 dX10_sign_72 (c_X10_depthAt hM hS hg hv (by omega)) hM (by omega) rfl rfl rfl rfl (Nat.le_of_ble_eq_true rfl) (by decide)) rfl ?_
      refine J_iret X R dX10_sign_75 ?_
      rw [hE0] at hF
      have hq : qSign s i w = dep s.f i := (by unfold qSign; repeat (first | (rw [if_pos (by omega)]; done) | (rw [if_neg (by omega)]; done) | rw [if_neg (by omega)]))
      exact ⟨_, rfl, Eq.trans (rfl) hq.symm, ⟨_, _, _, _, _, _, _, _, _, _, _, _, _, _, _, _, _, _, _, _, _, _, hM, hS, hTp, hRs, hEn, hLe, hMa, hPa, hAl, hHe, hUn, hRe, hOt, hIk, hLa, hLn, hCe, hMR⟩, hF⟩
    · refine J_tableIn (tgt := 76) (v := 2) (off := 61) X dX10_sign_15 hsw (by decide) rfl (by decide) ?_
      refine J_aload_n (q := 77) X dX10_sign_76 rfl rfl ?_
      refine J_iload_n (q := 78) X dX10_sign_77 rfl rfl ?_
      refine J_callP (q := 81) (jrV X mX10_205 dX10_sign_78 (c_X10_levelOf hM hS hPa hg hv hpa (by omega)) hM (by omega) rfl rfl rfl rfl (Nat.le_of_ble_eq_true rfl) (by decide)) rfl ?_
      refine J_iret X R dX10_sign_81 ?_
      rw [hE0] at hF
      have hq : qSign s i w = lvl s.f s.n i := (by unfold qSign; repeat (first | (rw [if_pos (by omega)]; done) | (rw [if_neg (by omega)]; done) | rw [if_neg (by omega)]))
      exact ⟨_, rfl, Eq.trans (rfl) hq.symm, ⟨_, _, _, _, _, _, _, _, _, _, _, _, _, _, _, _, _, _, _, _, _, _, hM, hS, hTp, hRs, hEn, hLe, hMa, hPa, hAl, hHe, hUn, hRe, hOt, hIk, hLa, hLn, hCe, hMR⟩, hF⟩
    · refine J_tableIn (tgt := 82) (v := 3) (off := 67) X dX10_sign_15 hsw (by decide) rfl (by decide) ?_
      refine J_aload_n (q := 83) X dX10_sign_82 rfl rfl ?_
      refine J_get (q := 86) X dX10_sign_83 fX10_28 hM (by omega) rfl rfl ?_
      refine J_iload_n (q := 87) X dX10_sign_86 rfl rfl ?_
      refine J_iald (q := 88) X dX10_sign_87 hPa (by omega) (by omega) (by decide) rfl ?_
      refine J_iret X R dX10_sign_88 ?_
      rw [hE0] at hF
      have hq : qSign s i w = prt 3 s.f s.n i := (by unfold qSign; repeat (first | (rw [if_pos (by omega)]; done) | (rw [if_neg (by omega)]; done) | rw [if_neg (by omega)]))
      exact ⟨_, rfl, Eq.trans (hpa i (by omega) (by omega)) hq.symm, ⟨_, _, _, _, _, _, _, _, _, _, _, _, _, _, _, _, _, _, _, _, _, _, hM, hS, hTp, hRs, hEn, hLe, hMa, hPa, hAl, hHe, hUn, hRe, hOt, hIk, hLa, hLn, hCe, hMR⟩, hF⟩
    · refine J_tableIn (tgt := 89) (v := 4) (off := 74) X dX10_sign_15 hsw (by decide) rfl (by decide) ?_
      refine J_aload_n (q := 90) X dX10_sign_89 rfl rfl ?_
      refine J_get (q := 93) X dX10_sign_90 fX10_31 hM (by omega) rfl rfl ?_
      refine J_iload_n (q := 94) X dX10_sign_93 rfl rfl ?_
      refine J_iald (q := 95) X dX10_sign_94 hAl (by omega) (by omega) (by decide) rfl ?_
      refine J_iret X R dX10_sign_95 ?_
      rw [hE0] at hF
      have hq : qSign s i w = alF s.f s.n i := (by unfold qSign; repeat (first | (rw [if_pos (by omega)]; done) | (rw [if_neg (by omega)]; done) | rw [if_neg (by omega)]))
      exact ⟨_, rfl, Eq.trans (hal i (by omega) (by omega)) hq.symm, ⟨_, _, _, _, _, _, _, _, _, _, _, _, _, _, _, _, _, _, _, _, _, _, hM, hS, hTp, hRs, hEn, hLe, hMa, hPa, hAl, hHe, hUn, hRe, hOt, hIk, hLa, hLn, hCe, hMR⟩, hF⟩
    · refine J_tableIn (tgt := 96) (v := 5) (off := 81) X dX10_sign_15 hsw (by decide) rfl (by decide) ?_
      refine J_aload_n (q := 97) X dX10_sign_96 rfl rfl ?_
      refine J_iload_n (q := 98) X dX10_sign_97 rfl rfl ?_
      refine J_callP (q := 101) (jrV X mX10_192 dX10_sign_98 (c_X10_isClashing hM hS hPa hg hv hpa (by omega)) hM (by omega) rfl rfl rfl rfl (Nat.le_of_ble_eq_true rfl) (by decide)) rfl ?_
      refine J_if_eqB (q := 104) (tgt := 108) X dX10_sign_101 (by decide) rfl (fun cq101 => ?_) (fun cq101 => ?_)
      · refine J_iconst (q := 109) X dX10_sign_108 rfl ?_
        refine J_iret X R dX10_sign_109 ?_
        rw [hE0] at hF
        have hq : qSign s i w = bI (cla s.f s.n i) := (by unfold qSign; repeat (first | (rw [if_pos (by omega)]; done) | (rw [if_neg (by omega)]; done) | rw [if_neg (by omega)]))
        exact ⟨_, rfl, Eq.trans (by first | (rw [bI_t cq101]; done) | (rw [bI_f cq101]; done)) hq.symm, ⟨_, _, _, _, _, _, _, _, _, _, _, _, _, _, _, _, _, _, _, _, _, _, hM, hS, hTp, hRs, hEn, hLe, hMa, hPa, hAl, hHe, hUn, hRe, hOt, hIk, hLa, hLn, hCe, hMR⟩, hF⟩
      · refine J_iconst (q := 105) X dX10_sign_104 rfl ?_
        refine J_goto (q := 109) X dX10_sign_105 (by decide) ?_
        refine J_iret X R dX10_sign_109 ?_
        rw [hE0] at hF
        have hq : qSign s i w = bI (cla s.f s.n i) := (by unfold qSign; repeat (first | (rw [if_pos (by omega)]; done) | (rw [if_neg (by omega)]; done) | rw [if_neg (by omega)]))
        exact ⟨_, rfl, Eq.trans (by first | (rw [bI_t cq101]; done) | (rw [bI_f cq101]; done)) hq.symm, ⟨_, _, _, _, _, _, _, _, _, _, _, _, _, _, _, _, _, _, _, _, _, _, hM, hS, hTp, hRs, hEn, hLe, hMa, hPa, hAl, hHe, hUn, hRe, hOt, hIk, hLa, hLn, hCe, hMR⟩, hF⟩
    · refine J_tableIn (tgt := 110) (v := 6) (off := 95) X dX10_sign_15 hsw (by decide) rfl (by decide) ?_
      refine J_aload_n (q := 111) X dX10_sign_110 rfl rfl ?_
      refine J_iload_n (q := 112) X dX10_sign_111 rfl rfl ?_
      refine J_callP (q := 115) (jrV X mX10_180 dX10_sign_112 (c_X10_isMarked hM hS hg hv (by omega)) hM (by omega) rfl rfl rfl rfl (Nat.le_of_ble_eq_true rfl) (by decide)) rfl ?_
      refine J_if_eqB (q := 118) (tgt := 122) X dX10_sign_115 (by decide) rfl (fun cq115 => ?_) (fun cq115 => ?_)
      · refine J_iconst (q := 123) X dX10_sign_122 rfl ?_
        refine J_iret X R dX10_sign_123 ?_
        rw [hE0] at hF
        have hq : qSign s i w = bI (128 ≤ s.f i) := (by unfold qSign; repeat (first | (rw [if_pos (by omega)]; done) | (rw [if_neg (by omega)]; done) | rw [if_neg (by omega)]))
        exact ⟨_, rfl, Eq.trans (by first | (rw [bI_t cq115]; done) | (rw [bI_f cq115]; done)) hq.symm, ⟨_, _, _, _, _, _, _, _, _, _, _, _, _, _, _, _, _, _, _, _, _, _, hM, hS, hTp, hRs, hEn, hLe, hMa, hPa, hAl, hHe, hUn, hRe, hOt, hIk, hLa, hLn, hCe, hMR⟩, hF⟩
      · refine J_iconst (q := 119) X dX10_sign_118 rfl ?_
        refine J_goto (q := 123) X dX10_sign_119 (by decide) ?_
        refine J_iret X R dX10_sign_123 ?_
        rw [hE0] at hF
        have hq : qSign s i w = bI (128 ≤ s.f i) := (by unfold qSign; repeat (first | (rw [if_pos (by omega)]; done) | (rw [if_neg (by omega)]; done) | rw [if_neg (by omega)]))
        exact ⟨_, rfl, Eq.trans (by first | (rw [bI_t cq115]; done) | (rw [bI_f cq115]; done)) hq.symm, ⟨_, _, _, _, _, _, _, _, _, _, _, _, _, _, _, _, _, _, _, _, _, _, hM, hS, hTp, hRs, hEn, hLe, hMa, hPa, hAl, hHe, hUn, hRe, hOt, hIk, hLa, hLn, hCe, hMR⟩, hF⟩
    · refine J_tableIn (tgt := 124) (v := 7) (off := 109) X dX10_sign_15 hsw (by decide) rfl (by decide) ?_
      refine J_aload_n (q := 125) X dX10_sign_124 rfl rfl ?_
      refine J_iload_n (q := 126) X dX10_sign_125 rfl rfl ?_
      refine J_callP (q := 129) (jrV X mX10_195 dX10_sign_126 (c_X10_isHidden hM hS hPa hg hv hpa (by omega)) hM (by omega) rfl rfl rfl rfl (Nat.le_of_ble_eq_true rfl) (by decide)) rfl ?_
      refine J_if_eqB (q := 132) (tgt := 136) X dX10_sign_129 (by decide) rfl (fun cq129 => ?_) (fun cq129 => ?_)
      · refine J_iconst (q := 137) X dX10_sign_136 rfl ?_
        refine J_iret X R dX10_sign_137 ?_
        rw [hE0] at hF
        have hq : qSign s i w = bI (hid s.f s.n i) := (by unfold qSign; repeat (first | (rw [if_pos (by omega)]; done) | (rw [if_neg (by omega)]; done) | rw [if_neg (by omega)]))
        exact ⟨_, rfl, Eq.trans (by first | (rw [bI_t cq129]; done) | (rw [bI_f cq129]; done)) hq.symm, ⟨_, _, _, _, _, _, _, _, _, _, _, _, _, _, _, _, _, _, _, _, _, _, hM, hS, hTp, hRs, hEn, hLe, hMa, hPa, hAl, hHe, hUn, hRe, hOt, hIk, hLa, hLn, hCe, hMR⟩, hF⟩
      · refine J_iconst (q := 133) X dX10_sign_132 rfl ?_
        refine J_goto (q := 137) X dX10_sign_133 (by decide) ?_
        refine J_iret X R dX10_sign_137 ?_
        rw [hE0] at hF
        have hq : qSign s i w = bI (hid s.f s.n i) := (by unfold qSign; repeat (first | (rw [if_pos (by omega)]; done) | (rw [if_neg (by omega)]; done) | rw [if_neg (by omega)]))
        exact ⟨_, rfl, Eq.trans (by first | (rw [bI_t cq129]; done) | (rw [bI_f cq129]; done)) hq.symm, ⟨_, _, _, _, _, _, _, _, _, _, _, _, _, _, _, _, _, _, _, _, _, _, hM, hS, hTp, hRs, hEn, hLe, hMa, hPa, hAl, hHe, hUn, hRe, hOt, hIk, hLa, hLn, hCe, hMR⟩, hF⟩
    · refine J_tableIn (tgt := 138) (v := 8) (off := 123) X dX10_sign_15 hsw (by decide) rfl (by decide) ?_
      refine J_aload_n (q := 139) X dX10_sign_138 rfl rfl ?_
      refine J_iload_n (q := 140) X dX10_sign_139 rfl rfl ?_
      refine J_callP (q := 143) (jrV X mX10_208 dX10_sign_140 (c_X10_linesTo hM hS hg hv (by omega)) hM (by omega) rfl rfl rfl rfl (Nat.le_of_ble_eq_true rfl) (by decide)) rfl ?_
      refine J_iret X R dX10_sign_143 ?_
      rw [hE0] at hF
      have hq : qSign s i w = lin s.f i := (by unfold qSign; repeat (first | (rw [if_pos (by omega)]; done) | (rw [if_neg (by omega)]; done) | rw [if_neg (by omega)]))
      exact ⟨_, rfl, Eq.trans (rfl) hq.symm, ⟨_, _, _, _, _, _, _, _, _, _, _, _, _, _, _, _, _, _, _, _, _, _, hM, hS, hTp, hRs, hEn, hLe, hMa, hPa, hAl, hHe, hUn, hRe, hOt, hIk, hLa, hLn, hCe, hMR⟩, hF⟩
  · refine J_iconst (q := 9) X dX10_sign_8 rfl ?_
    refine J_iret X R dX10_sign_9 ?_
    rw [hE0] at hF
    have hq : qSign s i w = -1 := (by unfold qSign; repeat (first | (rw [if_pos (by omega)]; done) | (rw [if_neg (by omega)]; done) | rw [if_neg (by omega)]))
    exact ⟨_, rfl, Eq.trans (rfl) hq.symm, ⟨_, _, _, _, _, _, _, _, _, _, _, _, _, _, _, _, _, _, _, _, _, _, hM, hS, hTp, hRs, hEn, hLe, hMa, hPa, hAl, hHe, hUn, hRe, hOt, hIk, hLa, hLn, hCe, hMR⟩, hF⟩

set_option maxRecDepth 100000 in
set_option maxHeartbeats 4000000 in
theorem c_X10_low {l : Launch} {Γ : JG} {ad : Nat → Nat} {E : Nat → va_E} {s : KS} {i j : Int} (hc : MI Γ ad E s) (hk : KV s) (hbi : -2147483648 ≤ i ∧ i < 2147483648) (hbj : -2147483648 ≤ j ∧ j < 2147483648) : JM l Γ yX10_low cX10_low 5 (some .int) 2 46 0 0 ad 95 E [.ref (ad 78), .int (jI i), .int (jI j)] (pI (fun z E' => z = qLow s i j ∧ MI Γ ad E' s ∧ ∀ j : Nat, j < 78 → E' j = E j)) := by
  refine JM_intro (own := RX10) [some (.ref (ad 78)), some (.int (jI i)), some (.int (jI j)), none, none] rfl rfl rfl (Nat.le_of_ble_eq_true rfl) ?_
  intro Ω X R hin
  obtain ⟨E0, hE0⟩ : ∃ E0 : Nat → va_E, E0 = E := ⟨_, rfl⟩
  have hF : ∀ j : Nat, j < 78 → E j = E0 j := fun _ _ => by rw [hE0]
  obtain ⟨m2, m3, m4, m5, m6, m7, m8, m9, m10, m11, g, rs, ma, pa, al, he, un, re, ot, ln, lg, ce, hM, hS, hTp, hRs, hEn, hLe, hMa, hPa, hAl, hHe, hUn, hRe, hOt, hIk, hLa, hLn, hCe, hMR⟩ := id hc
  obtain ⟨hg, him, hrs, hun, hre, hsh⟩ := id hMR
  obtain ⟨hk0, hnow⟩ := id hk
  have hv := hk0.hv
  obtain ⟨hn, hvr⟩ := id hv
  obtain ⟨hgn, hgf⟩ := id hg
  have ho := hk0.ho
  have htb := hk0.htb
  obtain ⟨htl, -⟩ := id htb
  have hb := hk0.hb
  have hdb : ∀ j : Int, 0 ≤ j → j ≤ s.n → -60 ≤ dep s.f j ∧ dep s.f j ≤ 60 := fun j a b => by have := dep_bd s.f a; omega
  refine J_aload_n (q := 1) X dX10_low_0 rfl rfl ?_
  refine J_iload_n (q := 2) X dX10_low_1 rfl rfl ?_
  refine J_callP (q := 5) (jrV X mX10_225 dX10_low_2 (c_X10_isPlace hM hS hg hv (by omega)) hM (by omega) rfl rfl rfl rfl (Nat.le_of_ble_eq_true rfl) (by decide)) rfl ?_
  refine J_if_eqB (q := 8) (tgt := 21) X dX10_low_5 (by decide) rfl (fun cq5 => ?_) (fun cq5 => ?_)
  · refine J_iconst (q := 22) X dX10_low_21 rfl ?_
    refine J_iret X R dX10_low_22 ?_
    rw [hE0] at hF
    have hq : qLow s i j = -1 := (by unfold qLow; repeat (first | (rw [if_pos (by omega)]; done) | (rw [if_neg (by omega)]; done) | rw [if_neg (by omega)]))
    exact ⟨_, rfl, Eq.trans (rfl) hq.symm, ⟨_, _, _, _, _, _, _, _, _, _, _, _, _, _, _, _, _, _, _, _, _, _, hM, hS, hTp, hRs, hEn, hLe, hMa, hPa, hAl, hHe, hUn, hRe, hOt, hIk, hLa, hLn, hCe, hMR⟩, hF⟩
  · refine J_aload_n (q := 9) X dX10_low_8 rfl rfl ?_
    refine J_iload_n (q := 10) X dX10_low_9 rfl rfl ?_
    refine J_callP (q := 13) (jrV X mX10_225 dX10_low_10 (c_X10_isPlace hM hS hg hv (by omega)) hM (by omega) rfl rfl rfl rfl (Nat.le_of_ble_eq_true rfl) (by decide)) rfl ?_
    refine J_if_eqB (q := 16) (tgt := 21) X dX10_low_13 (by decide) rfl (fun cq13 => ?_) (fun cq13 => ?_)
    · refine J_iconst (q := 22) X dX10_low_21 rfl ?_
      refine J_iret X R dX10_low_22 ?_
      rw [hE0] at hF
      have hq : qLow s i j = -1 := (by unfold qLow; repeat (first | (rw [if_pos (by omega)]; done) | (rw [if_neg (by omega)]; done) | rw [if_neg (by omega)]))
      exact ⟨_, rfl, Eq.trans (rfl) hq.symm, ⟨_, _, _, _, _, _, _, _, _, _, _, _, _, _, _, _, _, _, _, _, _, _, hM, hS, hTp, hRs, hEn, hLe, hMa, hPa, hAl, hHe, hUn, hRe, hOt, hIk, hLa, hLn, hCe, hMR⟩, hF⟩
    · refine J_iload_n (q := 17) X dX10_low_16 rfl rfl ?_
      refine J_iload_n (q := 18) X dX10_low_17 rfl rfl ?_
      refine J_icmp_ge (q := 21) (tgt := 23) X dX10_low_18 (by decide) rfl (by omega) (by omega) (fun cq18 => ?_) (fun cq18 => ?_)
      · refine J_aload_n (q := 24) X dX10_low_23 rfl rfl ?_
        refine J_iload_n (q := 25) X dX10_low_24 rfl rfl ?_
        refine J_callP (q := 28) (jrV X mX10_222 dX10_low_25 (c_X10_depthAt hM hS hg hv (by omega)) hM (by omega) rfl rfl rfl rfl (Nat.le_of_ble_eq_true rfl) (by decide)) rfl ?_
        refine J_istore_n (q := 29) X dX10_low_28 (by decide) rfl rfl ?_
        refine J_iload_n (q := 30) X dX10_low_29 rfl rfl ?_
        refine J_istore (q := 32) X dX10_low_30 (by decide) rfl rfl ?_
        have lp32 : ∀ (m : Nat) (t : Int) (hij : i ≤ t ∧ t ≤ j + 1) (hm : j + 1 - t + 1 ≤ (m : Int)), J l Γ Ω 5 ad 95 0 0 E 32 [some (.ref (ad 78)), some (.int (jI i)), some (.int (jI j)), some (.int (jI (mn (dep s.f) i (t - i).toNat))), some (.int (jI t))] [] := by
          intro m
          induction m with
          | zero => intro t hij hm; exfalso; omega
          | succ m ih32 =>
            intro t hij hm
            have hmb := mn_bd (g := dep s.f) (i := i) (b := 60) (hdb i (by omega) (by omega)) (t - i).toNat (fun j c d => hdb j (by omega) (by omega))
            refine J_iload (q := 34) X dX10_low_32 rfl rfl ?_
            refine J_iload_n (q := 35) X dX10_low_34 rfl rfl ?_
            refine J_icmp_gt (q := 38) (tgt := 65) X dX10_low_35 (by decide) rfl (by omega) (by omega) (fun cq35 => ?_) (fun cq35 => ?_)
            · refine J_iload_n (q := 66) X dX10_low_65 rfl rfl ?_
              refine J_iret X R dX10_low_66 ?_
              rw [hE0] at hF
              have hq : qLow s i j = mn (dep s.f) i (j - i + 1).toNat := (by unfold qLow; repeat (first | (rw [if_pos (by omega)]; done) | (rw [if_neg (by omega)]; done) | rw [if_neg (by omega)]))
              exact ⟨_, rfl, Eq.trans (by rw [show t - i = j - i + 1 by omega]) hq.symm, ⟨_, _, _, _, _, _, _, _, _, _, _, _, _, _, _, _, _, _, _, _, _, _, hM, hS, hTp, hRs, hEn, hLe, hMa, hPa, hAl, hHe, hUn, hRe, hOt, hIk, hLa, hLn, hCe, hMR⟩, hF⟩
            · refine J_aload_n (q := 39) X dX10_low_38 rfl rfl ?_
              refine J_iload (q := 41) X dX10_low_39 rfl rfl ?_
              refine J_callP (q := 44) (jrV X mX10_222 dX10_low_41 (c_X10_depthAt hM hS hg hv (by omega)) hM (by omega) rfl rfl rfl rfl (Nat.le_of_ble_eq_true rfl) (by decide)) rfl ?_
              refine J_iload_n (q := 45) X dX10_low_44 rfl rfl ?_
              refine J_icmp_ge (q := 48) (tgt := 57) X dX10_low_45 (by decide) rfl (by have := hdb t (by omega) (by omega); omega) (by omega) (fun cq45 => ?_) (fun cq45 => ?_)
              · refine J_iload_n (q := 58) X dX10_low_57 rfl rfl ?_
                refine J_istore_n (q := 59) X dX10_low_58 (by decide) rfl rfl ?_
                refine J_iinc (q := 62) X dX10_low_59 rfl (by decide) rfl rfl ?_
                refine J_goto (q := 32) X dX10_low_62 (by decide) ?_
                have hx := ih32 (t + 1) (by omega) (by omega)
                rw [mnI_succ (dep s.f) i hij.1] at hx
                first
                  | (rw [if_pos (by omega)] at hx; exact hx)
                  | (rw [if_neg (by omega)] at hx; exact hx)
              · refine J_aload_n (q := 49) X dX10_low_48 rfl rfl ?_
                refine J_iload (q := 51) X dX10_low_49 rfl rfl ?_
                refine J_callP (q := 54) (jrV X mX10_222 dX10_low_51 (c_X10_depthAt hM hS hg hv (by omega)) hM (by omega) rfl rfl rfl rfl (Nat.le_of_ble_eq_true rfl) (by decide)) rfl ?_
                refine J_goto (q := 58) X dX10_low_54 (by decide) ?_
                refine J_istore_n (q := 59) X dX10_low_58 (by decide) rfl rfl ?_
                refine J_iinc (q := 62) X dX10_low_59 rfl (by decide) rfl rfl ?_
                refine J_goto (q := 32) X dX10_low_62 (by decide) ?_
                have hx := ih32 (t + 1) (by omega) (by omega)
                rw [mnI_succ (dep s.f) i hij.1] at hx
                first
                  | (rw [if_pos (by omega)] at hx; exact hx)
                  | (rw [if_neg (by omega)] at hx; exact hx)
        rw [show dep s.f i = mn (dep s.f) i (i - i).toNat by rw [Int.sub_self]; rfl]
        exact lp32 100 _ (by omega) (by omega)
      · refine J_iconst (q := 22) X dX10_low_21 rfl ?_
        refine J_iret X R dX10_low_22 ?_
        rw [hE0] at hF
        have hq : qLow s i j = -1 := (by unfold qLow; repeat (first | (rw [if_pos (by omega)]; done) | (rw [if_neg (by omega)]; done) | rw [if_neg (by omega)]))
        exact ⟨_, rfl, Eq.trans (rfl) hq.symm, ⟨_, _, _, _, _, _, _, _, _, _, _, _, _, _, _, _, _, _, _, _, _, _, hM, hS, hTp, hRs, hEn, hLe, hMa, hPa, hAl, hHe, hUn, hRe, hOt, hIk, hLa, hLn, hCe, hMR⟩, hF⟩

set_option maxRecDepth 100000 in
set_option maxHeartbeats 4000000 in
theorem c_X10_around {l : Launch} {Γ : JG} {ad : Nat → Nat} {E : Nat → va_E} {s : KS} {i kd : Int} (hc : MI Γ ad E s) (hk : KV s) (hbi : -2147483648 ≤ i ∧ i < 2147483648) (hbkd : -2147483648 ≤ kd ∧ kd < 2147483648) : JM l Γ yX10_around cX10_around 5 (some .int) 3 68 0 0 ad 95 E [.ref (ad 78), .int (jI i), .int (jI kd)] (pI (fun z E' => z = qAround s i kd ∧ MI Γ ad E' s ∧ ∀ j : Nat, j < 78 → E' j = E j)) := by
  refine JM_intro (own := RX10) [some (.ref (ad 78)), some (.int (jI i)), some (.int (jI kd)), none, none] rfl rfl rfl (Nat.le_of_ble_eq_true rfl) ?_
  intro Ω X R hin
  obtain ⟨E0, hE0⟩ : ∃ E0 : Nat → va_E, E0 = E := ⟨_, rfl⟩
  have hF : ∀ j : Nat, j < 78 → E j = E0 j := fun _ _ => by rw [hE0]
  obtain ⟨m2, m3, m4, m5, m6, m7, m8, m9, m10, m11, g, rs, ma, pa, al, he, un, re, ot, ln, lg, ce, hM, hS, hTp, hRs, hEn, hLe, hMa, hPa, hAl, hHe, hUn, hRe, hOt, hIk, hLa, hLn, hCe, hMR⟩ := id hc
  obtain ⟨hg, him, hrs, hun, hre, hsh⟩ := id hMR
  obtain ⟨hk0, hnow⟩ := id hk
  have hv := hk0.hv
  obtain ⟨hn, hvr⟩ := id hv
  obtain ⟨hgn, hgf⟩ := id hg
  have ho := hk0.ho
  have htb := hk0.htb
  obtain ⟨htl, -⟩ := id htb
  have hb := hk0.hb
  refine J_aload_n (q := 1) X dX10_around_0 rfl rfl ?_
  refine J_iload_n (q := 2) X dX10_around_1 rfl rfl ?_
  refine J_callP (q := 5) (jrV X mX10_219 dX10_around_2 (c_X10_isThere hM hS hg hv (by omega)) hM (by omega) rfl rfl rfl rfl (Nat.le_of_ble_eq_true rfl) (by decide)) rfl ?_
  refine J_if_eqB (q := 8) (tgt := 20) X dX10_around_5 (by decide) rfl (fun cq5 => ?_) (fun cq5 => ?_)
  · refine J_iconst (q := 21) X dX10_around_20 rfl ?_
    refine J_iret X R dX10_around_21 ?_
    rw [hE0] at hF
    have hq : qAround s i kd = -1 := (by unfold qAround; repeat (first | (rw [if_pos (by omega)]; done) | (rw [if_neg (by omega)]; done) | rw [if_neg (by omega)]))
    exact ⟨_, rfl, Eq.trans (rfl) hq.symm, ⟨_, _, _, _, _, _, _, _, _, _, _, _, _, _, _, _, _, _, _, _, _, _, hM, hS, hTp, hRs, hEn, hLe, hMa, hPa, hAl, hHe, hUn, hRe, hOt, hIk, hLa, hLn, hCe, hMR⟩, hF⟩
  · refine J_iload_n (q := 9) X dX10_around_8 rfl rfl ?_
    refine J_i2l (q := 10) X dX10_around_9 rfl (by omega) ?_
    refine J_lconst (q := 11) (v := 0) X dX10_around_10 (by decide) rfl ?_
    refine J_ldc2 (q := 14) X dX10_around_11 kX10_228 rfl ?_
    refine J_callP (q := 17) (jrS X mX10_61 dX10_around_14 (c_X10_in (by omega) (by omega) (by omega)) rfl rfl (Nat.le_of_ble_eq_true rfl) (by decide)) rfl ?_
    refine J_if_neB (q := 20) (tgt := 22) X dX10_around_17 (by decide) rfl (fun cq17 => ?_) (fun cq17 => ?_)
    · refine J_aload_n (q := 23) X dX10_around_22 rfl rfl ?_
      refine J_callV (q := 26) (jrV X mX10_198 dX10_around_23 (c_X10_findsAll hM hS hPa hAl hHe hg hv) hM (by omega) rfl rfl rfl rfl (Nat.le_of_ble_eq_true rfl) (by decide)) rfl (fun Ew23 hpq23 => ?_)
      obtain ⟨paq23, alq23, heq23, kPa, kAl, kHe, hpaq23, halq23, hsq23⟩ := hpq23
      replace hPa := kPa
      replace hAl := kAl
      replace hHe := kHe
      have hpa := hpaq23
      have hal := halq23
      replace hM := (hsq23 78 (by omega)).trans hM
      replace hS := (hsq23 79 (by omega)).trans hS
      replace hTp := (hsq23 80 (by omega)).trans hTp
      replace hRs := (hsq23 81 (by omega)).trans hRs
      replace hEn := (hsq23 82 (by omega)).trans hEn
      replace hLe := (hsq23 83 (by omega)).trans hLe
      replace hMa := (hsq23 84 (by omega)).trans hMa
      replace hUn := (hsq23 88 (by omega)).trans hUn
      replace hRe := (hsq23 89 (by omega)).trans hRe
      replace hOt := (hsq23 90 (by omega)).trans hOt
      replace hIk := (hsq23 91 (by omega)).trans hIk
      replace hLa := (hsq23 92 (by omega)).trans hLa
      replace hLn := (hsq23 93 (by omega)).trans hLn
      replace hCe := (hsq23 94 (by omega)).trans hCe
      replace hF : ∀ j : Nat, j < 78 → Ew23 j = E0 j := fun j hj => (hsq23 j (by omega)).trans (hF j hj)
      refine J_iload_n (q := 27) X dX10_around_26 rfl rfl ?_
      refine J_iconst (q := 28) X dX10_around_27 rfl ?_
      refine J_isub (q := 29) X dX10_around_28 rfl ?_
      refine J_istore_n (q := 30) X dX10_around_29 (by decide) rfl rfl ?_
      have lp30 : ∀ (m : Nat) (t : Int) (ht : -1 ≤ t ∧ t < i) (hd : dn (fun k => arP s.f s.n kd i k) (t + 1).toNat = arF s.f s.n i kd) (hm : t + 2 ≤ (m : Int)), J l Γ Ω 5 ad 95 0 0 Ew23 30 [some (.ref (ad 78)), some (.int (jI i)), some (.int (jI kd)), some (.int (jI t)), none] [] := by
        intro m
        induction m with
        | zero => intro t ht hd hm; exfalso; omega
        | succ m ih30 =>
          intro t ht hd hm
          have hpt := fun (a : 0 ≤ t) => hpa t a (by omega)
          have hat := fun (a : 0 ≤ t) => hal t a (by omega)
          have hkb := knd_brk (s.f t % 128)
          have hkd := knd_bd (s.f t % 128)
          have hpb := prt_bd (kd := 3) (f := s.f) (n := s.n) hn.1 t
          have hab : alF s.f s.n t = -4 ∨ (0 ≤ alF s.f s.n t ∧ alF s.f s.n t < s.n) := by
            unfold alF
            split
            · exact prt_bd hn.1 t
            · exact Or.inl rfl
          refine J_iload_n (q := 31) X dX10_around_30 rfl rfl ?_
          refine J_if_lt (q := 34) (tgt := 99) X dX10_around_31 (by decide) rfl (by omega) (fun cq31 => ?_) (fun cq31 => ?_)
          · refine J_bipush (q := 101) X dX10_around_99 rfl (by decide) ?_
            refine J_iret X R dX10_around_101 ?_
            rw [hE0] at hF
            rw [show (t + 1).toNat = 0 by omega] at hd
            have hq : qAround s i kd = arF s.f s.n i kd := (by unfold qAround; repeat (first | (rw [if_pos (by omega)]; done) | (rw [if_neg (by omega)]; done) | rw [if_neg (by omega)]))
            exact ⟨_, rfl, Eq.trans (hd) hq.symm, ⟨_, _, _, _, _, _, _, _, _, _, _, _, _, _, _, _, _, _, _, _, _, _, hM, hS, hTp, hRs, hEn, hLe, hMa, hPa, hAl, hHe, hUn, hRe, hOt, hIk, hLa, hLn, hCe, hMR⟩, hF⟩
          · have jn84 : ∀ (is : Int) (his : is = bI (arP s.f s.n kd i t)), J l Γ Ω 5 ad 95 0 0 Ew23 84 [some (.ref (ad 78)), some (.int (jI i)), some (.int (jI kd)), some (.int (jI t)), none] [.int (jI is)] := by
              intro is his
              have hisb := bI_bd (arP s.f s.n kd i t)
              refine J_istore (q := 86) X dX10_around_84 (by decide) rfl rfl ?_
              refine J_iload (q := 88) X dX10_around_86 rfl rfl ?_
              refine J_if_eq (q := 91) (tgt := 93) X dX10_around_88 (by decide) rfl (by omega) (fun cq88 => ?_) (fun cq88 => ?_)
              · refine J_iinc (q := 96) X dX10_around_93 rfl (by decide) rfl rfl ?_
                refine J_goto (q := 30) X dX10_around_96 (by decide) ?_
                refine J_kill 4 ?_
                rw [dnI_succ (fun k => arP s.f s.n kd i k) (by omega : 0 ≤ t), if_neg (by intro hq; rw [bI_t hq] at his; omega)] at hd
                exact ih30 _ (by omega) (by rw [show t + -1 + 1 = t by omega]; exact hd) (by omega)
              · refine J_iload_n (q := 92) X dX10_around_91 rfl rfl ?_
                refine J_iret X R dX10_around_92 ?_
                rw [hE0] at hF
                rw [dnI_succ (fun k => arP s.f s.n kd i k) (by omega : 0 ≤ t), if_pos (by by_cases hq : arP s.f s.n kd i t; exact hq; (rw [bI_f hq] at his; exfalso; omega))] at hd
                have hq : qAround s i kd = arF s.f s.n i kd := (by unfold qAround; repeat (first | (rw [if_pos (by omega)]; done) | (rw [if_neg (by omega)]; done) | rw [if_neg (by omega)]))
                exact ⟨_, rfl, Eq.trans (hd) hq.symm, ⟨_, _, _, _, _, _, _, _, _, _, _, _, _, _, _, _, _, _, _, _, _, _, hM, hS, hTp, hRs, hEn, hLe, hMa, hPa, hAl, hHe, hUn, hRe, hOt, hIk, hLa, hLn, hCe, hMR⟩, hF⟩
            refine J_iload_n (q := 35) X dX10_around_34 rfl rfl ?_
            refine J_iconst (q := 36) X dX10_around_35 rfl ?_
            refine J_icmp_ne (q := 39) (tgt := 57) X dX10_around_36 (by decide) rfl (by omega) (by omega) (fun cq36 => ?_) (fun cq36 => ?_)
            · refine J_aload_n (q := 58) X dX10_around_57 rfl rfl ?_
              refine J_iload_n (q := 59) X dX10_around_58 rfl rfl ?_
              refine J_callP (q := 62) (jrV X mX10_170 dX10_around_59 (c_X10_signAt hM hS hg hv (by omega)) hM (by omega) rfl rfl rfl rfl (Nat.le_of_ble_eq_true rfl) (by decide)) rfl ?_
              refine J_callP (q := 65) (jrS X mX10_78 dX10_around_62 (c_X10_kindOf (by omega)) rfl rfl (Nat.le_of_ble_eq_true rfl) (by decide)) rfl ?_
              refine J_iload_n (q := 66) X dX10_around_65 rfl rfl ?_
              refine J_icmp_ne (q := 69) (tgt := 83) X dX10_around_66 (by decide) rfl (by omega) (by omega) (fun cq66 => ?_) (fun cq66 => ?_)
              · refine J_iconst (q := 84) X dX10_around_83 rfl ?_
                have hp1 := hpt (by omega)
                have ha1 := hat (by omega)
                by_cases h3 : kd = 3
                · have hk3 : i < prt 3 s.f s.n t → isK (s.f t % 128) kd := fun z => by rw [h3]; exact (prt_of hn.1 (by omega)).2.2.2.2.2.2.1
                  first
                    | (exfalso; omega)
                    | exact jn84 _ (by rw [bI_t (show arP s.f s.n kd i t from ⟨hk3 (by omega), by rw [if_pos h3]; omega⟩)])
                    | exact jn84 _ (by rw [bI_f (fun z => by have z2 := z.2; rw [if_pos h3] at z2; omega)])
                · first
                    | (exfalso; omega)
                    | exact jn84 _ (by rw [bI_t (show arP s.f s.n kd i t from ⟨⟨by omega, by omega⟩, by rw [if_neg h3]; omega⟩)])
                    | exact jn84 _ (by rw [bI_f (fun z => by have z1 := z.1.2; have z2 := z.2; rw [if_neg h3] at z2; omega)])
              · refine J_aload_n (q := 70) X dX10_around_69 rfl rfl ?_
                refine J_get (q := 73) X dX10_around_70 fX10_31 hM (by omega) rfl rfl ?_
                refine J_iload_n (q := 74) X dX10_around_73 rfl rfl ?_
                refine J_iald (q := 75) X dX10_around_74 hAl (by omega) (by omega) (by decide) rfl ?_
                refine J_iload_n (q := 76) X dX10_around_75 rfl rfl ?_
                refine J_icmp_le (q := 79) (tgt := 83) X dX10_around_76 (by decide) rfl (by have := hat (by omega); omega) (by omega) (fun cq76 => ?_) (fun cq76 => ?_)
                · refine J_iconst (q := 84) X dX10_around_83 rfl ?_
                  have hp1 := hpt (by omega)
                  have ha1 := hat (by omega)
                  by_cases h3 : kd = 3
                  · have hk3 : i < prt 3 s.f s.n t → isK (s.f t % 128) kd := fun z => by rw [h3]; exact (prt_of hn.1 (by omega)).2.2.2.2.2.2.1
                    first
                      | (exfalso; omega)
                      | exact jn84 _ (by rw [bI_t (show arP s.f s.n kd i t from ⟨hk3 (by omega), by rw [if_pos h3]; omega⟩)])
                      | exact jn84 _ (by rw [bI_f (fun z => by have z2 := z.2; rw [if_pos h3] at z2; omega)])
                  · first
                      | (exfalso; omega)
                      | exact jn84 _ (by rw [bI_t (show arP s.f s.n kd i t from ⟨⟨by omega, by omega⟩, by rw [if_neg h3]; omega⟩)])
                      | exact jn84 _ (by rw [bI_f (fun z => by have z1 := z.1.2; have z2 := z.2; rw [if_neg h3] at z2; omega)])
                · refine J_iconst (q := 80) X dX10_around_79 rfl ?_
                  refine J_goto (q := 84) X dX10_around_80 (by decide) ?_
                  have hp1 := hpt (by omega)
                  have ha1 := hat (by omega)
                  by_cases h3 : kd = 3
                  · have hk3 : i < prt 3 s.f s.n t → isK (s.f t % 128) kd := fun z => by rw [h3]; exact (prt_of hn.1 (by omega)).2.2.2.2.2.2.1
                    first
                      | (exfalso; omega)
                      | exact jn84 _ (by rw [bI_t (show arP s.f s.n kd i t from ⟨hk3 (by omega), by rw [if_pos h3]; omega⟩)])
                      | exact jn84 _ (by rw [bI_f (fun z => by have z2 := z.2; rw [if_pos h3] at z2; omega)])
                  · first
                      | (exfalso; omega)
                      | exact jn84 _ (by rw [bI_t (show arP s.f s.n kd i t from ⟨⟨by omega, by omega⟩, by rw [if_neg h3]; omega⟩)])
                      | exact jn84 _ (by rw [bI_f (fun z => by have z1 := z.1.2; have z2 := z.2; rw [if_neg h3] at z2; omega)])
            · refine J_aload_n (q := 40) X dX10_around_39 rfl rfl ?_
              refine J_get (q := 43) X dX10_around_40 fX10_28 hM (by omega) rfl rfl ?_
              refine J_iload_n (q := 44) X dX10_around_43 rfl rfl ?_
              refine J_iald (q := 45) X dX10_around_44 hPa (by omega) (by omega) (by decide) rfl ?_
              refine J_iload_n (q := 46) X dX10_around_45 rfl rfl ?_
              refine J_icmp_le (q := 49) (tgt := 53) X dX10_around_46 (by decide) rfl (by have := hpt (by omega); omega) (by omega) (fun cq46 => ?_) (fun cq46 => ?_)
              · refine J_iconst (q := 54) X dX10_around_53 rfl ?_
                refine J_goto (q := 84) X dX10_around_54 (by decide) ?_
                have hp1 := hpt (by omega)
                have ha1 := hat (by omega)
                by_cases h3 : kd = 3
                · have hk3 : i < prt 3 s.f s.n t → isK (s.f t % 128) kd := fun z => by rw [h3]; exact (prt_of hn.1 (by omega)).2.2.2.2.2.2.1
                  first
                    | (exfalso; omega)
                    | exact jn84 _ (by rw [bI_t (show arP s.f s.n kd i t from ⟨hk3 (by omega), by rw [if_pos h3]; omega⟩)])
                    | exact jn84 _ (by rw [bI_f (fun z => by have z2 := z.2; rw [if_pos h3] at z2; omega)])
                · first
                    | (exfalso; omega)
                    | exact jn84 _ (by rw [bI_t (show arP s.f s.n kd i t from ⟨⟨by omega, by omega⟩, by rw [if_neg h3]; omega⟩)])
                    | exact jn84 _ (by rw [bI_f (fun z => by have z1 := z.1.2; have z2 := z.2; rw [if_neg h3] at z2; omega)])
              · refine J_iconst (q := 50) X dX10_around_49 rfl ?_
                refine J_goto (q := 84) X dX10_around_50 (by decide) ?_
                have hp1 := hpt (by omega)
                have ha1 := hat (by omega)
                by_cases h3 : kd = 3
                · have hk3 : i < prt 3 s.f s.n t → isK (s.f t % 128) kd := fun z => by rw [h3]; exact (prt_of hn.1 (by omega)).2.2.2.2.2.2.1
                  first
                    | (exfalso; omega)
                    | exact jn84 _ (by rw [bI_t (show arP s.f s.n kd i t from ⟨hk3 (by omega), by rw [if_pos h3]; omega⟩)])
                    | exact jn84 _ (by rw [bI_f (fun z => by have z2 := z.2; rw [if_pos h3] at z2; omega)])
                · first
                    | (exfalso; omega)
                    | exact jn84 _ (by rw [bI_t (show arP s.f s.n kd i t from ⟨⟨by omega, by omega⟩, by rw [if_neg h3]; omega⟩)])
                    | exact jn84 _ (by rw [bI_f (fun z => by have z1 := z.1.2; have z2 := z.2; rw [if_neg h3] at z2; omega)])
      exact lp30 100 (i - 1) (by omega) (by rw [show i - 1 + 1 = i by omega]; rfl) (by omega)
    · refine J_iconst (q := 21) X dX10_around_20 rfl ?_
      refine J_iret X R dX10_around_21 ?_
      rw [hE0] at hF
      have hq : qAround s i kd = -1 := (by unfold qAround; repeat (first | (rw [if_pos (by omega)]; done) | (rw [if_neg (by omega)]; done) | rw [if_neg (by omega)]))
      exact ⟨_, rfl, Eq.trans (rfl) hq.symm, ⟨_, _, _, _, _, _, _, _, _, _, _, _, _, _, _, _, _, _, _, _, _, _, hM, hS, hTp, hRs, hEn, hLe, hMa, hPa, hAl, hHe, hUn, hRe, hOt, hIk, hLa, hLn, hCe, hMR⟩, hF⟩

set_option maxRecDepth 100000 in
set_option maxHeartbeats 4000000 in
theorem c_X10_whole {l : Launch} {Γ : JG} {ad : Nat → Nat} {E : Nat → va_E} {s : KS} {i : Int} (hc : MI Γ ad E s) (hk : KV s) (hbi : -2147483648 ≤ i ∧ i < 2147483648) : JM l Γ yX10_whole cX10_whole 2 (some .int) 3 68 0 0 ad 95 E [.ref (ad 78), .int (jI i)] (pI (fun z E' => z = qWhole s i ∧ MI Γ ad E' s ∧ ∀ j : Nat, j < 78 → E' j = E j)) := by
  refine JM_intro (own := RX10) [some (.ref (ad 78)), some (.int (jI i))] rfl rfl rfl (Nat.le_of_ble_eq_true rfl) ?_
  intro Ω X R hin
  obtain ⟨E0, hE0⟩ : ∃ E0 : Nat → va_E, E0 = E := ⟨_, rfl⟩
  have hF : ∀ j : Nat, j < 78 → E j = E0 j := fun _ _ => by rw [hE0]
  obtain ⟨m2, m3, m4, m5, m6, m7, m8, m9, m10, m11, g, rs, ma, pa, al, he, un, re, ot, ln, lg, ce, hM, hS, hTp, hRs, hEn, hLe, hMa, hPa, hAl, hHe, hUn, hRe, hOt, hIk, hLa, hLn, hCe, hMR⟩ := id hc
  obtain ⟨hg, him, hrs, hun, hre, hsh⟩ := id hMR
  obtain ⟨hk0, hnow⟩ := id hk
  have hv := hk0.hv
  obtain ⟨hn, hvr⟩ := id hv
  obtain ⟨hgn, hgf⟩ := id hg
  have ho := hk0.ho
  have htb := hk0.htb
  obtain ⟨htl, -⟩ := id htb
  have hb := hk0.hb
  refine J_aload_n (q := 1) X dX10_whole_0 rfl rfl ?_
  refine J_iload_n (q := 2) X dX10_whole_1 rfl rfl ?_
  refine J_callP (q := 5) (jrV X mX10_225 dX10_whole_2 (c_X10_isPlace hM hS hg hv (by omega)) hM (by omega) rfl rfl rfl rfl (Nat.le_of_ble_eq_true rfl) (by decide)) rfl ?_
  refine J_if_neB (q := 8) (tgt := 10) X dX10_whole_5 (by decide) rfl (fun cq5 => ?_) (fun cq5 => ?_)
  · refine J_aload_n (q := 11) X dX10_whole_10 rfl rfl ?_
    refine J_callV (q := 14) (jrV X mX10_198 dX10_whole_11 (c_X10_findsAll hM hS hPa hAl hHe hg hv) hM (by omega) rfl rfl rfl rfl (Nat.le_of_ble_eq_true rfl) (by decide)) rfl (fun Ew11 hpq11 => ?_)
    obtain ⟨paq11, alq11, heq11, kPa, kAl, kHe, hpaq11, halq11, hsq11⟩ := hpq11
    replace hPa := kPa
    replace hAl := kAl
    replace hHe := kHe
    have hpa := hpaq11
    have hal := halq11
    replace hM := (hsq11 78 (by omega)).trans hM
    replace hS := (hsq11 79 (by omega)).trans hS
    replace hTp := (hsq11 80 (by omega)).trans hTp
    replace hRs := (hsq11 81 (by omega)).trans hRs
    replace hEn := (hsq11 82 (by omega)).trans hEn
    replace hLe := (hsq11 83 (by omega)).trans hLe
    replace hMa := (hsq11 84 (by omega)).trans hMa
    replace hUn := (hsq11 88 (by omega)).trans hUn
    replace hRe := (hsq11 89 (by omega)).trans hRe
    replace hOt := (hsq11 90 (by omega)).trans hOt
    replace hIk := (hsq11 91 (by omega)).trans hIk
    replace hLa := (hsq11 92 (by omega)).trans hLa
    replace hLn := (hsq11 93 (by omega)).trans hLn
    replace hCe := (hsq11 94 (by omega)).trans hCe
    replace hF : ∀ j : Nat, j < 78 → Ew11 j = E0 j := fun j hj => (hsq11 j (by omega)).trans (hF j hj)
    refine J_aload_n (q := 15) X dX10_whole_14 rfl rfl ?_
    refine J_iload_n (q := 16) X dX10_whole_15 rfl rfl ?_
    refine J_callP (q := 19) (jrV X mX10_230 dX10_whole_16 (c_X10_wholeFrom hM hS hPa hg hv hpa (by omega)) hM (by omega) rfl rfl rfl rfl (Nat.le_of_ble_eq_true rfl) (by decide)) rfl ?_
    refine J_iret X R dX10_whole_19 ?_
    rw [hE0] at hF
    have hq : qWhole s i = wt s.f s.n i := (by unfold qWhole; repeat (first | (rw [if_pos (by omega)]; done) | (rw [if_neg (by omega)]; done) | rw [if_neg (by omega)]))
    exact ⟨_, rfl, Eq.trans (rfl) hq.symm, ⟨_, _, _, _, _, _, _, _, _, _, _, _, _, _, _, _, _, _, _, _, _, _, hM, hS, hTp, hRs, hEn, hLe, hMa, hPa, hAl, hHe, hUn, hRe, hOt, hIk, hLa, hLn, hCe, hMR⟩, hF⟩
  · refine J_iconst (q := 9) X dX10_whole_8 rfl ?_
    refine J_iret X R dX10_whole_9 ?_
    rw [hE0] at hF
    have hq : qWhole s i = -1 := (by unfold qWhole; repeat (first | (rw [if_pos (by omega)]; done) | (rw [if_neg (by omega)]; done) | rw [if_neg (by omega)]))
    exact ⟨_, rfl, Eq.trans (rfl) hq.symm, ⟨_, _, _, _, _, _, _, _, _, _, _, _, _, _, _, _, _, _, _, _, _, _, hM, hS, hTp, hRs, hEn, hLe, hMa, hPa, hAl, hHe, hUn, hRe, hOt, hIk, hLa, hLn, hCe, hMR⟩, hF⟩

set_option maxRecDepth 100000 in
set_option maxHeartbeats 4000000 in
theorem c_X10_seen {l : Launch} {Γ : JG} {ad : Nat → Nat} {E : Nat → va_E} {s : KS} {k : Int} (hc : MI Γ ad E s) (hk : KV s) (hbk : -2147483648 ≤ k ∧ k < 2147483648) : JM l Γ yX10_seen cX10_seen 4 (some .int) 3 68 0 0 ad 95 E [.ref (ad 78), .int (jI k)] (pI (fun z E' => z = qSeen s k ∧ MI Γ ad E' s ∧ ∀ j : Nat, j < 78 → E' j = E j)) := by
  refine JM_intro (own := RX10) [some (.ref (ad 78)), some (.int (jI k)), none, none] rfl rfl rfl (Nat.le_of_ble_eq_true rfl) ?_
  intro Ω X R hin
  obtain ⟨E0, hE0⟩ : ∃ E0 : Nat → va_E, E0 = E := ⟨_, rfl⟩
  have hF : ∀ j : Nat, j < 78 → E j = E0 j := fun _ _ => by rw [hE0]
  obtain ⟨m2, m3, m4, m5, m6, m7, m8, m9, m10, m11, g, rs, ma, pa, al, he, un, re, ot, ln, lg, ce, hM, hS, hTp, hRs, hEn, hLe, hMa, hPa, hAl, hHe, hUn, hRe, hOt, hIk, hLa, hLn, hCe, hMR⟩ := id hc
  obtain ⟨hg, him, hrs, hun, hre, hsh⟩ := id hMR
  obtain ⟨hk0, hnow⟩ := id hk
  have hv := hk0.hv
  obtain ⟨hn, hvr⟩ := id hv
  obtain ⟨hgn, hgf⟩ := id hg
  have ho := hk0.ho
  have htb := hk0.htb
  obtain ⟨htl, -⟩ := id htb
  have hb := hk0.hb
  refine J_iload_n (q := 1) X dX10_seen_0 rfl rfl ?_
  refine J_if_ge (q := 4) (tgt := 6) X dX10_seen_1 (by decide) rfl (by omega) (fun cq1 => ?_) (fun cq1 => ?_)
  · refine J_aload_n (q := 7) X dX10_seen_6 rfl rfl ?_
    refine J_callV (q := 10) (jrV X mX10_198 dX10_seen_7 (c_X10_findsAll hM hS hPa hAl hHe hg hv) hM (by omega) rfl rfl rfl rfl (Nat.le_of_ble_eq_true rfl) (by decide)) rfl (fun Ew7 hpq7 => ?_)
    obtain ⟨paq7, alq7, heq7, kPa, kAl, kHe, hpaq7, halq7, hsq7⟩ := hpq7
    replace hPa := kPa
    replace hAl := kAl
    replace hHe := kHe
    have hpa := hpaq7
    have hal := halq7
    replace hM := (hsq7 78 (by omega)).trans hM
    replace hS := (hsq7 79 (by omega)).trans hS
    replace hTp := (hsq7 80 (by omega)).trans hTp
    replace hRs := (hsq7 81 (by omega)).trans hRs
    replace hEn := (hsq7 82 (by omega)).trans hEn
    replace hLe := (hsq7 83 (by omega)).trans hLe
    replace hMa := (hsq7 84 (by omega)).trans hMa
    replace hUn := (hsq7 88 (by omega)).trans hUn
    replace hRe := (hsq7 89 (by omega)).trans hRe
    replace hOt := (hsq7 90 (by omega)).trans hOt
    replace hIk := (hsq7 91 (by omega)).trans hIk
    replace hLa := (hsq7 92 (by omega)).trans hLa
    replace hLn := (hsq7 93 (by omega)).trans hLn
    replace hCe := (hsq7 94 (by omega)).trans hCe
    replace hF : ∀ j : Nat, j < 78 → Ew7 j = E0 j := fun j hj => (hsq7 j (by omega)).trans (hF j hj)
    refine J_iload_n (q := 11) X dX10_seen_10 rfl rfl ?_
    refine J_istore_n (q := 12) X dX10_seen_11 (by decide) rfl rfl ?_
    refine J_iconst (q := 13) X dX10_seen_12 rfl ?_
    refine J_istore_n (q := 14) X dX10_seen_13 (by decide) rfl rfl ?_
    have lp14 : ∀ (m : Nat) (t : Int) (ht : 0 ≤ t ∧ t ≤ s.n) (hsc : sc (fun i => ¬ snP s.f s.n k i) s.n t = sc (fun i => ¬ snP s.f s.n k i) s.n 0) (hlf : smI (fun j => bI (¬ hid s.f s.n j)) t ≤ k) (hm : s.n - t + 1 ≤ (m : Int)), J l Γ Ω 4 ad 95 0 0 Ew7 14 [some (.ref (ad 78)), some (.int (jI k)), some (.int (jI (k - smI (fun j => bI (¬ hid s.f s.n j)) t))), some (.int (jI t))] [] := by
      intro m
      induction m with
      | zero => intro t ht hsc hlf hm; exfalso; omega
      | succ m ih14 =>
        intro t ht hsc hlf hm
        have hsb := smB_bd (g := (fun j => bI (¬ hid s.f s.n j))) (fun _ => bI_bd _) ht.1
        refine J_iload_n (q := 15) X dX10_seen_14 rfl rfl ?_
        refine J_aload_n (q := 16) X dX10_seen_15 rfl rfl ?_
        refine J_callP (q := 19) (jrV X mX10_165 dX10_seen_16 (c_X10_many hM hS hg hv) hM (by omega) rfl rfl rfl rfl (Nat.le_of_ble_eq_true rfl) (by decide)) rfl ?_
        refine J_icmp_ge (q := 22) (tgt := 45) X dX10_seen_19 (by decide) rfl (by omega) (by omega) (fun cq19 => ?_) (fun cq19 => ?_)
        · refine J_bipush (q := 47) X dX10_seen_45 rfl (by decide) ?_
          refine J_iret X R dX10_seen_47 ?_
          rw [hE0] at hF
          rw [sc_stop (P := (fun i => ¬ snP s.f s.n k i)) (by omega)] at hsc
          have hq : qSeen s k = snF s.f s.n k := (by unfold qSeen; repeat (first | (rw [if_pos (by omega)]; done) | (rw [if_neg (by omega)]; done) | rw [if_neg (by omega)]))
          exact ⟨_, rfl, Eq.trans (by unfold snF; rw [← hsc, if_neg (by omega)]) hq.symm, ⟨_, _, _, _, _, _, _, _, _, _, _, _, _, _, _, _, _, _, _, _, _, _, hM, hS, hTp, hRs, hEn, hLe, hMa, hPa, hAl, hHe, hUn, hRe, hOt, hIk, hLa, hLn, hCe, hMR⟩, hF⟩
        · refine J_aload_n (q := 23) X dX10_seen_22 rfl rfl ?_
          refine J_iload_n (q := 24) X dX10_seen_23 rfl rfl ?_
          refine J_callP (q := 27) (jrV X mX10_195 dX10_seen_24 (c_X10_isHidden hM hS hPa hg hv hpa (by omega)) hM (by omega) rfl rfl rfl rfl (Nat.le_of_ble_eq_true rfl) (by decide)) rfl ?_
          refine J_if_neB (q := 30) (tgt := 39) X dX10_seen_27 (by decide) rfl (fun cq27 => ?_) (fun cq27 => ?_)
          · refine J_iinc (q := 42) X dX10_seen_39 rfl (by decide) rfl rfl ?_
            refine J_goto (q := 14) X dX10_seen_42 (by decide) ?_
            have hsu := smI_succ (fun j => bI (¬ hid s.f s.n j)) ht.1
            first
              | (rw [bI_f (fun z => z cq27)] at hsu; have hx := ih14 (t + 1) (by omega) (by rw [sc_go (P := (fun i => ¬ snP s.f s.n k i)) (by omega) (fun z => z.1 cq27)]; exact hsc) (by omega) (by omega); rw [hsu, Int.add_zero] at hx; exact hx)
              | (rw [bI_t cq27] at hsu; have hx := ih14 (t + 1) (by omega) (by rw [sc_go (P := (fun i => ¬ snP s.f s.n k i)) (by omega) (fun z => by have z2 := z.2; omega)]; exact hsc) (by omega) (by omega); rw [hsu] at hx; rw [show k - smI (fun j => bI (¬ hid s.f s.n j)) t + -1 = k - (smI (fun j => bI (¬ hid s.f s.n j)) t + 1) by omega]; exact hx)
          · refine J_iload_n (q := 31) X dX10_seen_30 rfl rfl ?_
            refine J_if_ne (q := 34) (tgt := 36) X dX10_seen_31 (by decide) rfl (by omega) (fun cq31 => ?_) (fun cq31 => ?_)
            · refine J_iinc (q := 39) X dX10_seen_36 rfl (by decide) rfl rfl ?_
              refine J_iinc (q := 42) X dX10_seen_39 rfl (by decide) rfl rfl ?_
              refine J_goto (q := 14) X dX10_seen_42 (by decide) ?_
              have hsu := smI_succ (fun j => bI (¬ hid s.f s.n j)) ht.1
              first
                | (rw [bI_f (fun z => z cq27)] at hsu; have hx := ih14 (t + 1) (by omega) (by rw [sc_go (P := (fun i => ¬ snP s.f s.n k i)) (by omega) (fun z => z.1 cq27)]; exact hsc) (by omega) (by omega); rw [hsu, Int.add_zero] at hx; exact hx)
                | (rw [bI_t cq27] at hsu; have hx := ih14 (t + 1) (by omega) (by rw [sc_go (P := (fun i => ¬ snP s.f s.n k i)) (by omega) (fun z => by have z2 := z.2; omega)]; exact hsc) (by omega) (by omega); rw [hsu] at hx; rw [show k - smI (fun j => bI (¬ hid s.f s.n j)) t + -1 = k - (smI (fun j => bI (¬ hid s.f s.n j)) t + 1) by omega]; exact hx)
            · refine J_iload_n (q := 35) X dX10_seen_34 rfl rfl ?_
              refine J_iret X R dX10_seen_35 ?_
              rw [hE0] at hF
              rw [sc_stop (P := (fun i => ¬ snP s.f s.n k i)) (fun z => z.2 ⟨cq27, by omega⟩)] at hsc
              have hq : qSeen s k = snF s.f s.n k := (by unfold qSeen; repeat (first | (rw [if_pos (by omega)]; done) | (rw [if_neg (by omega)]; done) | rw [if_neg (by omega)]))
              exact ⟨_, rfl, Eq.trans (by unfold snF; rw [← hsc, if_pos (by omega)]) hq.symm, ⟨_, _, _, _, _, _, _, _, _, _, _, _, _, _, _, _, _, _, _, _, _, _, hM, hS, hTp, hRs, hEn, hLe, hMa, hPa, hAl, hHe, hUn, hRe, hOt, hIk, hLa, hLn, hCe, hMR⟩, hF⟩
    have e0 : smI (fun j => bI (¬ hid s.f s.n j)) 0 = 0 := rfl
    have hx := lp14 100 0 (by omega) rfl (by omega) (by omega)
    rw [e0, Int.sub_zero] at hx
    exact hx
  · refine J_iconst (q := 5) X dX10_seen_4 rfl ?_
    refine J_iret X R dX10_seen_5 ?_
    rw [hE0] at hF
    have hq : qSeen s k = -1 := (by unfold qSeen; repeat (first | (rw [if_pos (by omega)]; done) | (rw [if_neg (by omega)]; done) | rw [if_neg (by omega)]))
    exact ⟨_, rfl, Eq.trans (rfl) hq.symm, ⟨_, _, _, _, _, _, _, _, _, _, _, _, _, _, _, _, _, _, _, _, _, _, hM, hS, hTp, hRs, hEn, hLe, hMa, hPa, hAl, hHe, hUn, hRe, hOt, hIk, hLa, hLn, hCe, hMR⟩, hF⟩
