set_option maxRecDepth 100000 in
set_option maxHeartbeats 4000000 in
theorem c_X10_undo {l : Launch} {Γ : JG} {ad : Nat → Nat} {E : Nat → va_E} {s : KS} (hc : MI Γ ad E s) (hk : KV s) : JM l Γ yX10_undo cX10_undo 1 (some .int) 1 23 0 0 ad 95 E [.ref (ad 78)] (pI (fun z E' => z = (qUndo s).1 ∧ MI Γ ad E' (qUndo s).2 ∧ ∀ j : Nat, j < 78 → E' j = E j)) := by
  refine JM_intro (own := RX10) [some (.ref (ad 78))] rfl rfl rfl (Nat.le_of_ble_eq_true rfl) ?_
  intro Ω X R hin
  obtain ⟨E0, hE0⟩ : ∃ E0 : Nat → va_E, E0 = E := ⟨_, rfl⟩
  have hF : ∀ j : Nat, j < 78 → E j = E0 j := fun _ _ => by rw [hE0]
  obtain ⟨m2, m3, m4, m5, m6, m7, m8, m9, m10, m11, g, rs, ma, pa, al, he, un, re, ot, ln, lg, ce, hM, hS, hTp, hRs, hEn, hLe, hMa, hPa, hAl, hHe, hUn, hRe, hOt, hIk, hLa, hLn, hCe, hMR⟩ := id hc
  obtain ⟨hg, him, hrs, hun, hre, hsh⟩ := id hMR
  obtain ⟨hk0, hnow⟩ := id hk
  have hv := hk0.hv
  obtain ⟨hn, hvr⟩ := id hv
  obtain ⟨hgn, hgf⟩ := id hg
  have ho := hk0.ho
  have htb := hk0.htb
  obtain ⟨htl, -⟩ := id htb
  have hb := hk0.hb
  refine J_aload_n (q := 1) X dX10_undo_0 rfl rfl ?_
  refine J_get (q := 4) X dX10_undo_1 fX10_159 hM (by omega) rfl rfl ?_
  refine J_if_ne (q := 7) (tgt := 10) X dX10_undo_4 (by decide) rfl (by omega) (fun cq4 => ?_) (fun cq4 => ?_)
  · refine J_aload_n (q := 11) X dX10_undo_10 rfl rfl ?_
    refine J_aload_n (q := 12) X dX10_undo_11 rfl rfl ?_
    refine J_get (q := 15) X dX10_undo_12 fX10_40 hM (by omega) rfl rfl ?_
    refine J_aload_n (q := 16) X dX10_undo_15 rfl rfl ?_
    refine J_get (q := 19) X dX10_undo_16 fX10_162 hM (by omega) rfl rfl ?_
    refine J_callV (q := 22) (jrV X mX10_233 dX10_undo_19 (c_X10_keepsIn hM hS hRe (by omega) (Or.inr rfl)) hM (by omega) rfl rfl rfl rfl (Nat.le_of_ble_eq_true rfl) (by decide)) rfl (fun Ew19 hpq19 => ?_)
    obtain ⟨kRe, hsq19⟩ := hpq19
    replace hRe := kRe
    replace hM := (hsq19 78 (by omega)).trans hM
    replace hS := (hsq19 79 (by omega)).trans hS
    replace hTp := (hsq19 80 (by omega)).trans hTp
    replace hRs := (hsq19 81 (by omega)).trans hRs
    replace hEn := (hsq19 82 (by omega)).trans hEn
    replace hLe := (hsq19 83 (by omega)).trans hLe
    replace hMa := (hsq19 84 (by omega)).trans hMa
    replace hPa := (hsq19 85 (by omega)).trans hPa
    replace hAl := (hsq19 86 (by omega)).trans hAl
    replace hHe := (hsq19 87 (by omega)).trans hHe
    replace hUn := (hsq19 88 (by omega)).trans hUn
    replace hOt := (hsq19 90 (by omega)).trans hOt
    replace hIk := (hsq19 91 (by omega)).trans hIk
    replace hLa := (hsq19 92 (by omega)).trans hLa
    replace hLn := (hsq19 93 (by omega)).trans hLn
    replace hCe := (hsq19 94 (by omega)).trans hCe
    replace hF : ∀ j : Nat, j < 78 → Ew19 j = E0 j := fun j hj => (hsq19 j (by omega)).trans (hF j hj)
    refine J_aload_n (q := 23) X dX10_undo_22 rfl rfl ?_
    refine J_dup (q := 24) X dX10_undo_23 rfl rfl ?_
    refine J_get (q := 27) X dX10_undo_24 fX10_162 hM (by omega) rfl rfl ?_
    refine J_iconst (q := 28) X dX10_undo_27 rfl ?_
    refine J_iadd (q := 29) X dX10_undo_28 rfl ?_
    refine J_put (q := 32) (ty := .int) X dX10_undo_29 fX10_162 rfl (by decide +kernel) rfl rfl hM (by omega) (Nat.le_of_ble_eq_true rfl) rfl (fun Ew29 hkq29 hsq29 => ?_)
    replace hM : Ew29 78 = .inr (9, [.ref (ad 79), .ref (ad 80), .int (jI _), .int (jI _), .int (jI _), .int (jI _), .int (jI _), .int (jI _), .int (jI _), .int (jI _), .int (jI _), .int (jI _), .int (jI _), .int (jI _), .ref (ad 81), .ref (ad 82), .ref (ad 83), .ref (ad 84), .ref (ad 85), .ref (ad 86), .ref (ad 87), .ref (ad 88), .ref (ad 89), .int (jI _), .int (jI _), .ref (ad 90), .ref (ad 91), .ref (ad 92), .ref (ad 93), .ref (ad 94), .int (jI _)]) := hkq29
    replace hS := (hsq29 79 (by omega)).trans hS
    replace hTp := (hsq29 80 (by omega)).trans hTp
    replace hRs := (hsq29 81 (by omega)).trans hRs
    replace hEn := (hsq29 82 (by omega)).trans hEn
    replace hLe := (hsq29 83 (by omega)).trans hLe
    replace hMa := (hsq29 84 (by omega)).trans hMa
    replace hPa := (hsq29 85 (by omega)).trans hPa
    replace hAl := (hsq29 86 (by omega)).trans hAl
    replace hHe := (hsq29 87 (by omega)).trans hHe
    replace hUn := (hsq29 88 (by omega)).trans hUn
    replace hRe := (hsq29 89 (by omega)).trans hRe
    replace hOt := (hsq29 90 (by omega)).trans hOt
    replace hIk := (hsq29 91 (by omega)).trans hIk
    replace hLa := (hsq29 92 (by omega)).trans hLa
    replace hLn := (hsq29 93 (by omega)).trans hLn
    replace hCe := (hsq29 94 (by omega)).trans hCe
    replace hF : ∀ j : Nat, j < 78 → Ew29 j = E0 j := fun j hj => (hsq29 j (by omega)).trans (hF j hj)
    refine J_aload_n (q := 33) X dX10_undo_32 rfl rfl ?_
    refine J_dup (q := 34) X dX10_undo_33 rfl rfl ?_
    refine J_get (q := 37) X dX10_undo_34 fX10_159 hM (by omega) rfl rfl ?_
    refine J_iconst (q := 38) X dX10_undo_37 rfl ?_
    refine J_isub (q := 39) X dX10_undo_38 rfl ?_
    refine J_put (q := 42) (ty := .int) X dX10_undo_39 fX10_159 rfl (by decide +kernel) rfl rfl hM (by omega) (Nat.le_of_ble_eq_true rfl) rfl (fun Ew39 hkq39 hsq39 => ?_)
    replace hM : Ew39 78 = .inr (9, [.ref (ad 79), .ref (ad 80), .int (jI _), .int (jI _), .int (jI _), .int (jI _), .int (jI _), .int (jI _), .int (jI _), .int (jI _), .int (jI _), .int (jI _), .int (jI _), .int (jI _), .ref (ad 81), .ref (ad 82), .ref (ad 83), .ref (ad 84), .ref (ad 85), .ref (ad 86), .ref (ad 87), .ref (ad 88), .ref (ad 89), .int (jI _), .int (jI _), .ref (ad 90), .ref (ad 91), .ref (ad 92), .ref (ad 93), .ref (ad 94), .int (jI _)]) := hkq39
    replace hS := (hsq39 79 (by omega)).trans hS
    replace hTp := (hsq39 80 (by omega)).trans hTp
    replace hRs := (hsq39 81 (by omega)).trans hRs
    replace hEn := (hsq39 82 (by omega)).trans hEn
    replace hLe := (hsq39 83 (by omega)).trans hLe
    replace hMa := (hsq39 84 (by omega)).trans hMa
    replace hPa := (hsq39 85 (by omega)).trans hPa
    replace hAl := (hsq39 86 (by omega)).trans hAl
    replace hHe := (hsq39 87 (by omega)).trans hHe
    replace hUn := (hsq39 88 (by omega)).trans hUn
    replace hRe := (hsq39 89 (by omega)).trans hRe
    replace hOt := (hsq39 90 (by omega)).trans hOt
    replace hIk := (hsq39 91 (by omega)).trans hIk
    replace hLa := (hsq39 92 (by omega)).trans hLa
    replace hLn := (hsq39 93 (by omega)).trans hLn
    replace hCe := (hsq39 94 (by omega)).trans hCe
    replace hF : ∀ j : Nat, j < 78 → Ew39 j = E0 j := fun j hj => (hsq39 j (by omega)).trans (hF j hj)
    refine J_aload_n (q := 43) X dX10_undo_42 rfl rfl ?_
    refine J_aload_n (q := 44) X dX10_undo_43 rfl rfl ?_
    refine J_get (q := 47) X dX10_undo_44 fX10_37 hM (by omega) rfl rfl ?_
    refine J_aload_n (q := 48) X dX10_undo_47 rfl rfl ?_
    refine J_get (q := 51) X dX10_undo_48 fX10_159 hM (by omega) rfl rfl ?_
    refine J_callV (q := 54) (jrV X mX10_267 dX10_undo_51 (c_X10_comesFrom hM hS hUn (by omega) (Or.inl rfl)) hM (by omega) rfl rfl rfl rfl (Nat.le_of_ble_eq_true rfl) (by decide)) rfl (fun Ew51 hpq51 => ?_)
    obtain ⟨kS, hsq51⟩ := hpq51
    replace hS := kS
    replace hM := (hsq51 78 (by omega)).trans hM
    replace hTp := (hsq51 80 (by omega)).trans hTp
    replace hRs := (hsq51 81 (by omega)).trans hRs
    replace hEn := (hsq51 82 (by omega)).trans hEn
    replace hLe := (hsq51 83 (by omega)).trans hLe
    replace hMa := (hsq51 84 (by omega)).trans hMa
    replace hPa := (hsq51 85 (by omega)).trans hPa
    replace hAl := (hsq51 86 (by omega)).trans hAl
    replace hHe := (hsq51 87 (by omega)).trans hHe
    replace hUn := (hsq51 88 (by omega)).trans hUn
    replace hRe := (hsq51 89 (by omega)).trans hRe
    replace hOt := (hsq51 90 (by omega)).trans hOt
    replace hIk := (hsq51 91 (by omega)).trans hIk
    replace hLa := (hsq51 92 (by omega)).trans hLa
    replace hLn := (hsq51 93 (by omega)).trans hLn
    replace hCe := (hsq51 94 (by omega)).trans hCe
    replace hF : ∀ j : Nat, j < 78 → Ew51 j = E0 j := fun j hj => (hsq51 j (by omega)).trans (hF j hj)
    refine J_aload_n (q := 55) X dX10_undo_54 rfl rfl ?_
    refine J_callP (q := 58) (jrV X mX10_165 dX10_undo_55 (c_X10_many60 hM hS) hM (by omega) rfl rfl rfl rfl (Nat.le_of_ble_eq_true rfl) (by decide)) rfl ?_
    refine J_iret X R dX10_undo_58 ?_
    rw [hE0] at hF
    have hmr := MR_undo hk (by omega) hMR
    have hq : qUndo s = (s.hn ((s.o + (s.p - 1)) % 21).toNat, s.to (s.p - 1) (s.a + 1)) := (by unfold qUndo; rw [if_neg (by omega)])
    rw [hq]
    exact ⟨_, rfl, hmr.1.1, ⟨_, _, _, _, _, _, _, _, _, _, _, _, _, _, _, _, _, _, _, _, _, _, hM, hS, hTp, hRs, hEn, hLe, hMa, hPa, hAl, hHe, hUn, hRe, hOt, hIk, hLa, hLn, hCe, hmr⟩, hF⟩
  · refine J_bipush (q := 9) X dX10_undo_7 rfl (by decide) ?_
    refine J_iret X R dX10_undo_9 ?_
    rw [hE0] at hF
    have hq : qUndo s = (-2, s) := (by unfold qUndo; rw [if_pos (by omega)])
    rw [hq]
    exact ⟨_, rfl, rfl, ⟨_, _, _, _, _, _, _, _, _, _, _, _, _, _, _, _, _, _, _, _, _, _, hM, hS, hTp, hRs, hEn, hLe, hMa, hPa, hAl, hHe, hUn, hRe, hOt, hIk, hLa, hLn, hCe, hMR⟩, hF⟩

set_option maxRecDepth 100000 in
set_option maxHeartbeats 4000000 in
theorem c_X10_redo {l : Launch} {Γ : JG} {ad : Nat → Nat} {E : Nat → va_E} {s : KS} (hc : MI Γ ad E s) (hk : KV s) : JM l Γ yX10_redo cX10_redo 1 (some .int) 2 44 0 0 ad 95 E [.ref (ad 78)] (pI (fun z E' => z = (qRedo s).1 ∧ MI Γ ad E' (qRedo s).2 ∧ ∀ j : Nat, j < 78 → E' j = E j)) := by
  refine JM_intro (own := RX10) [some (.ref (ad 78))] rfl rfl rfl (Nat.le_of_ble_eq_true rfl) ?_
  intro Ω X R hin
  obtain ⟨E0, hE0⟩ : ∃ E0 : Nat → va_E, E0 = E := ⟨_, rfl⟩
  have hF : ∀ j : Nat, j < 78 → E j = E0 j := fun _ _ => by rw [hE0]
  obtain ⟨m2, m3, m4, m5, m6, m7, m8, m9, m10, m11, g, rs, ma, pa, al, he, un, re, ot, ln, lg, ce, hM, hS, hTp, hRs, hEn, hLe, hMa, hPa, hAl, hHe, hUn, hRe, hOt, hIk, hLa, hLn, hCe, hMR⟩ := id hc
  obtain ⟨hg, him, hrs, hun, hre, hsh⟩ := id hMR
  obtain ⟨hk0, hnow⟩ := id hk
  have hv := hk0.hv
  obtain ⟨hn, hvr⟩ := id hv
  obtain ⟨hgn, hgf⟩ := id hg
  have ho := hk0.ho
  have htb := hk0.htb
  obtain ⟨htl, -⟩ := id htb
  have hb := hk0.hb
  refine J_aload_n (q := 1) X dX10_redo_0 rfl rfl ?_
  refine J_get (q := 4) X dX10_redo_1 fX10_162 hM (by omega) rfl rfl ?_
  refine J_if_ne (q := 7) (tgt := 10) X dX10_redo_4 (by decide) rfl (by omega) (fun cq4 => ?_) (fun cq4 => ?_)
  · refine J_aload_n (q := 11) X dX10_redo_10 rfl rfl ?_
    refine J_callV (q := 14) (jrV X mX10_237 dX10_redo_11 (c_X10_remembers hM hS hUn (by omega)) hM (by omega) rfl rfl rfl rfl (Nat.le_of_ble_eq_true rfl) (by decide)) rfl (fun Ew11 hpq11 => ?_)
    obtain ⟨unq11, kM, kUn, huaq11, hubq11, hsq11⟩ := hpq11
    replace hM := kM
    replace hUn := kUn
    have ep : (if s.p = 20 then (20 : Int) else s.p + 1) = s.p + 1 := if_neg (by omega)
    rw [ep] at hM
    replace hS := (hsq11 79 (by omega)).trans hS
    replace hTp := (hsq11 80 (by omega)).trans hTp
    replace hRs := (hsq11 81 (by omega)).trans hRs
    replace hEn := (hsq11 82 (by omega)).trans hEn
    replace hLe := (hsq11 83 (by omega)).trans hLe
    replace hMa := (hsq11 84 (by omega)).trans hMa
    replace hPa := (hsq11 85 (by omega)).trans hPa
    replace hAl := (hsq11 86 (by omega)).trans hAl
    replace hHe := (hsq11 87 (by omega)).trans hHe
    replace hRe := (hsq11 89 (by omega)).trans hRe
    replace hOt := (hsq11 90 (by omega)).trans hOt
    replace hIk := (hsq11 91 (by omega)).trans hIk
    replace hLa := (hsq11 92 (by omega)).trans hLa
    replace hLn := (hsq11 93 (by omega)).trans hLn
    replace hCe := (hsq11 94 (by omega)).trans hCe
    replace hF : ∀ j : Nat, j < 78 → Ew11 j = E0 j := fun j hj => (hsq11 j (by omega)).trans (hF j hj)
    refine J_aload_n (q := 15) X dX10_redo_14 rfl rfl ?_
    refine J_dup (q := 16) X dX10_redo_15 rfl rfl ?_
    refine J_get (q := 19) X dX10_redo_16 fX10_162 hM (by omega) rfl rfl ?_
    refine J_iconst (q := 20) X dX10_redo_19 rfl ?_
    refine J_isub (q := 21) X dX10_redo_20 rfl ?_
    refine J_put (q := 24) (ty := .int) X dX10_redo_21 fX10_162 rfl (by decide +kernel) rfl rfl hM (by omega) (Nat.le_of_ble_eq_true rfl) rfl (fun Ew21 hkq21 hsq21 => ?_)
    replace hM : Ew21 78 = .inr (9, [.ref (ad 79), .ref (ad 80), .int (jI _), .int (jI _), .int (jI _), .int (jI _), .int (jI _), .int (jI _), .int (jI _), .int (jI _), .int (jI _), .int (jI _), .int (jI _), .int (jI _), .ref (ad 81), .ref (ad 82), .ref (ad 83), .ref (ad 84), .ref (ad 85), .ref (ad 86), .ref (ad 87), .ref (ad 88), .ref (ad 89), .int (jI _), .int (jI _), .ref (ad 90), .ref (ad 91), .ref (ad 92), .ref (ad 93), .ref (ad 94), .int (jI _)]) := hkq21
    replace hS := (hsq21 79 (by omega)).trans hS
    replace hTp := (hsq21 80 (by omega)).trans hTp
    replace hRs := (hsq21 81 (by omega)).trans hRs
    replace hEn := (hsq21 82 (by omega)).trans hEn
    replace hLe := (hsq21 83 (by omega)).trans hLe
    replace hMa := (hsq21 84 (by omega)).trans hMa
    replace hPa := (hsq21 85 (by omega)).trans hPa
    replace hAl := (hsq21 86 (by omega)).trans hAl
    replace hHe := (hsq21 87 (by omega)).trans hHe
    replace hUn := (hsq21 88 (by omega)).trans hUn
    replace hRe := (hsq21 89 (by omega)).trans hRe
    replace hOt := (hsq21 90 (by omega)).trans hOt
    replace hIk := (hsq21 91 (by omega)).trans hIk
    replace hLa := (hsq21 92 (by omega)).trans hLa
    replace hLn := (hsq21 93 (by omega)).trans hLn
    replace hCe := (hsq21 94 (by omega)).trans hCe
    replace hF : ∀ j : Nat, j < 78 → Ew21 j = E0 j := fun j hj => (hsq21 j (by omega)).trans (hF j hj)
    refine J_aload_n (q := 25) X dX10_redo_24 rfl rfl ?_
    refine J_aload_n (q := 26) X dX10_redo_25 rfl rfl ?_
    refine J_get (q := 29) X dX10_redo_26 fX10_40 hM (by omega) rfl rfl ?_
    refine J_aload_n (q := 30) X dX10_redo_29 rfl rfl ?_
    refine J_get (q := 33) X dX10_redo_30 fX10_162 hM (by omega) rfl rfl ?_
    refine J_callV (q := 36) (jrV X mX10_267 dX10_redo_33 (c_X10_comesFrom hM hS hRe (by omega) (Or.inr rfl)) hM (by omega) rfl rfl rfl rfl (Nat.le_of_ble_eq_true rfl) (by decide)) rfl (fun Ew33 hpq33 => ?_)
    obtain ⟨kS, hsq33⟩ := hpq33
    replace hS := kS
    replace hM := (hsq33 78 (by omega)).trans hM
    replace hTp := (hsq33 80 (by omega)).trans hTp
    replace hRs := (hsq33 81 (by omega)).trans hRs
    replace hEn := (hsq33 82 (by omega)).trans hEn
    replace hLe := (hsq33 83 (by omega)).trans hLe
    replace hMa := (hsq33 84 (by omega)).trans hMa
    replace hPa := (hsq33 85 (by omega)).trans hPa
    replace hAl := (hsq33 86 (by omega)).trans hAl
    replace hHe := (hsq33 87 (by omega)).trans hHe
    replace hUn := (hsq33 88 (by omega)).trans hUn
    replace hRe := (hsq33 89 (by omega)).trans hRe
    replace hOt := (hsq33 90 (by omega)).trans hOt
    replace hIk := (hsq33 91 (by omega)).trans hIk
    replace hLa := (hsq33 92 (by omega)).trans hLa
    replace hLn := (hsq33 93 (by omega)).trans hLn
    replace hCe := (hsq33 94 (by omega)).trans hCe
    replace hF : ∀ j : Nat, j < 78 → Ew33 j = E0 j := fun j hj => (hsq33 j (by omega)).trans (hF j hj)
    refine J_aload_n (q := 37) X dX10_redo_36 rfl rfl ?_
    refine J_callP (q := 40) (jrV X mX10_165 dX10_redo_37 (c_X10_many60 hM hS) hM (by omega) rfl rfl rfl rfl (Nat.le_of_ble_eq_true rfl) (by decide)) rfl ?_
    refine J_iret X R dX10_redo_40 ?_
    rw [hE0] at hF
    have hmr := MR_redo hk (by omega) hMR huaq11 hubq11
    have hq : qRedo s = (s.hn ((s.o + (s.p + 1)) % 21).toNat, s.to (s.p + 1) (s.a - 1)) := (by unfold qRedo; rw [if_neg (by omega)])
    rw [hq]
    exact ⟨_, rfl, hmr.1.1, ⟨_, _, _, _, _, _, _, _, _, _, _, _, _, _, _, _, _, _, _, _, _, _, hM, hS, hTp, hRs, hEn, hLe, hMa, hPa, hAl, hHe, hUn, hRe, hOt, hIk, hLa, hLn, hCe, hmr⟩, hF⟩
  · refine J_bipush (q := 9) X dX10_redo_7 rfl (by decide) ?_
    refine J_iret X R dX10_redo_9 ?_
    rw [hE0] at hF
    have hq : qRedo s = (-2, s) := (by unfold qRedo; rw [if_pos (by omega)])
    rw [hq]
    exact ⟨_, rfl, rfl, ⟨_, _, _, _, _, _, _, _, _, _, _, _, _, _, _, _, _, _, _, _, _, _, hM, hS, hTp, hRs, hEn, hLe, hMa, hPa, hAl, hHe, hUn, hRe, hOt, hIk, hLa, hLn, hCe, hMR⟩, hF⟩

set_option maxRecDepth 100000 in
set_option maxHeartbeats 4000000 in
theorem c_X10_keep {l : Launch} {Γ : JG} {ad : Nat → Nat} {E : Nat → va_E} {s : KS} {k : Int} (hc : MI Γ ad E s) (hk : KV s) (hbk : -2147483648 ≤ k ∧ k < 2147483648) : JM l Γ yX10_keep cX10_keep 3 (some .int) 1 25 0 0 ad 95 E [.ref (ad 78), .int (jI k)] (pI (fun z E' => z = (qKeep s k).1 ∧ MI Γ ad E' (qKeep s k).2 ∧ ∀ j : Nat, j < 78 → E' j = E j)) := by
  refine JM_intro (own := RX10) [some (.ref (ad 78)), some (.int (jI k)), none] rfl rfl rfl (Nat.le_of_ble_eq_true rfl) ?_
  intro Ω X R hin
  obtain ⟨E0, hE0⟩ : ∃ E0 : Nat → va_E, E0 = E := ⟨_, rfl⟩
  have hF : ∀ j : Nat, j < 78 → E j = E0 j := fun _ _ => by rw [hE0]
  obtain ⟨m2, m3, m4, m5, m6, m7, m8, m9, m10, m11, g, rs, ma, pa, al, he, un, re, ot, ln, lg, ce, hM, hS, hTp, hRs, hEn, hLe, hMa, hPa, hAl, hHe, hUn, hRe, hOt, hIk, hLa, hLn, hCe, hMR⟩ := id hc
  obtain ⟨hg, him, hrs, hun, hre, hsh⟩ := id hMR
  obtain ⟨hk0, hnow⟩ := id hk
  have hv := hk0.hv
  obtain ⟨hn, hvr⟩ := id hv
  obtain ⟨hgn, hgf⟩ := id hg
  have ho := hk0.ho
  have htb := hk0.htb
  obtain ⟨htl, -⟩ := id htb
  have hb := hk0.hb
  refine J_iload_n (q := 1) X dX10_keep_0 rfl rfl ?_
  refine J_i2l (q := 2) X dX10_keep_1 rfl (by omega) ?_
  refine J_lconst (q := 3) (v := 0) X dX10_keep_2 (by decide) rfl ?_
  refine J_lconst (q := 4) (v := 1) X dX10_keep_3 (by decide) rfl ?_
  refine J_callP (q := 7) (jrS X mX10_61 dX10_keep_4 (c_X10_in (by omega) (by omega) (by omega)) rfl rfl (Nat.le_of_ble_eq_true rfl) (by decide)) rfl ?_
  refine J_if_neB (q := 10) (tgt := 12) X dX10_keep_7 (by decide) rfl (fun cq7 => ?_) (fun cq7 => ?_)
  · have hkk := hk0.hkp k (by omega) (by omega)
    refine J_aload_n (q := 13) X dX10_keep_12 rfl rfl ?_
    refine J_get (q := 16) X dX10_keep_13 fX10_46 hM (by omega) rfl rfl ?_
    refine J_iload_n (q := 17) X dX10_keep_16 rfl rfl ?_
    refine J_zald (q := 18) X dX10_keep_17 hIk (by omega) (by omega) (by decide) rfl ?_
    refine J_if_eq (q := 21) (tgt := 25) X dX10_keep_18 (by decide) rfl (by omega) (fun cq18 => ?_) (fun cq18 => ?_)
    · refine J_iconst (q := 26) X dX10_keep_25 rfl ?_
      refine J_istore_n (q := 27) X dX10_keep_26 (by decide) rfl rfl ?_
      refine J_aload_n (q := 28) X dX10_keep_27 rfl rfl ?_
      refine J_iconst (q := 29) X dX10_keep_28 rfl ?_
      refine J_bipush (q := 31) X dX10_keep_29 rfl (by decide) ?_
      refine J_iload_n (q := 32) X dX10_keep_31 rfl rfl ?_
      refine J_imul (q := 33) X dX10_keep_32 rfl ?_
      refine J_bipush (q := 35) X dX10_keep_33 rfl (by decide) ?_
      refine J_iadd (q := 36) X dX10_keep_35 rfl ?_
      refine J_callV (q := 39) (jrV X mX10_155 dX10_keep_36 (c_X10_copies hM hS (by omega)) hM (by omega) rfl rfl rfl rfl (Nat.le_of_ble_eq_true rfl) (by decide)) rfl (fun Ew36 hpq36 => ?_)
      obtain ⟨kS, hsq36⟩ := hpq36
      replace hS := kS
      replace hM := (hsq36 78 (by omega)).trans hM
      replace hTp := (hsq36 80 (by omega)).trans hTp
      replace hRs := (hsq36 81 (by omega)).trans hRs
      replace hEn := (hsq36 82 (by omega)).trans hEn
      replace hLe := (hsq36 83 (by omega)).trans hLe
      replace hMa := (hsq36 84 (by omega)).trans hMa
      replace hPa := (hsq36 85 (by omega)).trans hPa
      replace hAl := (hsq36 86 (by omega)).trans hAl
      replace hHe := (hsq36 87 (by omega)).trans hHe
      replace hUn := (hsq36 88 (by omega)).trans hUn
      replace hRe := (hsq36 89 (by omega)).trans hRe
      replace hOt := (hsq36 90 (by omega)).trans hOt
      replace hIk := (hsq36 91 (by omega)).trans hIk
      replace hLa := (hsq36 92 (by omega)).trans hLa
      replace hLn := (hsq36 93 (by omega)).trans hLn
      replace hCe := (hsq36 94 (by omega)).trans hCe
      replace hF : ∀ j : Nat, j < 78 → Ew36 j = E0 j := fun j hj => (hsq36 j (by omega)).trans (hF j hj)
      refine J_aload_n (q := 40) X dX10_keep_39 rfl rfl ?_
      refine J_get (q := 43) X dX10_keep_40 fX10_46 hM (by omega) rfl rfl ?_
      refine J_iload_n (q := 44) X dX10_keep_43 rfl rfl ?_
      refine J_iconst (q := 45) X dX10_keep_44 rfl ?_
      refine J_zast (q := 46) X dX10_keep_45 hIk (by omega) (by omega) (by decide) (by omega) rfl (fun Ew45 hkq45 hsq45 => ?_)
      replace hIk := hkq45
      replace hM := (hsq45 78 (by omega)).trans hM
      replace hS := (hsq45 79 (by omega)).trans hS
      replace hTp := (hsq45 80 (by omega)).trans hTp
      replace hRs := (hsq45 81 (by omega)).trans hRs
      replace hEn := (hsq45 82 (by omega)).trans hEn
      replace hLe := (hsq45 83 (by omega)).trans hLe
      replace hMa := (hsq45 84 (by omega)).trans hMa
      replace hPa := (hsq45 85 (by omega)).trans hPa
      replace hAl := (hsq45 86 (by omega)).trans hAl
      replace hHe := (hsq45 87 (by omega)).trans hHe
      replace hUn := (hsq45 88 (by omega)).trans hUn
      replace hRe := (hsq45 89 (by omega)).trans hRe
      replace hOt := (hsq45 90 (by omega)).trans hOt
      replace hLa := (hsq45 92 (by omega)).trans hLa
      replace hLn := (hsq45 93 (by omega)).trans hLn
      replace hCe := (hsq45 94 (by omega)).trans hCe
      replace hF : ∀ j : Nat, j < 78 → Ew45 j = E0 j := fun j hj => (hsq45 j (by omega)).trans (hF j hj)
      refine J_iload_n (q := 47) X dX10_keep_46 rfl rfl ?_
      refine J_iret X R dX10_keep_47 ?_
      rw [hE0] at hF
      have hq : qKeep s k = (s.kp k, s.kept k) := (by unfold qKeep; rw [if_neg (by omega)])
      rw [hq]
      exact ⟨_, rfl, (by omega), ⟨_, _, _, _, _, _, _, _, _, _, _, _, _, _, _, _, _, _, _, _, _, _, hM, hS, hTp, hRs, hEn, hLe, hMa, hPa, hAl, hHe, hUn, hRe, hOt, hIk, hLa, hLn, hCe, (MR_keep hk (by omega) hMR)⟩, hF⟩
    · refine J_iconst (q := 22) X dX10_keep_21 rfl ?_
      refine J_goto (q := 26) X dX10_keep_22 (by decide) ?_
      refine J_istore_n (q := 27) X dX10_keep_26 (by decide) rfl rfl ?_
      refine J_aload_n (q := 28) X dX10_keep_27 rfl rfl ?_
      refine J_iconst (q := 29) X dX10_keep_28 rfl ?_
      refine J_bipush (q := 31) X dX10_keep_29 rfl (by decide) ?_
      refine J_iload_n (q := 32) X dX10_keep_31 rfl rfl ?_
      refine J_imul (q := 33) X dX10_keep_32 rfl ?_
      refine J_bipush (q := 35) X dX10_keep_33 rfl (by decide) ?_
      refine J_iadd (q := 36) X dX10_keep_35 rfl ?_
      refine J_callV (q := 39) (jrV X mX10_155 dX10_keep_36 (c_X10_copies hM hS (by omega)) hM (by omega) rfl rfl rfl rfl (Nat.le_of_ble_eq_true rfl) (by decide)) rfl (fun Ew36 hpq36 => ?_)
      obtain ⟨kS, hsq36⟩ := hpq36
      replace hS := kS
      replace hM := (hsq36 78 (by omega)).trans hM
      replace hTp := (hsq36 80 (by omega)).trans hTp
      replace hRs := (hsq36 81 (by omega)).trans hRs
      replace hEn := (hsq36 82 (by omega)).trans hEn
      replace hLe := (hsq36 83 (by omega)).trans hLe
      replace hMa := (hsq36 84 (by omega)).trans hMa
      replace hPa := (hsq36 85 (by omega)).trans hPa
      replace hAl := (hsq36 86 (by omega)).trans hAl
      replace hHe := (hsq36 87 (by omega)).trans hHe
      replace hUn := (hsq36 88 (by omega)).trans hUn
      replace hRe := (hsq36 89 (by omega)).trans hRe
      replace hOt := (hsq36 90 (by omega)).trans hOt
      replace hIk := (hsq36 91 (by omega)).trans hIk
      replace hLa := (hsq36 92 (by omega)).trans hLa
      replace hLn := (hsq36 93 (by omega)).trans hLn
      replace hCe := (hsq36 94 (by omega)).trans hCe
      replace hF : ∀ j : Nat, j < 78 → Ew36 j = E0 j := fun j hj => (hsq36 j (by omega)).trans (hF j hj)
      refine J_aload_n (q := 40) X dX10_keep_39 rfl rfl ?_
      refine J_get (q := 43) X dX10_keep_40 fX10_46 hM (by omega) rfl rfl ?_
      refine J_iload_n (q := 44) X dX10_keep_43 rfl rfl ?_
      refine J_iconst (q := 45) X dX10_keep_44 rfl ?_
      refine J_zast (q := 46) X dX10_keep_45 hIk (by omega) (by omega) (by decide) (by omega) rfl (fun Ew45 hkq45 hsq45 => ?_)
      replace hIk := hkq45
      replace hM := (hsq45 78 (by omega)).trans hM
      replace hS := (hsq45 79 (by omega)).trans hS
      replace hTp := (hsq45 80 (by omega)).trans hTp
      replace hRs := (hsq45 81 (by omega)).trans hRs
      replace hEn := (hsq45 82 (by omega)).trans hEn
      replace hLe := (hsq45 83 (by omega)).trans hLe
      replace hMa := (hsq45 84 (by omega)).trans hMa
      replace hPa := (hsq45 85 (by omega)).trans hPa
      replace hAl := (hsq45 86 (by omega)).trans hAl
      replace hHe := (hsq45 87 (by omega)).trans hHe
      replace hUn := (hsq45 88 (by omega)).trans hUn
      replace hRe := (hsq45 89 (by omega)).trans hRe
      replace hOt := (hsq45 90 (by omega)).trans hOt
      replace hLa := (hsq45 92 (by omega)).trans hLa
      replace hLn := (hsq45 93 (by omega)).trans hLn
      replace hCe := (hsq45 94 (by omega)).trans hCe
      replace hF : ∀ j : Nat, j < 78 → Ew45 j = E0 j := fun j hj => (hsq45 j (by omega)).trans (hF j hj)
      refine J_iload_n (q := 47) X dX10_keep_46 rfl rfl ?_
      refine J_iret X R dX10_keep_47 ?_
      rw [hE0] at hF
      have hq : qKeep s k = (s.kp k, s.kept k) := (by unfold qKeep; rw [if_neg (by omega)])
      rw [hq]
      exact ⟨_, rfl, (by omega), ⟨_, _, _, _, _, _, _, _, _, _, _, _, _, _, _, _, _, _, _, _, _, _, hM, hS, hTp, hRs, hEn, hLe, hMa, hPa, hAl, hHe, hUn, hRe, hOt, hIk, hLa, hLn, hCe, (MR_keep hk (by omega) hMR)⟩, hF⟩
  · refine J_iconst (q := 11) X dX10_keep_10 rfl ?_
    refine J_iret X R dX10_keep_11 ?_
    rw [hE0] at hF
    have hq : qKeep s k = (-1, s) := (by unfold qKeep; rw [if_pos (by omega)])
    rw [hq]
    exact ⟨_, rfl, rfl, ⟨_, _, _, _, _, _, _, _, _, _, _, _, _, _, _, _, _, _, _, _, _, _, hM, hS, hTp, hRs, hEn, hLe, hMa, hPa, hAl, hHe, hUn, hRe, hOt, hIk, hLa, hLn, hCe, hMR⟩, hF⟩

set_option maxRecDepth 100000 in
set_option maxHeartbeats 4000000 in
theorem c_X10_back {l : Launch} {Γ : JG} {ad : Nat → Nat} {E : Nat → va_E} {s : KS} {k : Int} (hc : MI Γ ad E s) (hk : KV s) (hbk : -2147483648 ≤ k ∧ k < 2147483648) : JM l Γ yX10_back cX10_back 2 (some .int) 1 25 0 0 ad 95 E [.ref (ad 78), .int (jI k)] (pI (fun z E' => z = (qBack s k).1 ∧ MI Γ ad E' (qBack s k).2 ∧ ∀ j : Nat, j < 78 → E' j = E j)) := by
  refine JM_intro (own := RX10) [some (.ref (ad 78)), some (.int (jI k))] rfl rfl rfl (Nat.le_of_ble_eq_true rfl) ?_
  intro Ω X R hin
  obtain ⟨E0, hE0⟩ : ∃ E0 : Nat → va_E, E0 = E := ⟨_, rfl⟩
  have hF : ∀ j : Nat, j < 78 → E j = E0 j := fun _ _ => by rw [hE0]
  obtain ⟨m2, m3, m4, m5, m6, m7, m8, m9, m10, m11, g, rs, ma, pa, al, he, un, re, ot, ln, lg, ce, hM, hS, hTp, hRs, hEn, hLe, hMa, hPa, hAl, hHe, hUn, hRe, hOt, hIk, hLa, hLn, hCe, hMR⟩ := id hc
  obtain ⟨hg, him, hrs, hun, hre, hsh⟩ := id hMR
  obtain ⟨hk0, hnow⟩ := id hk
  have hv := hk0.hv
  obtain ⟨hn, hvr⟩ := id hv
  obtain ⟨hgn, hgf⟩ := id hg
  have ho := hk0.ho
  have htb := hk0.htb
  obtain ⟨htl, -⟩ := id htb
  have hb := hk0.hb
  refine J_iload_n (q := 1) X dX10_back_0 rfl rfl ?_
  refine J_i2l (q := 2) X dX10_back_1 rfl (by omega) ?_
  refine J_lconst (q := 3) (v := 0) X dX10_back_2 (by decide) rfl ?_
  refine J_lconst (q := 4) (v := 1) X dX10_back_3 (by decide) rfl ?_
  refine J_callP (q := 7) (jrS X mX10_61 dX10_back_4 (c_X10_in (by omega) (by omega) (by omega)) rfl rfl (Nat.le_of_ble_eq_true rfl) (by decide)) rfl ?_
  refine J_if_neB (q := 10) (tgt := 12) X dX10_back_7 (by decide) rfl (fun cq7 => ?_) (fun cq7 => ?_)
  · have hkk := hk0.hkp k (by omega) (by omega)
    refine J_aload_n (q := 13) X dX10_back_12 rfl rfl ?_
    refine J_get (q := 16) X dX10_back_13 fX10_46 hM (by omega) rfl rfl ?_
    refine J_iload_n (q := 17) X dX10_back_16 rfl rfl ?_
    refine J_zald (q := 18) X dX10_back_17 hIk (by omega) (by omega) (by decide) rfl ?_
    refine J_if_ne (q := 21) (tgt := 24) X dX10_back_18 (by decide) rfl (by omega) (fun cq18 => ?_) (fun cq18 => ?_)
    · refine J_aload_n (q := 25) X dX10_back_24 rfl rfl ?_
      refine J_bipush (q := 27) X dX10_back_25 rfl (by decide) ?_
      refine J_iload_n (q := 28) X dX10_back_27 rfl rfl ?_
      refine J_imul (q := 29) X dX10_back_28 rfl ?_
      refine J_bipush (q := 31) X dX10_back_29 rfl (by decide) ?_
      refine J_iadd (q := 32) X dX10_back_31 rfl ?_
      refine J_iconst (q := 33) X dX10_back_32 rfl ?_
      refine J_callV (q := 36) (jrV X mX10_155 dX10_back_33 (c_X10_copies hM hS (by omega)) hM (by omega) rfl rfl rfl rfl (Nat.le_of_ble_eq_true rfl) (by decide)) rfl (fun Ew33 hpq33 => ?_)
      obtain ⟨kS, hsq33⟩ := hpq33
      replace hS := kS
      replace hM := (hsq33 78 (by omega)).trans hM
      replace hTp := (hsq33 80 (by omega)).trans hTp
      replace hRs := (hsq33 81 (by omega)).trans hRs
      replace hEn := (hsq33 82 (by omega)).trans hEn
      replace hLe := (hsq33 83 (by omega)).trans hLe
      replace hMa := (hsq33 84 (by omega)).trans hMa
      replace hPa := (hsq33 85 (by omega)).trans hPa
      replace hAl := (hsq33 86 (by omega)).trans hAl
      replace hHe := (hsq33 87 (by omega)).trans hHe
      replace hUn := (hsq33 88 (by omega)).trans hUn
      replace hRe := (hsq33 89 (by omega)).trans hRe
      replace hOt := (hsq33 90 (by omega)).trans hOt
      replace hIk := (hsq33 91 (by omega)).trans hIk
      replace hLa := (hsq33 92 (by omega)).trans hLa
      replace hLn := (hsq33 93 (by omega)).trans hLn
      replace hCe := (hsq33 94 (by omega)).trans hCe
      replace hF : ∀ j : Nat, j < 78 → Ew33 j = E0 j := fun j hj => (hsq33 j (by omega)).trans (hF j hj)
      refine J_aload_n (q := 37) X dX10_back_36 rfl rfl ?_
      refine J_iconst (q := 38) X dX10_back_37 rfl ?_
      refine J_put (q := 41) (ty := .int) X dX10_back_38 fX10_159 rfl (by decide +kernel) rfl rfl hM (by omega) (Nat.le_of_ble_eq_true rfl) rfl (fun Ew38 hkq38 hsq38 => ?_)
      replace hM : Ew38 78 = .inr (9, [.ref (ad 79), .ref (ad 80), .int (jI _), .int (jI _), .int (jI _), .int (jI _), .int (jI _), .int (jI _), .int (jI _), .int (jI _), .int (jI _), .int (jI _), .int (jI _), .int (jI _), .ref (ad 81), .ref (ad 82), .ref (ad 83), .ref (ad 84), .ref (ad 85), .ref (ad 86), .ref (ad 87), .ref (ad 88), .ref (ad 89), .int (jI _), .int (jI _), .ref (ad 90), .ref (ad 91), .ref (ad 92), .ref (ad 93), .ref (ad 94), .int (jI _)]) := hkq38
      replace hS := (hsq38 79 (by omega)).trans hS
      replace hTp := (hsq38 80 (by omega)).trans hTp
      replace hRs := (hsq38 81 (by omega)).trans hRs
      replace hEn := (hsq38 82 (by omega)).trans hEn
      replace hLe := (hsq38 83 (by omega)).trans hLe
      replace hMa := (hsq38 84 (by omega)).trans hMa
      replace hPa := (hsq38 85 (by omega)).trans hPa
      replace hAl := (hsq38 86 (by omega)).trans hAl
      replace hHe := (hsq38 87 (by omega)).trans hHe
      replace hUn := (hsq38 88 (by omega)).trans hUn
      replace hRe := (hsq38 89 (by omega)).trans hRe
      replace hOt := (hsq38 90 (by omega)).trans hOt
      replace hIk := (hsq38 91 (by omega)).trans hIk
      replace hLa := (hsq38 92 (by omega)).trans hLa
      replace hLn := (hsq38 93 (by omega)).trans hLn
      replace hCe := (hsq38 94 (by omega)).trans hCe
      replace hF : ∀ j : Nat, j < 78 → Ew38 j = E0 j := fun j hj => (hsq38 j (by omega)).trans (hF j hj)
      refine J_aload_n (q := 42) X dX10_back_41 rfl rfl ?_
      refine J_iconst (q := 43) X dX10_back_42 rfl ?_
      refine J_put (q := 46) (ty := .int) X dX10_back_43 fX10_162 rfl (by decide +kernel) rfl rfl hM (by omega) (Nat.le_of_ble_eq_true rfl) rfl (fun Ew43 hkq43 hsq43 => ?_)
      replace hM : Ew43 78 = .inr (9, [.ref (ad 79), .ref (ad 80), .int (jI _), .int (jI _), .int (jI _), .int (jI _), .int (jI _), .int (jI _), .int (jI _), .int (jI _), .int (jI _), .int (jI _), .int (jI _), .int (jI _), .ref (ad 81), .ref (ad 82), .ref (ad 83), .ref (ad 84), .ref (ad 85), .ref (ad 86), .ref (ad 87), .ref (ad 88), .ref (ad 89), .int (jI _), .int (jI _), .ref (ad 90), .ref (ad 91), .ref (ad 92), .ref (ad 93), .ref (ad 94), .int (jI _)]) := hkq43
      replace hS := (hsq43 79 (by omega)).trans hS
      replace hTp := (hsq43 80 (by omega)).trans hTp
      replace hRs := (hsq43 81 (by omega)).trans hRs
      replace hEn := (hsq43 82 (by omega)).trans hEn
      replace hLe := (hsq43 83 (by omega)).trans hLe
      replace hMa := (hsq43 84 (by omega)).trans hMa
      replace hPa := (hsq43 85 (by omega)).trans hPa
      replace hAl := (hsq43 86 (by omega)).trans hAl
      replace hHe := (hsq43 87 (by omega)).trans hHe
      replace hUn := (hsq43 88 (by omega)).trans hUn
      replace hRe := (hsq43 89 (by omega)).trans hRe
      replace hOt := (hsq43 90 (by omega)).trans hOt
      replace hIk := (hsq43 91 (by omega)).trans hIk
      replace hLa := (hsq43 92 (by omega)).trans hLa
      replace hLn := (hsq43 93 (by omega)).trans hLn
      replace hCe := (hsq43 94 (by omega)).trans hCe
      replace hF : ∀ j : Nat, j < 78 → Ew43 j = E0 j := fun j hj => (hsq43 j (by omega)).trans (hF j hj)
      refine J_aload_n (q := 47) X dX10_back_46 rfl rfl ?_
      refine J_callP (q := 50) (jrV X mX10_165 dX10_back_47 (c_X10_many60 hM hS) hM (by omega) rfl rfl rfl rfl (Nat.le_of_ble_eq_true rfl) (by decide)) rfl ?_
      refine J_iret X R dX10_back_50 ?_
      rw [hE0] at hF
      have hmr := MR_back hk (k := k) (by omega) hMR
      have hq : qBack s k = (s.im k.toNat, (s.row (s.im k.toNat) (icp (s.imf k.toNat) s.f 0 0 (s.im k.toNat))).anew) := (by unfold qBack; rw [if_neg (by omega), if_neg (by omega)])
      rw [hq]
      exact ⟨_, rfl, hmr.1.1, ⟨_, _, _, _, _, _, _, _, _, _, _, _, _, _, _, _, _, _, _, _, _, _, hM, hS, hTp, hRs, hEn, hLe, hMa, hPa, hAl, hHe, hUn, hRe, hOt, hIk, hLa, hLn, hCe, hmr⟩, hF⟩
    · refine J_bipush (q := 23) X dX10_back_21 rfl (by decide) ?_
      refine J_iret X R dX10_back_23 ?_
      rw [hE0] at hF
      have hq : qBack s k = (-2, s) := (by unfold qBack; rw [if_neg (by omega), if_pos (by omega)])
      rw [hq]
      exact ⟨_, rfl, rfl, ⟨_, _, _, _, _, _, _, _, _, _, _, _, _, _, _, _, _, _, _, _, _, _, hM, hS, hTp, hRs, hEn, hLe, hMa, hPa, hAl, hHe, hUn, hRe, hOt, hIk, hLa, hLn, hCe, hMR⟩, hF⟩
  · refine J_iconst (q := 11) X dX10_back_10 rfl ?_
    refine J_iret X R dX10_back_11 ?_
    rw [hE0] at hF
    have hq : qBack s k = (-1, s) := (by unfold qBack; rw [if_pos (by omega)])
    rw [hq]
    exact ⟨_, rfl, rfl, ⟨_, _, _, _, _, _, _, _, _, _, _, _, _, _, _, _, _, _, _, _, _, _, hM, hS, hTp, hRs, hEn, hLe, hMa, hPa, hAl, hHe, hUn, hRe, hOt, hIk, hLa, hLn, hCe, hMR⟩, hF⟩
