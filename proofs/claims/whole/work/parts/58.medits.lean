set_option maxRecDepth 100000 in
set_option maxHeartbeats 4000000 in
theorem c_X10_put {l : Launch} {Γ : JG} {ad : Nat → Nat} {E : Nat → va_E} {s : KS} {i c : Int} (hc : MI Γ ad E s) (hk : KV s) (hbi : -2147483648 ≤ i ∧ i < 2147483648) (hbc : -2147483648 ≤ c ∧ c < 2147483648) : JM l Γ yX10_put cX10_put 4 (some .int) 3 64 0 0 ad 95 E [.ref (ad 78), .int (jI i), .int (jI c)] (pI (fun z E' => z = (qPut s i c).1 ∧ MI Γ ad E' (qPut s i c).2 ∧ ∀ j : Nat, j < 78 → E' j = E j)) := by
  refine JM_intro (own := RX10) [some (.ref (ad 78)), some (.int (jI i)), some (.int (jI c)), none] rfl rfl rfl (Nat.le_of_ble_eq_true rfl) ?_
  intro Ω X R hin
  obtain ⟨E0, hE0⟩ : ∃ E0 : Nat → va_E, E0 = E := ⟨_, rfl⟩
  have hF : ∀ j : Nat, j < 78 → E j = E0 j := fun _ _ => by rw [hE0]
  obtain ⟨m2, m3, m4, m5, m6, m7, m8, m9, m10, m11, g, rs, ma, pa, al, he, un, re, ot, ln, lg, ce, hM, hS, hTp, hRs, hEn, hLe, hMa, hPa, hAl, hHe, hUn, hRe, hOt, hIk, hLa, hLn, hCe, hMR⟩ := id hc
  obtain ⟨hg, him, hrs, hun, hre, hsh⟩ := id hMR
  obtain ⟨hk0, hnow⟩ := id hk
  have hv := hk0.hv
  obtain ⟨hn, hvr⟩ := id hv
  obtain ⟨hgn, hgf⟩ := id hg
  have ho := hk0.ho
  have htb := hk0.htb
  obtain ⟨htl, -⟩ := id htb
  have hb := hk0.hb
  refine J_aload_n (q := 1) X dX10_put_0 rfl rfl ?_
  refine J_iload_n (q := 2) X dX10_put_1 rfl rfl ?_
  refine J_callP (q := 5) (jrV X mX10_219 dX10_put_2 (c_X10_isThere hM hS hg hv (by omega)) hM (by omega) rfl rfl rfl rfl (Nat.le_of_ble_eq_true rfl) (by decide)) rfl ?_
  refine J_if_eqB (q := 8) (tgt := 15) X dX10_put_5 (by decide) rfl (fun cq5 => ?_) (fun cq5 => ?_)
  · refine J_iconst (q := 16) X dX10_put_15 rfl ?_
    refine J_iret X R dX10_put_16 ?_
    rw [hE0] at hF
    have hq : qPut s i c = (-1, s) := (by unfold qPut; first | (rw [if_pos (by omega)]; done) | (rw [if_pos (Or.inr cq12)]; done) | (rw [if_pos (Or.inl cq5)]; done))
    rw [hq]
    exact ⟨_, rfl, rfl, ⟨_, _, _, _, _, _, _, _, _, _, _, _, _, _, _, _, _, _, _, _, _, _, hM, hS, hTp, hRs, hEn, hLe, hMa, hPa, hAl, hHe, hUn, hRe, hOt, hIk, hLa, hLn, hCe, hMR⟩, hF⟩
  · refine J_iload_n (q := 9) X dX10_put_8 rfl rfl ?_
    refine J_callP (q := 12) (jrS X mX10_98 dX10_put_9 (c_X10_isSign (by omega)) rfl rfl (Nat.le_of_ble_eq_true rfl) (by decide)) rfl ?_
    refine J_if_neB (q := 15) (tgt := 17) X dX10_put_12 (by decide) rfl (fun cq12 => ?_) (fun cq12 => ?_)
    · refine J_aload_n (q := 18) X dX10_put_17 rfl rfl ?_
      refine J_callV (q := 21) (jrV X mX10_240 dX10_put_18 (c_X10_edits hM hS hUn (by omega)) hM (by omega) rfl rfl rfl rfl (Nat.le_of_ble_eq_true rfl) (by decide)) rfl (fun Ew18 hpq18 => ?_)
      obtain ⟨unq18, kM, kUn, huaq18, hubq18, hsq18⟩ := hpq18
      replace hM := kM
      replace hUn := kUn
      have ep : (if s.p = 20 then (20 : Int) else s.p + 1) = (if s.p < 20 then s.p + 1 else s.p) := by split <;> split <;> omega
      rw [ep] at hM
      replace hS := (hsq18 79 (by omega)).trans hS
      replace hTp := (hsq18 80 (by omega)).trans hTp
      replace hRs := (hsq18 81 (by omega)).trans hRs
      replace hEn := (hsq18 82 (by omega)).trans hEn
      replace hLe := (hsq18 83 (by omega)).trans hLe
      replace hMa := (hsq18 84 (by omega)).trans hMa
      replace hPa := (hsq18 85 (by omega)).trans hPa
      replace hAl := (hsq18 86 (by omega)).trans hAl
      replace hHe := (hsq18 87 (by omega)).trans hHe
      replace hRe := (hsq18 89 (by omega)).trans hRe
      replace hOt := (hsq18 90 (by omega)).trans hOt
      replace hIk := (hsq18 91 (by omega)).trans hIk
      replace hLa := (hsq18 92 (by omega)).trans hLa
      replace hLn := (hsq18 93 (by omega)).trans hLn
      replace hCe := (hsq18 94 (by omega)).trans hCe
      replace hF : ∀ j : Nat, j < 78 → Ew18 j = E0 j := fun j hj => (hsq18 j (by omega)).trans (hF j hj)
      refine J_aload_n (q := 22) X dX10_put_21 rfl rfl ?_
      refine J_iload_n (q := 23) X dX10_put_22 rfl rfl ?_
      refine J_callP (q := 26) (jrV X mX10_170 dX10_put_23 (c_X10_signAt hM hS hg hv (by omega)) hM (by omega) rfl rfl rfl rfl (Nat.le_of_ble_eq_true rfl) (by decide)) rfl ?_
      refine J_istore_n (q := 27) X dX10_put_26 (by decide) rfl rfl ?_
      refine J_aload_n (q := 28) X dX10_put_27 rfl rfl ?_
      refine J_get (q := 31) X dX10_put_28 fX10_7 hM (by omega) rfl rfl ?_
      refine J_iload_n (q := 32) X dX10_put_31 rfl rfl ?_
      refine J_iload_n (q := 33) X dX10_put_32 rfl rfl ?_
      refine J_iast (q := 34) X dX10_put_33 hS (by omega) (by omega) (by decide) rfl (fun Ew33 hkq33 hsq33 => ?_)
      replace hS := hkq33
      replace hM := (hsq33 78 (by omega)).trans hM
      replace hTp := (hsq33 80 (by omega)).trans hTp
      replace hRs := (hsq33 81 (by omega)).trans hRs
      replace hEn := (hsq33 82 (by omega)).trans hEn
      replace hLe := (hsq33 83 (by omega)).trans hLe
      replace hMa := (hsq33 84 (by omega)).trans hMa
      replace hPa := (hsq33 85 (by omega)).trans hPa
      replace hAl := (hsq33 86 (by omega)).trans hAl
      replace hHe := (hsq33 87 (by omega)).trans hHe
      replace hUn := (hsq33 88 (by omega)).trans hUn
      replace hRe := (hsq33 89 (by omega)).trans hRe
      replace hOt := (hsq33 90 (by omega)).trans hOt
      replace hIk := (hsq33 91 (by omega)).trans hIk
      replace hLa := (hsq33 92 (by omega)).trans hLa
      replace hLn := (hsq33 93 (by omega)).trans hLn
      replace hCe := (hsq33 94 (by omega)).trans hCe
      replace hF : ∀ j : Nat, j < 78 → Ew33 j = E0 j := fun j hj => (hsq33 j (by omega)).trans (hF j hj)
      refine J_iload_n (q := 35) X dX10_put_34 rfl rfl ?_
      refine J_iret X R dX10_put_35 ?_
      rw [hE0] at hF
      have hms : MS (iu g i c) (s.n) (iu s.f i c) := by
        refine ⟨by simp only [iu]; rw [if_neg (by omega)]; exact hgn, fun j a b => ?_⟩
        simp only [iu]
        repeat' split
        all_goals first | rfl | (exfalso; omega) | exact hgf _ (by omega) (by omega) | (rw [hgf _ (by omega) (by omega)]; congr 1; omega)
      have hgi : ∀ j, 61 ≤ j → j < 183 → (iu g i c) j = g j := fun j a b => by
        simp only [iu]
        repeat' split
        all_goals first | rfl | (exfalso; omega)
      have hq : qPut s i c = (s.f i % 128, (s.row (s.n) (iu s.f i c)).ed) := (by unfold qPut; rw [if_neg (fun z => z.elim (fun z => z cq5) (fun z => z cq12))])
      rw [hq]
      exact ⟨_, rfl, rfl, ⟨_, _, _, _, _, _, _, _, _, _, _, _, _, _, _, _, _, _, _, _, _, _, hM, hS, hTp, hRs, hEn, hLe, hMa, hPa, hAl, hHe, hUn, hRe, hOt, hIk, hLa, hLn, hCe, (MR_ed hk hMR huaq18 hubq18 hms hgi)⟩, hF⟩
    · refine J_iconst (q := 16) X dX10_put_15 rfl ?_
      refine J_iret X R dX10_put_16 ?_
      rw [hE0] at hF
      have hq : qPut s i c = (-1, s) := (by unfold qPut; first | (rw [if_pos (by omega)]; done) | (rw [if_pos (Or.inr cq12)]; done) | (rw [if_pos (Or.inl cq5)]; done))
      rw [hq]
      exact ⟨_, rfl, rfl, ⟨_, _, _, _, _, _, _, _, _, _, _, _, _, _, _, _, _, _, _, _, _, _, hM, hS, hTp, hRs, hEn, hLe, hMa, hPa, hAl, hHe, hUn, hRe, hOt, hIk, hLa, hLn, hCe, hMR⟩, hF⟩

set_option maxRecDepth 100000 in
set_option maxHeartbeats 4000000 in
theorem c_X10_insert {l : Launch} {Γ : JG} {ad : Nat → Nat} {E : Nat → va_E} {s : KS} {i c : Int} (hc : MI Γ ad E s) (hk : KV s) (hbi : -2147483648 ≤ i ∧ i < 2147483648) (hbc : -2147483648 ≤ c ∧ c < 2147483648) : JM l Γ yX10_insert cX10_insert 3 (some .int) 3 64 0 0 ad 95 E [.ref (ad 78), .int (jI i), .int (jI c)] (pI (fun z E' => z = (qInsert s i c).1 ∧ MI Γ ad E' (qInsert s i c).2 ∧ ∀ j : Nat, j < 78 → E' j = E j)) := by
  refine JM_intro (own := RX10) [some (.ref (ad 78)), some (.int (jI i)), some (.int (jI c))] rfl rfl rfl (Nat.le_of_ble_eq_true rfl) ?_
  intro Ω X R hin
  obtain ⟨E0, hE0⟩ : ∃ E0 : Nat → va_E, E0 = E := ⟨_, rfl⟩
  have hF : ∀ j : Nat, j < 78 → E j = E0 j := fun _ _ => by rw [hE0]
  obtain ⟨m2, m3, m4, m5, m6, m7, m8, m9, m10, m11, g, rs, ma, pa, al, he, un, re, ot, ln, lg, ce, hM, hS, hTp, hRs, hEn, hLe, hMa, hPa, hAl, hHe, hUn, hRe, hOt, hIk, hLa, hLn, hCe, hMR⟩ := id hc
  obtain ⟨hg, him, hrs, hun, hre, hsh⟩ := id hMR
  obtain ⟨hk0, hnow⟩ := id hk
  have hv := hk0.hv
  obtain ⟨hn, hvr⟩ := id hv
  obtain ⟨hgn, hgf⟩ := id hg
  have ho := hk0.ho
  have htb := hk0.htb
  obtain ⟨htl, -⟩ := id htb
  have hb := hk0.hb
  refine J_aload_n (q := 1) X dX10_insert_0 rfl rfl ?_
  refine J_iload_n (q := 2) X dX10_insert_1 rfl rfl ?_
  refine J_callP (q := 5) (jrV X mX10_225 dX10_insert_2 (c_X10_isPlace hM hS hg hv (by omega)) hM (by omega) rfl rfl rfl rfl (Nat.le_of_ble_eq_true rfl) (by decide)) rfl ?_
  refine J_if_eqB (q := 8) (tgt := 15) X dX10_insert_5 (by decide) rfl (fun cq5 => ?_) (fun cq5 => ?_)
  · refine J_iconst (q := 16) X dX10_insert_15 rfl ?_
    refine J_iret X R dX10_insert_16 ?_
    rw [hE0] at hF
    have hq : qInsert s i c = (-1, s) := (by unfold qInsert; first | (rw [if_pos (by omega)]; done) | (rw [if_pos (Or.inr cq12)]; done) | (rw [if_pos (Or.inl cq5)]; done))
    rw [hq]
    exact ⟨_, rfl, rfl, ⟨_, _, _, _, _, _, _, _, _, _, _, _, _, _, _, _, _, _, _, _, _, _, hM, hS, hTp, hRs, hEn, hLe, hMa, hPa, hAl, hHe, hUn, hRe, hOt, hIk, hLa, hLn, hCe, hMR⟩, hF⟩
  · refine J_iload_n (q := 9) X dX10_insert_8 rfl rfl ?_
    refine J_callP (q := 12) (jrS X mX10_98 dX10_insert_9 (c_X10_isSign (by omega)) rfl rfl (Nat.le_of_ble_eq_true rfl) (by decide)) rfl ?_
    refine J_if_neB (q := 15) (tgt := 17) X dX10_insert_12 (by decide) rfl (fun cq12 => ?_) (fun cq12 => ?_)
    · refine J_aload_n (q := 18) X dX10_insert_17 rfl rfl ?_
      refine J_callP (q := 21) (jrV X mX10_165 dX10_insert_18 (c_X10_many hM hS hg hv) hM (by omega) rfl rfl rfl rfl (Nat.le_of_ble_eq_true rfl) (by decide)) rfl ?_
      refine J_bipush (q := 23) X dX10_insert_21 rfl (by decide) ?_
      refine J_icmp_ne (q := 26) (tgt := 29) X dX10_insert_23 (by decide) rfl (by omega) (by omega) (fun cq23 => ?_) (fun cq23 => ?_)
      · refine J_aload_n (q := 30) X dX10_insert_29 rfl rfl ?_
        refine J_callV (q := 33) (jrV X mX10_240 dX10_insert_30 (c_X10_edits hM hS hUn (by omega)) hM (by omega) rfl rfl rfl rfl (Nat.le_of_ble_eq_true rfl) (by decide)) rfl (fun Ew30 hpq30 => ?_)
        obtain ⟨unq30, kM, kUn, huaq30, hubq30, hsq30⟩ := hpq30
        replace hM := kM
        replace hUn := kUn
        have ep : (if s.p = 20 then (20 : Int) else s.p + 1) = (if s.p < 20 then s.p + 1 else s.p) := by split <;> split <;> omega
        rw [ep] at hM
        replace hS := (hsq30 79 (by omega)).trans hS
        replace hTp := (hsq30 80 (by omega)).trans hTp
        replace hRs := (hsq30 81 (by omega)).trans hRs
        replace hEn := (hsq30 82 (by omega)).trans hEn
        replace hLe := (hsq30 83 (by omega)).trans hLe
        replace hMa := (hsq30 84 (by omega)).trans hMa
        replace hPa := (hsq30 85 (by omega)).trans hPa
        replace hAl := (hsq30 86 (by omega)).trans hAl
        replace hHe := (hsq30 87 (by omega)).trans hHe
        replace hRe := (hsq30 89 (by omega)).trans hRe
        replace hOt := (hsq30 90 (by omega)).trans hOt
        replace hIk := (hsq30 91 (by omega)).trans hIk
        replace hLa := (hsq30 92 (by omega)).trans hLa
        replace hLn := (hsq30 93 (by omega)).trans hLn
        replace hCe := (hsq30 94 (by omega)).trans hCe
        replace hF : ∀ j : Nat, j < 78 → Ew30 j = E0 j := fun j hj => (hsq30 j (by omega)).trans (hF j hj)
        refine J_aload_n (q := 34) X dX10_insert_33 rfl rfl ?_
        refine J_iload_n (q := 35) X dX10_insert_34 rfl rfl ?_
        refine J_iload_n (q := 36) X dX10_insert_35 rfl rfl ?_
        refine J_callV (q := 39) (jrV X mX10_243 dX10_insert_36 (c_X10_comesIn hM hS hgn (by omega)) hM (by omega) rfl rfl rfl rfl (Nat.le_of_ble_eq_true rfl) (by decide)) rfl (fun Ew36 hpq36 => ?_)
        obtain ⟨kS, hsq36⟩ := hpq36
        replace hS := kS
        replace hM := (hsq36 78 (by omega)).trans hM
        replace hTp := (hsq36 80 (by omega)).trans hTp
        replace hRs := (hsq36 81 (by omega)).trans hRs
        replace hEn := (hsq36 82 (by omega)).trans hEn
        replace hLe := (hsq36 83 (by omega)).trans hLe
        replace hMa := (hsq36 84 (by omega)).trans hMa
        replace hPa := (hsq36 85 (by omega)).trans hPa
        replace hAl := (hsq36 86 (by omega)).trans hAl
        replace hHe := (hsq36 87 (by omega)).trans hHe
        replace hUn := (hsq36 88 (by omega)).trans hUn
        replace hRe := (hsq36 89 (by omega)).trans hRe
        replace hOt := (hsq36 90 (by omega)).trans hOt
        replace hIk := (hsq36 91 (by omega)).trans hIk
        replace hLa := (hsq36 92 (by omega)).trans hLa
        replace hLn := (hsq36 93 (by omega)).trans hLn
        replace hCe := (hsq36 94 (by omega)).trans hCe
        replace hF : ∀ j : Nat, j < 78 → Ew36 j = E0 j := fun j hj => (hsq36 j (by omega)).trans (hF j hj)
        refine J_aload_n (q := 40) X dX10_insert_39 rfl rfl ?_
        refine J_callP (q := 43) (jrV X mX10_165 dX10_insert_40 (c_X10_many60 hM hS) hM (by omega) rfl rfl rfl rfl (Nat.le_of_ble_eq_true rfl) (by decide)) rfl ?_
        refine J_iret X R dX10_insert_43 ?_
        rw [hE0] at hF
        have hms : MS (ciF g s.n i c) (s.n + 1) (iu (icp s.f s.f i (i + 1) (s.n - i)) i c) := by
          refine ⟨if_pos rfl, fun j a b => ?_⟩
          simp only [ciF, iu, icp]
          repeat' split
          all_goals first | rfl | (exfalso; omega) | exact hgf _ (by omega) (by omega) | (rw [hgf _ (by omega) (by omega)]; congr 1; omega)
        have hgi : ∀ j, 61 ≤ j → j < 183 → (ciF g s.n i c) j = g j := fun j a b => by
          simp only [ciF, iu, icp]
          repeat' split
          all_goals first | rfl | (exfalso; omega)
        have hq : qInsert s i c = (s.n + 1, (s.row (s.n + 1) (iu (icp s.f s.f i (i + 1) (s.n - i)) i c)).ed) := (by unfold qInsert; rw [if_neg (fun z => z.elim (fun z => z cq5) (fun z => z cq12)), if_neg (by omega)])
        rw [hq]
        exact ⟨_, rfl, (if_pos rfl), ⟨_, _, _, _, _, _, _, _, _, _, _, _, _, _, _, _, _, _, _, _, _, _, hM, hS, hTp, hRs, hEn, hLe, hMa, hPa, hAl, hHe, hUn, hRe, hOt, hIk, hLa, hLn, hCe, (MR_ed hk hMR huaq30 hubq30 hms hgi)⟩, hF⟩
      · refine J_bipush (q := 28) X dX10_insert_26 rfl (by decide) ?_
        refine J_iret X R dX10_insert_28 ?_
        rw [hE0] at hF
        have hq : qInsert s i c = (-3, s) := (by unfold qInsert; rw [if_neg (fun z => z.elim (fun z => z cq5) (fun z => z cq12)), if_pos (by omega)])
        rw [hq]
        exact ⟨_, rfl, rfl, ⟨_, _, _, _, _, _, _, _, _, _, _, _, _, _, _, _, _, _, _, _, _, _, hM, hS, hTp, hRs, hEn, hLe, hMa, hPa, hAl, hHe, hUn, hRe, hOt, hIk, hLa, hLn, hCe, hMR⟩, hF⟩
    · refine J_iconst (q := 16) X dX10_insert_15 rfl ?_
      refine J_iret X R dX10_insert_16 ?_
      rw [hE0] at hF
      have hq : qInsert s i c = (-1, s) := (by unfold qInsert; first | (rw [if_pos (by omega)]; done) | (rw [if_pos (Or.inr cq12)]; done) | (rw [if_pos (Or.inl cq5)]; done))
      rw [hq]
      exact ⟨_, rfl, rfl, ⟨_, _, _, _, _, _, _, _, _, _, _, _, _, _, _, _, _, _, _, _, _, _, hM, hS, hTp, hRs, hEn, hLe, hMa, hPa, hAl, hHe, hUn, hRe, hOt, hIk, hLa, hLn, hCe, hMR⟩, hF⟩

set_option maxRecDepth 100000 in
set_option maxHeartbeats 4000000 in
theorem c_X10_drop {l : Launch} {Γ : JG} {ad : Nat → Nat} {E : Nat → va_E} {s : KS} {i w : Int} (hc : MI Γ ad E s) (hk : KV s) (hbi : -2147483648 ≤ i ∧ i < 2147483648) (hbw : -2147483648 ≤ w ∧ w < 2147483648) : JM l Γ yX10_drop cX10_drop 3 (some .int) 3 64 0 0 ad 95 E [.ref (ad 78), .int (jI i), .int (jI w)] (pI (fun z E' => z = (qDrop s i w).1 ∧ MI Γ ad E' (qDrop s i w).2 ∧ ∀ j : Nat, j < 78 → E' j = E j)) := by
  refine JM_intro (own := RX10) [some (.ref (ad 78)), some (.int (jI i)), some (.int (jI w))] rfl rfl rfl (Nat.le_of_ble_eq_true rfl) ?_
  intro Ω X R hin
  obtain ⟨E0, hE0⟩ : ∃ E0 : Nat → va_E, E0 = E := ⟨_, rfl⟩
  have hF : ∀ j : Nat, j < 78 → E j = E0 j := fun _ _ => by rw [hE0]
  obtain ⟨m2, m3, m4, m5, m6, m7, m8, m9, m10, m11, g, rs, ma, pa, al, he, un, re, ot, ln, lg, ce, hM, hS, hTp, hRs, hEn, hLe, hMa, hPa, hAl, hHe, hUn, hRe, hOt, hIk, hLa, hLn, hCe, hMR⟩ := id hc
  obtain ⟨hg, him, hrs, hun, hre, hsh⟩ := id hMR
  obtain ⟨hk0, hnow⟩ := id hk
  have hv := hk0.hv
  obtain ⟨hn, hvr⟩ := id hv
  obtain ⟨hgn, hgf⟩ := id hg
  have ho := hk0.ho
  have htb := hk0.htb
  obtain ⟨htl, -⟩ := id htb
  have hb := hk0.hb
  refine J_aload_n (q := 1) X dX10_drop_0 rfl rfl ?_
  refine J_iload_n (q := 2) X dX10_drop_1 rfl rfl ?_
  refine J_iload_n (q := 3) X dX10_drop_2 rfl rfl ?_
  refine J_callP (q := 6) (jrV X mX10_246 dX10_drop_3 (c_X10_isPart hM hS hg hv (by omega) (by omega)) hM (by omega) rfl rfl rfl rfl (Nat.le_of_ble_eq_true rfl) (by decide)) rfl ?_
  refine J_if_neB (q := 9) (tgt := 11) X dX10_drop_6 (by decide) rfl (fun cq6 => ?_) (fun cq6 => ?_)
  · refine J_aload_n (q := 12) X dX10_drop_11 rfl rfl ?_
    refine J_callV (q := 15) (jrV X mX10_240 dX10_drop_12 (c_X10_edits hM hS hUn (by omega)) hM (by omega) rfl rfl rfl rfl (Nat.le_of_ble_eq_true rfl) (by decide)) rfl (fun Ew12 hpq12 => ?_)
    obtain ⟨unq12, kM, kUn, huaq12, hubq12, hsq12⟩ := hpq12
    replace hM := kM
    replace hUn := kUn
    have ep : (if s.p = 20 then (20 : Int) else s.p + 1) = (if s.p < 20 then s.p + 1 else s.p) := by split <;> split <;> omega
    rw [ep] at hM
    replace hS := (hsq12 79 (by omega)).trans hS
    replace hTp := (hsq12 80 (by omega)).trans hTp
    replace hRs := (hsq12 81 (by omega)).trans hRs
    replace hEn := (hsq12 82 (by omega)).trans hEn
    replace hLe := (hsq12 83 (by omega)).trans hLe
    replace hMa := (hsq12 84 (by omega)).trans hMa
    replace hPa := (hsq12 85 (by omega)).trans hPa
    replace hAl := (hsq12 86 (by omega)).trans hAl
    replace hHe := (hsq12 87 (by omega)).trans hHe
    replace hRe := (hsq12 89 (by omega)).trans hRe
    replace hOt := (hsq12 90 (by omega)).trans hOt
    replace hIk := (hsq12 91 (by omega)).trans hIk
    replace hLa := (hsq12 92 (by omega)).trans hLa
    replace hLn := (hsq12 93 (by omega)).trans hLn
    replace hCe := (hsq12 94 (by omega)).trans hCe
    replace hF : ∀ j : Nat, j < 78 → Ew12 j = E0 j := fun j hj => (hsq12 j (by omega)).trans (hF j hj)
    refine J_aload_n (q := 16) X dX10_drop_15 rfl rfl ?_
    refine J_iload_n (q := 17) X dX10_drop_16 rfl rfl ?_
    refine J_iload_n (q := 18) X dX10_drop_17 rfl rfl ?_
    refine J_callV (q := 21) (jrV X mX10_249 dX10_drop_18 (c_X10_goes hM hS hgn (by omega)) hM (by omega) rfl rfl rfl rfl (Nat.le_of_ble_eq_true rfl) (by decide)) rfl (fun Ew18 hpq18 => ?_)
    obtain ⟨kS, hsq18⟩ := hpq18
    replace hS := kS
    replace hM := (hsq18 78 (by omega)).trans hM
    replace hTp := (hsq18 80 (by omega)).trans hTp
    replace hRs := (hsq18 81 (by omega)).trans hRs
    replace hEn := (hsq18 82 (by omega)).trans hEn
    replace hLe := (hsq18 83 (by omega)).trans hLe
    replace hMa := (hsq18 84 (by omega)).trans hMa
    replace hPa := (hsq18 85 (by omega)).trans hPa
    replace hAl := (hsq18 86 (by omega)).trans hAl
    replace hHe := (hsq18 87 (by omega)).trans hHe
    replace hUn := (hsq18 88 (by omega)).trans hUn
    replace hRe := (hsq18 89 (by omega)).trans hRe
    replace hOt := (hsq18 90 (by omega)).trans hOt
    replace hIk := (hsq18 91 (by omega)).trans hIk
    replace hLa := (hsq18 92 (by omega)).trans hLa
    replace hLn := (hsq18 93 (by omega)).trans hLn
    replace hCe := (hsq18 94 (by omega)).trans hCe
    replace hF : ∀ j : Nat, j < 78 → Ew18 j = E0 j := fun j hj => (hsq18 j (by omega)).trans (hF j hj)
    refine J_aload_n (q := 22) X dX10_drop_21 rfl rfl ?_
    refine J_callP (q := 25) (jrV X mX10_165 dX10_drop_22 (c_X10_many60 hM hS) hM (by omega) rfl rfl rfl rfl (Nat.le_of_ble_eq_true rfl) (by decide)) rfl ?_
    refine J_iret X R dX10_drop_25 ?_
    rw [hE0] at hF
    have hms : MS (goF g s.n i w) (s.n - w) (icp s.f s.f (i + w) i (s.n - i - w)) := by
      refine ⟨if_pos rfl, fun j a b => ?_⟩
      simp only [goF, icp]
      repeat' split
      all_goals first | rfl | (exfalso; omega) | exact hgf _ (by omega) (by omega) | (rw [hgf _ (by omega) (by omega)]; congr 1; omega)
    have hgi : ∀ j, 61 ≤ j → j < 183 → (goF g s.n i w) j = g j := fun j a b => by
      simp only [goF, icp]
      repeat' split
      all_goals first | rfl | (exfalso; omega)
    have hq : qDrop s i w = (s.n - w, (s.row (s.n - w) (icp s.f s.f (i + w) i (s.n - i - w))).ed) := (by unfold qDrop; rw [if_neg (fun z => z cq6)])
    rw [hq]
    exact ⟨_, rfl, (if_pos rfl), ⟨_, _, _, _, _, _, _, _, _, _, _, _, _, _, _, _, _, _, _, _, _, _, hM, hS, hTp, hRs, hEn, hLe, hMa, hPa, hAl, hHe, hUn, hRe, hOt, hIk, hLa, hLn, hCe, (MR_ed hk hMR huaq12 hubq12 hms hgi)⟩, hF⟩
  · refine J_iconst (q := 10) X dX10_drop_9 rfl ?_
    refine J_iret X R dX10_drop_10 ?_
    rw [hE0] at hF
    have hq : qDrop s i w = (-1, s) := (by unfold qDrop; rw [if_pos cq6])
    rw [hq]
    exact ⟨_, rfl, rfl, ⟨_, _, _, _, _, _, _, _, _, _, _, _, _, _, _, _, _, _, _, _, _, _, hM, hS, hTp, hRs, hEn, hLe, hMa, hPa, hAl, hHe, hUn, hRe, hOt, hIk, hLa, hLn, hCe, hMR⟩, hF⟩

set_option maxRecDepth 100000 in
set_option maxHeartbeats 4000000 in
theorem c_X10_copy {l : Launch} {Γ : JG} {ad : Nat → Nat} {E : Nat → va_E} {s : KS} {i w p : Int} (hc : MI Γ ad E s) (hk : KV s) (hbi : -2147483648 ≤ i ∧ i < 2147483648) (hbw : -2147483648 ≤ w ∧ w < 2147483648) (hbp : -2147483648 ≤ p ∧ p < 2147483648) : JM l Γ yX10_copy cX10_copy 4 (some .int) 3 66 0 0 ad 95 E [.ref (ad 78), .int (jI i), .int (jI w), .int (jI p)] (pI (fun z E' => z = (qCopy s i w p).1 ∧ MI Γ ad E' (qCopy s i w p).2 ∧ ∀ j : Nat, j < 78 → E' j = E j)) := by
  refine JM_intro (own := RX10) [some (.ref (ad 78)), some (.int (jI i)), some (.int (jI w)), some (.int (jI p))] rfl rfl rfl (Nat.le_of_ble_eq_true rfl) ?_
  intro Ω X R hin
  obtain ⟨E0, hE0⟩ : ∃ E0 : Nat → va_E, E0 = E := ⟨_, rfl⟩
  have hF : ∀ j : Nat, j < 78 → E j = E0 j := fun _ _ => by rw [hE0]
  obtain ⟨m2, m3, m4, m5, m6, m7, m8, m9, m10, m11, g, rs, ma, pa, al, he, un, re, ot, ln, lg, ce, hM, hS, hTp, hRs, hEn, hLe, hMa, hPa, hAl, hHe, hUn, hRe, hOt, hIk, hLa, hLn, hCe, hMR⟩ := id hc
  obtain ⟨hg, him, hrs, hun, hre, hsh⟩ := id hMR
  obtain ⟨hk0, hnow⟩ := id hk
  have hv := hk0.hv
  obtain ⟨hn, hvr⟩ := id hv
  obtain ⟨hgn, hgf⟩ := id hg
  have ho := hk0.ho
  have htb := hk0.htb
  obtain ⟨htl, -⟩ := id htb
  have hb := hk0.hb
  refine J_aload_n (q := 1) X dX10_copy_0 rfl rfl ?_
  refine J_iload_n (q := 2) X dX10_copy_1 rfl rfl ?_
  refine J_iload_n (q := 3) X dX10_copy_2 rfl rfl ?_
  refine J_callP (q := 6) (jrV X mX10_246 dX10_copy_3 (c_X10_isPart hM hS hg hv (by omega) (by omega)) hM (by omega) rfl rfl rfl rfl (Nat.le_of_ble_eq_true rfl) (by decide)) rfl ?_
  refine J_if_eqB (q := 9) (tgt := 17) X dX10_copy_6 (by decide) rfl (fun cq6 => ?_) (fun cq6 => ?_)
  · refine J_iconst (q := 18) X dX10_copy_17 rfl ?_
    refine J_iret X R dX10_copy_18 ?_
    rw [hE0] at hF
    have hq : qCopy s i w p = (-1, s) := (by unfold qCopy; rw [if_pos (fun z => by obtain ⟨z1, z2⟩ := z; omega)])
    rw [hq]
    exact ⟨_, rfl, rfl, ⟨_, _, _, _, _, _, _, _, _, _, _, _, _, _, _, _, _, _, _, _, _, _, hM, hS, hTp, hRs, hEn, hLe, hMa, hPa, hAl, hHe, hUn, hRe, hOt, hIk, hLa, hLn, hCe, hMR⟩, hF⟩
  · refine J_aload_n (q := 10) X dX10_copy_9 rfl rfl ?_
    refine J_iload_n (q := 11) X dX10_copy_10 rfl rfl ?_
    refine J_callP (q := 14) (jrV X mX10_225 dX10_copy_11 (c_X10_isPlace hM hS hg hv (by omega)) hM (by omega) rfl rfl rfl rfl (Nat.le_of_ble_eq_true rfl) (by decide)) rfl ?_
    refine J_if_neB (q := 17) (tgt := 19) X dX10_copy_14 (by decide) rfl (fun cq14 => ?_) (fun cq14 => ?_)
    · refine J_aload_n (q := 20) X dX10_copy_19 rfl rfl ?_
      refine J_callP (q := 23) (jrV X mX10_165 dX10_copy_20 (c_X10_many hM hS hg hv) hM (by omega) rfl rfl rfl rfl (Nat.le_of_ble_eq_true rfl) (by decide)) rfl ?_
      refine J_iload_n (q := 24) X dX10_copy_23 rfl rfl ?_
      refine J_iadd (q := 25) X dX10_copy_24 rfl ?_
      refine J_bipush (q := 27) X dX10_copy_25 rfl (by decide) ?_
      refine J_icmp_le (q := 30) (tgt := 33) X dX10_copy_27 (by decide) rfl (by omega) (by omega) (fun cq27 => ?_) (fun cq27 => ?_)
      · refine J_aload_n (q := 34) X dX10_copy_33 rfl rfl ?_
        refine J_callV (q := 37) (jrV X mX10_240 dX10_copy_34 (c_X10_edits hM hS hUn (by omega)) hM (by omega) rfl rfl rfl rfl (Nat.le_of_ble_eq_true rfl) (by decide)) rfl (fun Ew34 hpq34 => ?_)
        obtain ⟨unq34, kM, kUn, huaq34, hubq34, hsq34⟩ := hpq34
        replace hM := kM
        replace hUn := kUn
        have ep : (if s.p = 20 then (20 : Int) else s.p + 1) = (if s.p < 20 then s.p + 1 else s.p) := by split <;> split <;> omega
        rw [ep] at hM
        replace hS := (hsq34 79 (by omega)).trans hS
        replace hTp := (hsq34 80 (by omega)).trans hTp
        replace hRs := (hsq34 81 (by omega)).trans hRs
        replace hEn := (hsq34 82 (by omega)).trans hEn
        replace hLe := (hsq34 83 (by omega)).trans hLe
        replace hMa := (hsq34 84 (by omega)).trans hMa
        replace hPa := (hsq34 85 (by omega)).trans hPa
        replace hAl := (hsq34 86 (by omega)).trans hAl
        replace hHe := (hsq34 87 (by omega)).trans hHe
        replace hRe := (hsq34 89 (by omega)).trans hRe
        replace hOt := (hsq34 90 (by omega)).trans hOt
        replace hIk := (hsq34 91 (by omega)).trans hIk
        replace hLa := (hsq34 92 (by omega)).trans hLa
        replace hLn := (hsq34 93 (by omega)).trans hLn
        replace hCe := (hsq34 94 (by omega)).trans hCe
        replace hF : ∀ j : Nat, j < 78 → Ew34 j = E0 j := fun j hj => (hsq34 j (by omega)).trans (hF j hj)
        refine J_aload_n (q := 38) X dX10_copy_37 rfl rfl ?_
        refine J_iload_n (q := 39) X dX10_copy_38 rfl rfl ?_
        refine J_iload_n (q := 40) X dX10_copy_39 rfl rfl ?_
        refine J_callV (q := 43) (jrV X mX10_252 dX10_copy_40 (c_X10_lifts hM hS hOt (by omega)) hM (by omega) rfl rfl rfl rfl (Nat.le_of_ble_eq_true rfl) (by decide)) rfl (fun Ew40 hpq40 => ?_)
        obtain ⟨kOt, hsq40⟩ := hpq40
        replace hOt := kOt
        replace hM := (hsq40 78 (by omega)).trans hM
        replace hS := (hsq40 79 (by omega)).trans hS
        replace hTp := (hsq40 80 (by omega)).trans hTp
        replace hRs := (hsq40 81 (by omega)).trans hRs
        replace hEn := (hsq40 82 (by omega)).trans hEn
        replace hLe := (hsq40 83 (by omega)).trans hLe
        replace hMa := (hsq40 84 (by omega)).trans hMa
        replace hPa := (hsq40 85 (by omega)).trans hPa
        replace hAl := (hsq40 86 (by omega)).trans hAl
        replace hHe := (hsq40 87 (by omega)).trans hHe
        replace hUn := (hsq40 88 (by omega)).trans hUn
        replace hRe := (hsq40 89 (by omega)).trans hRe
        replace hIk := (hsq40 91 (by omega)).trans hIk
        replace hLa := (hsq40 92 (by omega)).trans hLa
        replace hLn := (hsq40 93 (by omega)).trans hLn
        replace hCe := (hsq40 94 (by omega)).trans hCe
        replace hF : ∀ j : Nat, j < 78 → Ew40 j = E0 j := fun j hj => (hsq40 j (by omega)).trans (hF j hj)
        refine J_aload_n (q := 44) X dX10_copy_43 rfl rfl ?_
        refine J_iload_n (q := 45) X dX10_copy_44 rfl rfl ?_
        refine J_iload_n (q := 46) X dX10_copy_45 rfl rfl ?_
        refine J_callV (q := 49) (jrV X mX10_255 dX10_copy_46 (c_X10_laysDown hM hS hOt hgn (by omega)) hM (by omega) rfl rfl rfl rfl (Nat.le_of_ble_eq_true rfl) (by decide)) rfl (fun Ew46 hpq46 => ?_)
        obtain ⟨kS, hsq46⟩ := hpq46
        replace hS := kS
        replace hM := (hsq46 78 (by omega)).trans hM
        replace hTp := (hsq46 80 (by omega)).trans hTp
        replace hRs := (hsq46 81 (by omega)).trans hRs
        replace hEn := (hsq46 82 (by omega)).trans hEn
        replace hLe := (hsq46 83 (by omega)).trans hLe
        replace hMa := (hsq46 84 (by omega)).trans hMa
        replace hPa := (hsq46 85 (by omega)).trans hPa
        replace hAl := (hsq46 86 (by omega)).trans hAl
        replace hHe := (hsq46 87 (by omega)).trans hHe
        replace hUn := (hsq46 88 (by omega)).trans hUn
        replace hRe := (hsq46 89 (by omega)).trans hRe
        replace hOt := (hsq46 90 (by omega)).trans hOt
        replace hIk := (hsq46 91 (by omega)).trans hIk
        replace hLa := (hsq46 92 (by omega)).trans hLa
        replace hLn := (hsq46 93 (by omega)).trans hLn
        replace hCe := (hsq46 94 (by omega)).trans hCe
        replace hF : ∀ j : Nat, j < 78 → Ew46 j = E0 j := fun j hj => (hsq46 j (by omega)).trans (hF j hj)
        refine J_aload_n (q := 50) X dX10_copy_49 rfl rfl ?_
        refine J_callP (q := 53) (jrV X mX10_165 dX10_copy_50 (c_X10_many60 hM hS) hM (by omega) rfl rfl rfl rfl (Nat.le_of_ble_eq_true rfl) (by decide)) rfl ?_
        refine J_iret X R dX10_copy_53 ?_
        rw [hE0] at hF
        have hms : MS (ldF g (liF g ot i w) s.n w p) (s.n + w) (cpF s.f s.n i w p) := by
          refine ⟨if_pos rfl, fun j a b => ?_⟩
          simp only [ldF, liF, cpF]
          repeat' split
          all_goals first | rfl | (exfalso; omega) | exact hgf _ (by omega) (by omega) | (rw [hgf _ (by omega) (by omega)]; congr 1; omega)
        have hgi : ∀ j, 61 ≤ j → j < 183 → (ldF g (liF g ot i w) s.n w p) j = g j := fun j a b => by
          simp only [ldF, liF, cpF]
          repeat' split
          all_goals first | rfl | (exfalso; omega)
        have hq : qCopy s i w p = (s.n + w, (s.row (s.n + w) (cpF s.f s.n i w p)).ed) := (by unfold qCopy; rw [if_neg (fun z => z ⟨cq6, cq14⟩), if_neg (by omega)])
        rw [hq]
        exact ⟨_, rfl, (if_pos rfl), ⟨_, _, _, _, _, _, _, _, _, _, _, _, _, _, _, _, _, _, _, _, _, _, hM, hS, hTp, hRs, hEn, hLe, hMa, hPa, hAl, hHe, hUn, hRe, hOt, hIk, hLa, hLn, hCe, (MR_ed hk hMR huaq34 hubq34 hms hgi)⟩, hF⟩
      · refine J_bipush (q := 32) X dX10_copy_30 rfl (by decide) ?_
        refine J_iret X R dX10_copy_32 ?_
        rw [hE0] at hF
        have hq : qCopy s i w p = (-3, s) := (by unfold qCopy; rw [if_neg (fun z => z ⟨cq6, cq14⟩), if_pos (by omega)])
        rw [hq]
        exact ⟨_, rfl, rfl, ⟨_, _, _, _, _, _, _, _, _, _, _, _, _, _, _, _, _, _, _, _, _, _, hM, hS, hTp, hRs, hEn, hLe, hMa, hPa, hAl, hHe, hUn, hRe, hOt, hIk, hLa, hLn, hCe, hMR⟩, hF⟩
    · refine J_iconst (q := 18) X dX10_copy_17 rfl ?_
      refine J_iret X R dX10_copy_18 ?_
      rw [hE0] at hF
      have hq : qCopy s i w p = (-1, s) := (by unfold qCopy; rw [if_pos (fun z => by obtain ⟨z1, z2⟩ := z; omega)])
      rw [hq]
      exact ⟨_, rfl, rfl, ⟨_, _, _, _, _, _, _, _, _, _, _, _, _, _, _, _, _, _, _, _, _, _, hM, hS, hTp, hRs, hEn, hLe, hMa, hPa, hAl, hHe, hUn, hRe, hOt, hIk, hLa, hLn, hCe, hMR⟩, hF⟩

set_option maxRecDepth 100000 in
set_option maxHeartbeats 4000000 in
theorem c_X10_mark {l : Launch} {Γ : JG} {ad : Nat → Nat} {E : Nat → va_E} {s : KS} {i y : Int} (hc : MI Γ ad E s) (hk : KV s) (hbi : -2147483648 ≤ i ∧ i < 2147483648) (hby : -2147483648 ≤ y ∧ y < 2147483648) : JM l Γ yX10_mark cX10_mark 4 (some .int) 3 64 0 0 ad 95 E [.ref (ad 78), .int (jI i), .int (jI y)] (pI (fun z E' => z = (qMark s i y).1 ∧ MI Γ ad E' (qMark s i y).2 ∧ ∀ j : Nat, j < 78 → E' j = E j)) := by
  refine JM_intro (own := RX10) [some (.ref (ad 78)), some (.int (jI i)), some (.int (jI y)), none] rfl rfl rfl (Nat.le_of_ble_eq_true rfl) ?_
  intro Ω X R hin
  obtain ⟨E0, hE0⟩ : ∃ E0 : Nat → va_E, E0 = E := ⟨_, rfl⟩
  have hF : ∀ j : Nat, j < 78 → E j = E0 j := fun _ _ => by rw [hE0]
  obtain ⟨m2, m3, m4, m5, m6, m7, m8, m9, m10, m11, g, rs, ma, pa, al, he, un, re, ot, ln, lg, ce, hM, hS, hTp, hRs, hEn, hLe, hMa, hPa, hAl, hHe, hUn, hRe, hOt, hIk, hLa, hLn, hCe, hMR⟩ := id hc
  obtain ⟨hg, him, hrs, hun, hre, hsh⟩ := id hMR
  obtain ⟨hk0, hnow⟩ := id hk
  have hv := hk0.hv
  obtain ⟨hn, hvr⟩ := id hv
  obtain ⟨hgn, hgf⟩ := id hg
  have ho := hk0.ho
  have htb := hk0.htb
  obtain ⟨htl, -⟩ := id htb
  have hb := hk0.hb
  refine J_aload_n (q := 1) X dX10_mark_0 rfl rfl ?_
  refine J_iload_n (q := 2) X dX10_mark_1 rfl rfl ?_
  refine J_callP (q := 5) (jrV X mX10_219 dX10_mark_2 (c_X10_isThere hM hS hg hv (by omega)) hM (by omega) rfl rfl rfl rfl (Nat.le_of_ble_eq_true rfl) (by decide)) rfl ?_
  refine J_if_eqB (q := 8) (tgt := 29) X dX10_mark_5 (by decide) rfl (fun cq5 => ?_) (fun cq5 => ?_)
  · refine J_iconst (q := 30) X dX10_mark_29 rfl ?_
    refine J_iret X R dX10_mark_30 ?_
    rw [hE0] at hF
    have hq : qMark s i y = (-1, s) := (by unfold qMark; rw [if_pos (fun z => by obtain ⟨z1, z2, z3⟩ := z; first | omega | exact absurd z3 cq16)])
    rw [hq]
    exact ⟨_, rfl, rfl, ⟨_, _, _, _, _, _, _, _, _, _, _, _, _, _, _, _, _, _, _, _, _, _, hM, hS, hTp, hRs, hEn, hLe, hMa, hPa, hAl, hHe, hUn, hRe, hOt, hIk, hLa, hLn, hCe, hMR⟩, hF⟩
  · refine J_aload_n (q := 9) X dX10_mark_8 rfl rfl ?_
    refine J_iload_n (q := 10) X dX10_mark_9 rfl rfl ?_
    refine J_callP (q := 13) (jrV X mX10_170 dX10_mark_10 (c_X10_signAt hM hS hg hv (by omega)) hM (by omega) rfl rfl rfl rfl (Nat.le_of_ble_eq_true rfl) (by decide)) rfl ?_
    refine J_callP (q := 16) (jrS X mX10_142 dX10_mark_13 (c_X10_isOpen (by omega)) rfl rfl (Nat.le_of_ble_eq_true rfl) (by decide)) rfl ?_
    refine J_if_eqB (q := 19) (tgt := 29) X dX10_mark_16 (by decide) rfl (fun cq16 => ?_) (fun cq16 => ?_)
    · refine J_iconst (q := 30) X dX10_mark_29 rfl ?_
      refine J_iret X R dX10_mark_30 ?_
      rw [hE0] at hF
      have hq : qMark s i y = (-1, s) := (by unfold qMark; rw [if_pos (fun z => by obtain ⟨z1, z2, z3⟩ := z; first | omega | exact absurd z3 cq16)])
      rw [hq]
      exact ⟨_, rfl, rfl, ⟨_, _, _, _, _, _, _, _, _, _, _, _, _, _, _, _, _, _, _, _, _, _, hM, hS, hTp, hRs, hEn, hLe, hMa, hPa, hAl, hHe, hUn, hRe, hOt, hIk, hLa, hLn, hCe, hMR⟩, hF⟩
    · refine J_iload_n (q := 20) X dX10_mark_19 rfl rfl ?_
      refine J_i2l (q := 21) X dX10_mark_20 rfl (by omega) ?_
      refine J_lconst (q := 22) (v := 0) X dX10_mark_21 (by decide) rfl ?_
      refine J_lconst (q := 23) (v := 1) X dX10_mark_22 (by decide) rfl ?_
      refine J_callP (q := 26) (jrS X mX10_61 dX10_mark_23 (c_X10_in (by omega) (by omega) (by omega)) rfl rfl (Nat.le_of_ble_eq_true rfl) (by decide)) rfl ?_
      refine J_if_neB (q := 29) (tgt := 31) X dX10_mark_26 (by decide) rfl (fun cq26 => ?_) (fun cq26 => ?_)
      · refine J_aload_n (q := 32) X dX10_mark_31 rfl rfl ?_
        refine J_callV (q := 35) (jrV X mX10_240 dX10_mark_32 (c_X10_edits hM hS hUn (by omega)) hM (by omega) rfl rfl rfl rfl (Nat.le_of_ble_eq_true rfl) (by decide)) rfl (fun Ew32 hpq32 => ?_)
        obtain ⟨unq32, kM, kUn, huaq32, hubq32, hsq32⟩ := hpq32
        replace hM := kM
        replace hUn := kUn
        have ep : (if s.p = 20 then (20 : Int) else s.p + 1) = (if s.p < 20 then s.p + 1 else s.p) := by split <;> split <;> omega
        rw [ep] at hM
        replace hS := (hsq32 79 (by omega)).trans hS
        replace hTp := (hsq32 80 (by omega)).trans hTp
        replace hRs := (hsq32 81 (by omega)).trans hRs
        replace hEn := (hsq32 82 (by omega)).trans hEn
        replace hLe := (hsq32 83 (by omega)).trans hLe
        replace hMa := (hsq32 84 (by omega)).trans hMa
        replace hPa := (hsq32 85 (by omega)).trans hPa
        replace hAl := (hsq32 86 (by omega)).trans hAl
        replace hHe := (hsq32 87 (by omega)).trans hHe
        replace hRe := (hsq32 89 (by omega)).trans hRe
        replace hOt := (hsq32 90 (by omega)).trans hOt
        replace hIk := (hsq32 91 (by omega)).trans hIk
        replace hLa := (hsq32 92 (by omega)).trans hLa
        replace hLn := (hsq32 93 (by omega)).trans hLn
        replace hCe := (hsq32 94 (by omega)).trans hCe
        replace hF : ∀ j : Nat, j < 78 → Ew32 j = E0 j := fun j hj => (hsq32 j (by omega)).trans (hF j hj)
        refine J_aload_n (q := 36) X dX10_mark_35 rfl rfl ?_
        refine J_iload_n (q := 37) X dX10_mark_36 rfl rfl ?_
        refine J_callP (q := 40) (jrV X mX10_180 dX10_mark_37 (c_X10_isMarked hM hS hg hv (by omega)) hM (by omega) rfl rfl rfl rfl (Nat.le_of_ble_eq_true rfl) (by decide)) rfl ?_
        refine J_if_eqB (q := 43) (tgt := 47) X dX10_mark_40 (by decide) rfl (fun cq40 => ?_) (fun cq40 => ?_)
        · refine J_iconst (q := 48) X dX10_mark_47 rfl ?_
          refine J_istore_n (q := 49) X dX10_mark_48 (by decide) rfl rfl ?_
          refine J_aload_n (q := 50) X dX10_mark_49 rfl rfl ?_
          refine J_get (q := 53) X dX10_mark_50 fX10_7 hM (by omega) rfl rfl ?_
          refine J_iload_n (q := 54) X dX10_mark_53 rfl rfl ?_
          refine J_aload_n (q := 55) X dX10_mark_54 rfl rfl ?_
          refine J_iload_n (q := 56) X dX10_mark_55 rfl rfl ?_
          refine J_callP (q := 59) (jrV X mX10_170 dX10_mark_56 (c_X10_signAt hM hS hg hv (by omega)) hM (by omega) rfl rfl rfl rfl (Nat.le_of_ble_eq_true rfl) (by decide)) rfl ?_
          refine J_sipush (q := 62) X dX10_mark_59 rfl (by decide) ?_
          refine J_iload_n (q := 63) X dX10_mark_62 rfl rfl ?_
          refine J_imul (q := 64) X dX10_mark_63 rfl ?_
          refine J_iadd (q := 65) X dX10_mark_64 rfl ?_
          refine J_iast (q := 66) X dX10_mark_65 hS (by omega) (by omega) (by decide) rfl (fun Ew65 hkq65 hsq65 => ?_)
          replace hS := hkq65
          replace hM := (hsq65 78 (by omega)).trans hM
          replace hTp := (hsq65 80 (by omega)).trans hTp
          replace hRs := (hsq65 81 (by omega)).trans hRs
          replace hEn := (hsq65 82 (by omega)).trans hEn
          replace hLe := (hsq65 83 (by omega)).trans hLe
          replace hMa := (hsq65 84 (by omega)).trans hMa
          replace hPa := (hsq65 85 (by omega)).trans hPa
          replace hAl := (hsq65 86 (by omega)).trans hAl
          replace hHe := (hsq65 87 (by omega)).trans hHe
          replace hUn := (hsq65 88 (by omega)).trans hUn
          replace hRe := (hsq65 89 (by omega)).trans hRe
          replace hOt := (hsq65 90 (by omega)).trans hOt
          replace hIk := (hsq65 91 (by omega)).trans hIk
          replace hLa := (hsq65 92 (by omega)).trans hLa
          replace hLn := (hsq65 93 (by omega)).trans hLn
          replace hCe := (hsq65 94 (by omega)).trans hCe
          replace hF : ∀ j : Nat, j < 78 → Ew65 j = E0 j := fun j hj => (hsq65 j (by omega)).trans (hF j hj)
          refine J_iload_n (q := 67) X dX10_mark_66 rfl rfl ?_
          refine J_iret X R dX10_mark_67 ?_
          rw [hE0] at hF
          have hms : MS (iu g i (s.f i % 128 + 128 * y)) (s.n) (iu s.f i (s.f i % 128 + 128 * y)) := by
            refine ⟨by simp only [iu]; rw [if_neg (by omega)]; exact hgn, fun j a b => ?_⟩
            simp only [iu]
            repeat' split
            all_goals first | rfl | (exfalso; omega) | exact hgf _ (by omega) (by omega) | (rw [hgf _ (by omega) (by omega)]; congr 1; omega)
          have hgi : ∀ j, 61 ≤ j → j < 183 → (iu g i (s.f i % 128 + 128 * y)) j = g j := fun j a b => by
            simp only [iu]
            repeat' split
            all_goals first | rfl | (exfalso; omega)
          have hq : qMark s i y = (bI (128 ≤ s.f i), (s.row (s.n) (iu s.f i (s.f i % 128 + 128 * y))).ed) := (by unfold qMark; rw [if_neg (fun z => z ⟨cq5, by omega, cq16⟩)])
          rw [hq]
          exact ⟨_, rfl, (by first | (rw [bI_t cq40]; done) | (rw [bI_f cq40]; done)), ⟨_, _, _, _, _, _, _, _, _, _, _, _, _, _, _, _, _, _, _, _, _, _, hM, hS, hTp, hRs, hEn, hLe, hMa, hPa, hAl, hHe, hUn, hRe, hOt, hIk, hLa, hLn, hCe, (MR_ed hk hMR huaq32 hubq32 hms hgi)⟩, hF⟩
        · refine J_iconst (q := 44) X dX10_mark_43 rfl ?_
          refine J_goto (q := 48) X dX10_mark_44 (by decide) ?_
          refine J_istore_n (q := 49) X dX10_mark_48 (by decide) rfl rfl ?_
          refine J_aload_n (q := 50) X dX10_mark_49 rfl rfl ?_
          refine J_get (q := 53) X dX10_mark_50 fX10_7 hM (by omega) rfl rfl ?_
          refine J_iload_n (q := 54) X dX10_mark_53 rfl rfl ?_
          refine J_aload_n (q := 55) X dX10_mark_54 rfl rfl ?_
          refine J_iload_n (q := 56) X dX10_mark_55 rfl rfl ?_
          refine J_callP (q := 59) (jrV X mX10_170 dX10_mark_56 (c_X10_signAt hM hS hg hv (by omega)) hM (by omega) rfl rfl rfl rfl (Nat.le_of_ble_eq_true rfl) (by decide)) rfl ?_
          refine J_sipush (q := 62) X dX10_mark_59 rfl (by decide) ?_
          refine J_iload_n (q := 63) X dX10_mark_62 rfl rfl ?_
          refine J_imul (q := 64) X dX10_mark_63 rfl ?_
          refine J_iadd (q := 65) X dX10_mark_64 rfl ?_
          refine J_iast (q := 66) X dX10_mark_65 hS (by omega) (by omega) (by decide) rfl (fun Ew65 hkq65 hsq65 => ?_)
          replace hS := hkq65
          replace hM := (hsq65 78 (by omega)).trans hM
          replace hTp := (hsq65 80 (by omega)).trans hTp
          replace hRs := (hsq65 81 (by omega)).trans hRs
          replace hEn := (hsq65 82 (by omega)).trans hEn
          replace hLe := (hsq65 83 (by omega)).trans hLe
          replace hMa := (hsq65 84 (by omega)).trans hMa
          replace hPa := (hsq65 85 (by omega)).trans hPa
          replace hAl := (hsq65 86 (by omega)).trans hAl
          replace hHe := (hsq65 87 (by omega)).trans hHe
          replace hUn := (hsq65 88 (by omega)).trans hUn
          replace hRe := (hsq65 89 (by omega)).trans hRe
          replace hOt := (hsq65 90 (by omega)).trans hOt
          replace hIk := (hsq65 91 (by omega)).trans hIk
          replace hLa := (hsq65 92 (by omega)).trans hLa
          replace hLn := (hsq65 93 (by omega)).trans hLn
          replace hCe := (hsq65 94 (by omega)).trans hCe
          replace hF : ∀ j : Nat, j < 78 → Ew65 j = E0 j := fun j hj => (hsq65 j (by omega)).trans (hF j hj)
          refine J_iload_n (q := 67) X dX10_mark_66 rfl rfl ?_
          refine J_iret X R dX10_mark_67 ?_
          rw [hE0] at hF
          have hms : MS (iu g i (s.f i % 128 + 128 * y)) (s.n) (iu s.f i (s.f i % 128 + 128 * y)) := by
            refine ⟨by simp only [iu]; rw [if_neg (by omega)]; exact hgn, fun j a b => ?_⟩
            simp only [iu]
            repeat' split
            all_goals first | rfl | (exfalso; omega) | exact hgf _ (by omega) (by omega) | (rw [hgf _ (by omega) (by omega)]; congr 1; omega)
          have hgi : ∀ j, 61 ≤ j → j < 183 → (iu g i (s.f i % 128 + 128 * y)) j = g j := fun j a b => by
            simp only [iu]
            repeat' split
            all_goals first | rfl | (exfalso; omega)
          have hq : qMark s i y = (bI (128 ≤ s.f i), (s.row (s.n) (iu s.f i (s.f i % 128 + 128 * y))).ed) := (by unfold qMark; rw [if_neg (fun z => z ⟨cq5, by omega, cq16⟩)])
          rw [hq]
          exact ⟨_, rfl, (by first | (rw [bI_t cq40]; done) | (rw [bI_f cq40]; done)), ⟨_, _, _, _, _, _, _, _, _, _, _, _, _, _, _, _, _, _, _, _, _, _, hM, hS, hTp, hRs, hEn, hLe, hMa, hPa, hAl, hHe, hUn, hRe, hOt, hIk, hLa, hLn, hCe, (MR_ed hk hMR huaq32 hubq32 hms hgi)⟩, hF⟩
      · refine J_iconst (q := 30) X dX10_mark_29 rfl ?_
        refine J_iret X R dX10_mark_30 ?_
        rw [hE0] at hF
        have hq : qMark s i y = (-1, s) := (by unfold qMark; rw [if_pos (fun z => by obtain ⟨z1, z2, z3⟩ := z; first | omega | exact absurd z3 cq16)])
        rw [hq]
        exact ⟨_, rfl, rfl, ⟨_, _, _, _, _, _, _, _, _, _, _, _, _, _, _, _, _, _, _, _, _, _, hM, hS, hTp, hRs, hEn, hLe, hMa, hPa, hAl, hHe, hUn, hRe, hOt, hIk, hLa, hLn, hCe, hMR⟩, hF⟩

set_option maxRecDepth 100000 in
set_option maxHeartbeats 4000000 in
theorem c_X10_move {l : Launch} {Γ : JG} {ad : Nat → Nat} {E : Nat → va_E} {s : KS} {i w p : Int} (hc : MI Γ ad E s) (hk : KV s) (hbi : -2147483648 ≤ i ∧ i < 2147483648) (hbw : -2147483648 ≤ w ∧ w < 2147483648) (hbp : -2147483648 ≤ p ∧ p < 2147483648) : JM l Γ yX10_move cX10_move 4 (some .int) 3 66 0 0 ad 95 E [.ref (ad 78), .int (jI i), .int (jI w), .int (jI p)] (pI (fun z E' => z = (qMove s i w p).1 ∧ MI Γ ad E' (qMove s i w p).2 ∧ ∀ j : Nat, j < 78 → E' j = E j)) := by
  refine JM_intro (own := RX10) [some (.ref (ad 78)), some (.int (jI i)), some (.int (jI w)), some (.int (jI p))] rfl rfl rfl (Nat.le_of_ble_eq_true rfl) ?_
  intro Ω X R hin
  obtain ⟨E0, hE0⟩ : ∃ E0 : Nat → va_E, E0 = E := ⟨_, rfl⟩
  have hF : ∀ j : Nat, j < 78 → E j = E0 j := fun _ _ => by rw [hE0]
  obtain ⟨m2, m3, m4, m5, m6, m7, m8, m9, m10, m11, g, rs, ma, pa, al, he, un, re, ot, ln, lg, ce, hM, hS, hTp, hRs, hEn, hLe, hMa, hPa, hAl, hHe, hUn, hRe, hOt, hIk, hLa, hLn, hCe, hMR⟩ := id hc
  obtain ⟨hg, him, hrs, hun, hre, hsh⟩ := id hMR
  obtain ⟨hk0, hnow⟩ := id hk
  have hv := hk0.hv
  obtain ⟨hn, hvr⟩ := id hv
  obtain ⟨hgn, hgf⟩ := id hg
  have ho := hk0.ho
  have htb := hk0.htb
  obtain ⟨htl, -⟩ := id htb
  have hb := hk0.hb
  refine J_aload_n (q := 1) X dX10_move_0 rfl rfl ?_
  refine J_iload_n (q := 2) X dX10_move_1 rfl rfl ?_
  refine J_iload_n (q := 3) X dX10_move_2 rfl rfl ?_
  refine J_callP (q := 6) (jrV X mX10_246 dX10_move_3 (c_X10_isPart hM hS hg hv (by omega) (by omega)) hM (by omega) rfl rfl rfl rfl (Nat.le_of_ble_eq_true rfl) (by decide)) rfl ?_
  refine J_if_eqB (q := 9) (tgt := 29) X dX10_move_6 (by decide) rfl (fun cq6 => ?_) (fun cq6 => ?_)
  · refine J_iconst (q := 30) X dX10_move_29 rfl ?_
    refine J_iret X R dX10_move_30 ?_
    rw [hE0] at hF
    have hq : qMove s i w p = (-1, s) := (by unfold qMove; rw [if_pos (fun z => by obtain ⟨z1, z2, z3⟩ := z; omega)])
    rw [hq]
    exact ⟨_, rfl, rfl, ⟨_, _, _, _, _, _, _, _, _, _, _, _, _, _, _, _, _, _, _, _, _, _, hM, hS, hTp, hRs, hEn, hLe, hMa, hPa, hAl, hHe, hUn, hRe, hOt, hIk, hLa, hLn, hCe, hMR⟩, hF⟩
  · refine J_aload_n (q := 10) X dX10_move_9 rfl rfl ?_
    refine J_iload_n (q := 11) X dX10_move_10 rfl rfl ?_
    refine J_callP (q := 14) (jrV X mX10_225 dX10_move_11 (c_X10_isPlace hM hS hg hv (by omega)) hM (by omega) rfl rfl rfl rfl (Nat.le_of_ble_eq_true rfl) (by decide)) rfl ?_
    refine J_if_eqB (q := 17) (tgt := 29) X dX10_move_14 (by decide) rfl (fun cq14 => ?_) (fun cq14 => ?_)
    · refine J_iconst (q := 30) X dX10_move_29 rfl ?_
      refine J_iret X R dX10_move_30 ?_
      rw [hE0] at hF
      have hq : qMove s i w p = (-1, s) := (by unfold qMove; rw [if_pos (fun z => by obtain ⟨z1, z2, z3⟩ := z; omega)])
      rw [hq]
      exact ⟨_, rfl, rfl, ⟨_, _, _, _, _, _, _, _, _, _, _, _, _, _, _, _, _, _, _, _, _, _, hM, hS, hTp, hRs, hEn, hLe, hMa, hPa, hAl, hHe, hUn, hRe, hOt, hIk, hLa, hLn, hCe, hMR⟩, hF⟩
    · refine J_iload_n (q := 18) X dX10_move_17 rfl rfl ?_
      refine J_iload_n (q := 19) X dX10_move_18 rfl rfl ?_
      refine J_icmp_le (q := 22) (tgt := 31) X dX10_move_19 (by decide) rfl (by omega) (by omega) (fun cq19 => ?_) (fun cq19 => ?_)
      · refine J_aload_n (q := 32) X dX10_move_31 rfl rfl ?_
        refine J_callV (q := 35) (jrV X mX10_240 dX10_move_32 (c_X10_edits hM hS hUn (by omega)) hM (by omega) rfl rfl rfl rfl (Nat.le_of_ble_eq_true rfl) (by decide)) rfl (fun Ew32 hpq32 => ?_)
        obtain ⟨unq32, kM, kUn, huaq32, hubq32, hsq32⟩ := hpq32
        replace hM := kM
        replace hUn := kUn
        have ep : (if s.p = 20 then (20 : Int) else s.p + 1) = (if s.p < 20 then s.p + 1 else s.p) := by split <;> split <;> omega
        rw [ep] at hM
        replace hS := (hsq32 79 (by omega)).trans hS
        replace hTp := (hsq32 80 (by omega)).trans hTp
        replace hRs := (hsq32 81 (by omega)).trans hRs
        replace hEn := (hsq32 82 (by omega)).trans hEn
        replace hLe := (hsq32 83 (by omega)).trans hLe
        replace hMa := (hsq32 84 (by omega)).trans hMa
        replace hPa := (hsq32 85 (by omega)).trans hPa
        replace hAl := (hsq32 86 (by omega)).trans hAl
        replace hHe := (hsq32 87 (by omega)).trans hHe
        replace hRe := (hsq32 89 (by omega)).trans hRe
        replace hOt := (hsq32 90 (by omega)).trans hOt
        replace hIk := (hsq32 91 (by omega)).trans hIk
        replace hLa := (hsq32 92 (by omega)).trans hLa
        replace hLn := (hsq32 93 (by omega)).trans hLn
        replace hCe := (hsq32 94 (by omega)).trans hCe
        replace hF : ∀ j : Nat, j < 78 → Ew32 j = E0 j := fun j hj => (hsq32 j (by omega)).trans (hF j hj)
        refine J_aload_n (q := 36) X dX10_move_35 rfl rfl ?_
        refine J_iload_n (q := 37) X dX10_move_36 rfl rfl ?_
        refine J_iload_n (q := 38) X dX10_move_37 rfl rfl ?_
        refine J_callV (q := 41) (jrV X mX10_252 dX10_move_38 (c_X10_lifts hM hS hOt (by omega)) hM (by omega) rfl rfl rfl rfl (Nat.le_of_ble_eq_true rfl) (by decide)) rfl (fun Ew38 hpq38 => ?_)
        obtain ⟨kOt, hsq38⟩ := hpq38
        replace hOt := kOt
        replace hM := (hsq38 78 (by omega)).trans hM
        replace hS := (hsq38 79 (by omega)).trans hS
        replace hTp := (hsq38 80 (by omega)).trans hTp
        replace hRs := (hsq38 81 (by omega)).trans hRs
        replace hEn := (hsq38 82 (by omega)).trans hEn
        replace hLe := (hsq38 83 (by omega)).trans hLe
        replace hMa := (hsq38 84 (by omega)).trans hMa
        replace hPa := (hsq38 85 (by omega)).trans hPa
        replace hAl := (hsq38 86 (by omega)).trans hAl
        replace hHe := (hsq38 87 (by omega)).trans hHe
        replace hUn := (hsq38 88 (by omega)).trans hUn
        replace hRe := (hsq38 89 (by omega)).trans hRe
        replace hIk := (hsq38 91 (by omega)).trans hIk
        replace hLa := (hsq38 92 (by omega)).trans hLa
        replace hLn := (hsq38 93 (by omega)).trans hLn
        replace hCe := (hsq38 94 (by omega)).trans hCe
        replace hF : ∀ j : Nat, j < 78 → Ew38 j = E0 j := fun j hj => (hsq38 j (by omega)).trans (hF j hj)
        refine J_aload_n (q := 42) X dX10_move_41 rfl rfl ?_
        refine J_iload_n (q := 43) X dX10_move_42 rfl rfl ?_
        refine J_iload_n (q := 44) X dX10_move_43 rfl rfl ?_
        refine J_callV (q := 47) (jrV X mX10_249 dX10_move_44 (c_X10_goes hM hS hgn (by omega)) hM (by omega) rfl rfl rfl rfl (Nat.le_of_ble_eq_true rfl) (by decide)) rfl (fun Ew44 hpq44 => ?_)
        obtain ⟨kS, hsq44⟩ := hpq44
        replace hS := kS
        replace hM := (hsq44 78 (by omega)).trans hM
        replace hTp := (hsq44 80 (by omega)).trans hTp
        replace hRs := (hsq44 81 (by omega)).trans hRs
        replace hEn := (hsq44 82 (by omega)).trans hEn
        replace hLe := (hsq44 83 (by omega)).trans hLe
        replace hMa := (hsq44 84 (by omega)).trans hMa
        replace hPa := (hsq44 85 (by omega)).trans hPa
        replace hAl := (hsq44 86 (by omega)).trans hAl
        replace hHe := (hsq44 87 (by omega)).trans hHe
        replace hUn := (hsq44 88 (by omega)).trans hUn
        replace hRe := (hsq44 89 (by omega)).trans hRe
        replace hOt := (hsq44 90 (by omega)).trans hOt
        replace hIk := (hsq44 91 (by omega)).trans hIk
        replace hLa := (hsq44 92 (by omega)).trans hLa
        replace hLn := (hsq44 93 (by omega)).trans hLn
        replace hCe := (hsq44 94 (by omega)).trans hCe
        replace hF : ∀ j : Nat, j < 78 → Ew44 j = E0 j := fun j hj => (hsq44 j (by omega)).trans (hF j hj)
        refine J_aload_n (q := 48) X dX10_move_47 rfl rfl ?_
        refine J_iload_n (q := 49) X dX10_move_48 rfl rfl ?_
        refine J_iload_n (q := 50) X dX10_move_49 rfl rfl ?_
        refine J_iload_n (q := 51) X dX10_move_50 rfl rfl ?_
        refine J_icmp_le (q := 54) (tgt := 60) X dX10_move_51 (by decide) rfl (by omega) (by omega) (fun cq51 => ?_) (fun cq51 => ?_)
        · refine J_iload_n (q := 61) X dX10_move_60 rfl rfl ?_
          refine J_callV (q := 64) (jrV X mX10_255 dX10_move_61 (c_X10_laysDown hM hS hOt (if_pos rfl) (by omega)) hM (by omega) rfl rfl rfl rfl (Nat.le_of_ble_eq_true rfl) (by decide)) rfl (fun Ew61 hpq61 => ?_)
          obtain ⟨kS, hsq61⟩ := hpq61
          replace hS := kS
          replace hM := (hsq61 78 (by omega)).trans hM
          replace hTp := (hsq61 80 (by omega)).trans hTp
          replace hRs := (hsq61 81 (by omega)).trans hRs
          replace hEn := (hsq61 82 (by omega)).trans hEn
          replace hLe := (hsq61 83 (by omega)).trans hLe
          replace hMa := (hsq61 84 (by omega)).trans hMa
          replace hPa := (hsq61 85 (by omega)).trans hPa
          replace hAl := (hsq61 86 (by omega)).trans hAl
          replace hHe := (hsq61 87 (by omega)).trans hHe
          replace hUn := (hsq61 88 (by omega)).trans hUn
          replace hRe := (hsq61 89 (by omega)).trans hRe
          replace hOt := (hsq61 90 (by omega)).trans hOt
          replace hIk := (hsq61 91 (by omega)).trans hIk
          replace hLa := (hsq61 92 (by omega)).trans hLa
          replace hLn := (hsq61 93 (by omega)).trans hLn
          replace hCe := (hsq61 94 (by omega)).trans hCe
          replace hF : ∀ j : Nat, j < 78 → Ew61 j = E0 j := fun j hj => (hsq61 j (by omega)).trans (hF j hj)
          refine J_iconst (q := 65) X dX10_move_64 rfl ?_
          refine J_iret X R dX10_move_65 ?_
          rw [hE0] at hF
          obtain ⟨pp, hpp⟩ : ∃ pp : Int, pp = if i < p then p - w else p := ⟨_, rfl⟩
          have hms : MS (ldF (goF g s.n i w) (liF g ot i w) (s.n - w) w pp) s.n (if p ≤ i then sw s.f p i (i + w) else sw s.f i (i + w) p) := by
            refine ⟨(if_pos rfl).trans (by omega), fun j a b => ?_⟩
            by_cases hpi : p ≤ i
            · rw [if_neg (by omega)] at hpp
              subst hpp
              rw [if_pos hpi]
              simp only [ldF, goF, liF, sw]
              repeat' split
              all_goals first | rfl | (exfalso; omega) | exact hgf _ (by omega) (by omega) | (rw [hgf _ (by omega) (by omega)]; congr 1; omega)
            · rw [if_pos (by omega)] at hpp
              subst hpp
              rw [if_neg hpi]
              simp only [ldF, goF, liF, sw]
              repeat' split
              all_goals first | rfl | (exfalso; omega) | exact hgf _ (by omega) (by omega) | (rw [hgf _ (by omega) (by omega)]; congr 1; omega)
          have hgi : ∀ j, 61 ≤ j → j < 183 → (ldF (goF g s.n i w) (liF g ot i w) (s.n - w) w pp) j = g j := fun j a b => by
            have hppb : 0 ≤ pp ∧ pp ≤ 60 := by rw [hpp]; split <;> omega
            simp only [ldF, goF, liF]
            repeat' split
            all_goals first | rfl | (exfalso; omega)
          first
            | rw [show p - w = pp by rw [hpp, if_pos (by omega)]] at hS
            | rw [show ldF (goF g s.n i w) (liF g ot i w) (s.n - w) w p = ldF (goF g s.n i w) (liF g ot i w) (s.n - w) w pp by rw [hpp, if_neg (by omega)]] at hS
          have hq : qMove s i w p = (1, (s.row (s.n) (if p ≤ i then sw s.f p i (i + w) else sw s.f i (i + w) p)).ed) := (by unfold qMove; rw [if_neg (fun z => z ⟨cq6, cq14, by omega⟩)])
          rw [hq]
          exact ⟨_, rfl, rfl, ⟨_, _, _, _, _, _, _, _, _, _, _, _, _, _, _, _, _, _, _, _, _, _, hM, hS, hTp, hRs, hEn, hLe, hMa, hPa, hAl, hHe, hUn, hRe, hOt, hIk, hLa, hLn, hCe, (MR_ed hk hMR huaq32 hubq32 hms hgi)⟩, hF⟩
        · refine J_iload_n (q := 55) X dX10_move_54 rfl rfl ?_
          refine J_iload_n (q := 56) X dX10_move_55 rfl rfl ?_
          refine J_isub (q := 57) X dX10_move_56 rfl ?_
          refine J_goto (q := 61) X dX10_move_57 (by decide) ?_
          refine J_callV (q := 64) (jrV X mX10_255 dX10_move_61 (c_X10_laysDown hM hS hOt (if_pos rfl) (by omega)) hM (by omega) rfl rfl rfl rfl (Nat.le_of_ble_eq_true rfl) (by decide)) rfl (fun Ew61 hpq61 => ?_)
          obtain ⟨kS, hsq61⟩ := hpq61
          replace hS := kS
          replace hM := (hsq61 78 (by omega)).trans hM
          replace hTp := (hsq61 80 (by omega)).trans hTp
          replace hRs := (hsq61 81 (by omega)).trans hRs
          replace hEn := (hsq61 82 (by omega)).trans hEn
          replace hLe := (hsq61 83 (by omega)).trans hLe
          replace hMa := (hsq61 84 (by omega)).trans hMa
          replace hPa := (hsq61 85 (by omega)).trans hPa
          replace hAl := (hsq61 86 (by omega)).trans hAl
          replace hHe := (hsq61 87 (by omega)).trans hHe
          replace hUn := (hsq61 88 (by omega)).trans hUn
          replace hRe := (hsq61 89 (by omega)).trans hRe
          replace hOt := (hsq61 90 (by omega)).trans hOt
          replace hIk := (hsq61 91 (by omega)).trans hIk
          replace hLa := (hsq61 92 (by omega)).trans hLa
          replace hLn := (hsq61 93 (by omega)).trans hLn
          replace hCe := (hsq61 94 (by omega)).trans hCe
          replace hF : ∀ j : Nat, j < 78 → Ew61 j = E0 j := fun j hj => (hsq61 j (by omega)).trans (hF j hj)
          refine J_iconst (q := 65) X dX10_move_64 rfl ?_
          refine J_iret X R dX10_move_65 ?_
          rw [hE0] at hF
          obtain ⟨pp, hpp⟩ : ∃ pp : Int, pp = if i < p then p - w else p := ⟨_, rfl⟩
          have hms : MS (ldF (goF g s.n i w) (liF g ot i w) (s.n - w) w pp) s.n (if p ≤ i then sw s.f p i (i + w) else sw s.f i (i + w) p) := by
            refine ⟨(if_pos rfl).trans (by omega), fun j a b => ?_⟩
            by_cases hpi : p ≤ i
            · rw [if_neg (by omega)] at hpp
              subst hpp
              rw [if_pos hpi]
              simp only [ldF, goF, liF, sw]
              repeat' split
              all_goals first | rfl | (exfalso; omega) | exact hgf _ (by omega) (by omega) | (rw [hgf _ (by omega) (by omega)]; congr 1; omega)
            · rw [if_pos (by omega)] at hpp
              subst hpp
              rw [if_neg hpi]
              simp only [ldF, goF, liF, sw]
              repeat' split
              all_goals first | rfl | (exfalso; omega) | exact hgf _ (by omega) (by omega) | (rw [hgf _ (by omega) (by omega)]; congr 1; omega)
          have hgi : ∀ j, 61 ≤ j → j < 183 → (ldF (goF g s.n i w) (liF g ot i w) (s.n - w) w pp) j = g j := fun j a b => by
            have hppb : 0 ≤ pp ∧ pp ≤ 60 := by rw [hpp]; split <;> omega
            simp only [ldF, goF, liF]
            repeat' split
            all_goals first | rfl | (exfalso; omega)
          first
            | rw [show p - w = pp by rw [hpp, if_pos (by omega)]] at hS
            | rw [show ldF (goF g s.n i w) (liF g ot i w) (s.n - w) w p = ldF (goF g s.n i w) (liF g ot i w) (s.n - w) w pp by rw [hpp, if_neg (by omega)]] at hS
          have hq : qMove s i w p = (1, (s.row (s.n) (if p ≤ i then sw s.f p i (i + w) else sw s.f i (i + w) p)).ed) := (by unfold qMove; rw [if_neg (fun z => z ⟨cq6, cq14, by omega⟩)])
          rw [hq]
          exact ⟨_, rfl, rfl, ⟨_, _, _, _, _, _, _, _, _, _, _, _, _, _, _, _, _, _, _, _, _, _, hM, hS, hTp, hRs, hEn, hLe, hMa, hPa, hAl, hHe, hUn, hRe, hOt, hIk, hLa, hLn, hCe, (MR_ed hk hMR huaq32 hubq32 hms hgi)⟩, hF⟩
      · refine J_iload_n (q := 23) X dX10_move_22 rfl rfl ?_
        refine J_iload_n (q := 24) X dX10_move_23 rfl rfl ?_
        refine J_iload_n (q := 25) X dX10_move_24 rfl rfl ?_
        refine J_iadd (q := 26) X dX10_move_25 rfl ?_
        refine J_icmp_ge (q := 29) (tgt := 31) X dX10_move_26 (by decide) rfl (by omega) (by omega) (fun cq26 => ?_) (fun cq26 => ?_)
        · refine J_aload_n (q := 32) X dX10_move_31 rfl rfl ?_
          refine J_callV (q := 35) (jrV X mX10_240 dX10_move_32 (c_X10_edits hM hS hUn (by omega)) hM (by omega) rfl rfl rfl rfl (Nat.le_of_ble_eq_true rfl) (by decide)) rfl (fun Ew32 hpq32 => ?_)
          obtain ⟨unq32, kM, kUn, huaq32, hubq32, hsq32⟩ := hpq32
          replace hM := kM
          replace hUn := kUn
          have ep : (if s.p = 20 then (20 : Int) else s.p + 1) = (if s.p < 20 then s.p + 1 else s.p) := by split <;> split <;> omega
          rw [ep] at hM
          replace hS := (hsq32 79 (by omega)).trans hS
          replace hTp := (hsq32 80 (by omega)).trans hTp
          replace hRs := (hsq32 81 (by omega)).trans hRs
          replace hEn := (hsq32 82 (by omega)).trans hEn
          replace hLe := (hsq32 83 (by omega)).trans hLe
          replace hMa := (hsq32 84 (by omega)).trans hMa
          replace hPa := (hsq32 85 (by omega)).trans hPa
          replace hAl := (hsq32 86 (by omega)).trans hAl
          replace hHe := (hsq32 87 (by omega)).trans hHe
          replace hRe := (hsq32 89 (by omega)).trans hRe
          replace hOt := (hsq32 90 (by omega)).trans hOt
          replace hIk := (hsq32 91 (by omega)).trans hIk
          replace hLa := (hsq32 92 (by omega)).trans hLa
          replace hLn := (hsq32 93 (by omega)).trans hLn
          replace hCe := (hsq32 94 (by omega)).trans hCe
          replace hF : ∀ j : Nat, j < 78 → Ew32 j = E0 j := fun j hj => (hsq32 j (by omega)).trans (hF j hj)
          refine J_aload_n (q := 36) X dX10_move_35 rfl rfl ?_
          refine J_iload_n (q := 37) X dX10_move_36 rfl rfl ?_
          refine J_iload_n (q := 38) X dX10_move_37 rfl rfl ?_
          refine J_callV (q := 41) (jrV X mX10_252 dX10_move_38 (c_X10_lifts hM hS hOt (by omega)) hM (by omega) rfl rfl rfl rfl (Nat.le_of_ble_eq_true rfl) (by decide)) rfl (fun Ew38 hpq38 => ?_)
          obtain ⟨kOt, hsq38⟩ := hpq38
          replace hOt := kOt
          replace hM := (hsq38 78 (by omega)).trans hM
          replace hS := (hsq38 79 (by omega)).trans hS
          replace hTp := (hsq38 80 (by omega)).trans hTp
          replace hRs := (hsq38 81 (by omega)).trans hRs
          replace hEn := (hsq38 82 (by omega)).trans hEn
          replace hLe := (hsq38 83 (by omega)).trans hLe
          replace hMa := (hsq38 84 (by omega)).trans hMa
          replace hPa := (hsq38 85 (by omega)).trans hPa
          replace hAl := (hsq38 86 (by omega)).trans hAl
          replace hHe := (hsq38 87 (by omega)).trans hHe
          replace hUn := (hsq38 88 (by omega)).trans hUn
          replace hRe := (hsq38 89 (by omega)).trans hRe
          replace hIk := (hsq38 91 (by omega)).trans hIk
          replace hLa := (hsq38 92 (by omega)).trans hLa
          replace hLn := (hsq38 93 (by omega)).trans hLn
          replace hCe := (hsq38 94 (by omega)).trans hCe
          replace hF : ∀ j : Nat, j < 78 → Ew38 j = E0 j := fun j hj => (hsq38 j (by omega)).trans (hF j hj)
          refine J_aload_n (q := 42) X dX10_move_41 rfl rfl ?_
          refine J_iload_n (q := 43) X dX10_move_42 rfl rfl ?_
          refine J_iload_n (q := 44) X dX10_move_43 rfl rfl ?_
          refine J_callV (q := 47) (jrV X mX10_249 dX10_move_44 (c_X10_goes hM hS hgn (by omega)) hM (by omega) rfl rfl rfl rfl (Nat.le_of_ble_eq_true rfl) (by decide)) rfl (fun Ew44 hpq44 => ?_)
          obtain ⟨kS, hsq44⟩ := hpq44
          replace hS := kS
          replace hM := (hsq44 78 (by omega)).trans hM
          replace hTp := (hsq44 80 (by omega)).trans hTp
          replace hRs := (hsq44 81 (by omega)).trans hRs
          replace hEn := (hsq44 82 (by omega)).trans hEn
          replace hLe := (hsq44 83 (by omega)).trans hLe
          replace hMa := (hsq44 84 (by omega)).trans hMa
          replace hPa := (hsq44 85 (by omega)).trans hPa
          replace hAl := (hsq44 86 (by omega)).trans hAl
          replace hHe := (hsq44 87 (by omega)).trans hHe
          replace hUn := (hsq44 88 (by omega)).trans hUn
          replace hRe := (hsq44 89 (by omega)).trans hRe
          replace hOt := (hsq44 90 (by omega)).trans hOt
          replace hIk := (hsq44 91 (by omega)).trans hIk
          replace hLa := (hsq44 92 (by omega)).trans hLa
          replace hLn := (hsq44 93 (by omega)).trans hLn
          replace hCe := (hsq44 94 (by omega)).trans hCe
          replace hF : ∀ j : Nat, j < 78 → Ew44 j = E0 j := fun j hj => (hsq44 j (by omega)).trans (hF j hj)
          refine J_aload_n (q := 48) X dX10_move_47 rfl rfl ?_
          refine J_iload_n (q := 49) X dX10_move_48 rfl rfl ?_
          refine J_iload_n (q := 50) X dX10_move_49 rfl rfl ?_
          refine J_iload_n (q := 51) X dX10_move_50 rfl rfl ?_
          refine J_icmp_le (q := 54) (tgt := 60) X dX10_move_51 (by decide) rfl (by omega) (by omega) (fun cq51 => ?_) (fun cq51 => ?_)
          · refine J_iload_n (q := 61) X dX10_move_60 rfl rfl ?_
            refine J_callV (q := 64) (jrV X mX10_255 dX10_move_61 (c_X10_laysDown hM hS hOt (if_pos rfl) (by omega)) hM (by omega) rfl rfl rfl rfl (Nat.le_of_ble_eq_true rfl) (by decide)) rfl (fun Ew61 hpq61 => ?_)
            obtain ⟨kS, hsq61⟩ := hpq61
            replace hS := kS
            replace hM := (hsq61 78 (by omega)).trans hM
            replace hTp := (hsq61 80 (by omega)).trans hTp
            replace hRs := (hsq61 81 (by omega)).trans hRs
            replace hEn := (hsq61 82 (by omega)).trans hEn
            replace hLe := (hsq61 83 (by omega)).trans hLe
            replace hMa := (hsq61 84 (by omega)).trans hMa
            replace hPa := (hsq61 85 (by omega)).trans hPa
            replace hAl := (hsq61 86 (by omega)).trans hAl
            replace hHe := (hsq61 87 (by omega)).trans hHe
            replace hUn := (hsq61 88 (by omega)).trans hUn
            replace hRe := (hsq61 89 (by omega)).trans hRe
            replace hOt := (hsq61 90 (by omega)).trans hOt
            replace hIk := (hsq61 91 (by omega)).trans hIk
            replace hLa := (hsq61 92 (by omega)).trans hLa
            replace hLn := (hsq61 93 (by omega)).trans hLn
            replace hCe := (hsq61 94 (by omega)).trans hCe
            replace hF : ∀ j : Nat, j < 78 → Ew61 j = E0 j := fun j hj => (hsq61 j (by omega)).trans (hF j hj)
            refine J_iconst (q := 65) X dX10_move_64 rfl ?_
            refine J_iret X R dX10_move_65 ?_
            rw [hE0] at hF
            obtain ⟨pp, hpp⟩ : ∃ pp : Int, pp = if i < p then p - w else p := ⟨_, rfl⟩
            have hms : MS (ldF (goF g s.n i w) (liF g ot i w) (s.n - w) w pp) s.n (if p ≤ i then sw s.f p i (i + w) else sw s.f i (i + w) p) := by
              refine ⟨(if_pos rfl).trans (by omega), fun j a b => ?_⟩
              by_cases hpi : p ≤ i
              · rw [if_neg (by omega)] at hpp
                subst hpp
                rw [if_pos hpi]
                simp only [ldF, goF, liF, sw]
                repeat' split
                all_goals first | rfl | (exfalso; omega) | exact hgf _ (by omega) (by omega) | (rw [hgf _ (by omega) (by omega)]; congr 1; omega)
              · rw [if_pos (by omega)] at hpp
                subst hpp
                rw [if_neg hpi]
                simp only [ldF, goF, liF, sw]
                repeat' split
                all_goals first | rfl | (exfalso; omega) | exact hgf _ (by omega) (by omega) | (rw [hgf _ (by omega) (by omega)]; congr 1; omega)
            have hgi : ∀ j, 61 ≤ j → j < 183 → (ldF (goF g s.n i w) (liF g ot i w) (s.n - w) w pp) j = g j := fun j a b => by
              have hppb : 0 ≤ pp ∧ pp ≤ 60 := by rw [hpp]; split <;> omega
              simp only [ldF, goF, liF]
              repeat' split
              all_goals first | rfl | (exfalso; omega)
            first
              | rw [show p - w = pp by rw [hpp, if_pos (by omega)]] at hS
              | rw [show ldF (goF g s.n i w) (liF g ot i w) (s.n - w) w p = ldF (goF g s.n i w) (liF g ot i w) (s.n - w) w pp by rw [hpp, if_neg (by omega)]] at hS
            have hq : qMove s i w p = (1, (s.row (s.n) (if p ≤ i then sw s.f p i (i + w) else sw s.f i (i + w) p)).ed) := (by unfold qMove; rw [if_neg (fun z => z ⟨cq6, cq14, by omega⟩)])
            rw [hq]
            exact ⟨_, rfl, rfl, ⟨_, _, _, _, _, _, _, _, _, _, _, _, _, _, _, _, _, _, _, _, _, _, hM, hS, hTp, hRs, hEn, hLe, hMa, hPa, hAl, hHe, hUn, hRe, hOt, hIk, hLa, hLn, hCe, (MR_ed hk hMR huaq32 hubq32 hms hgi)⟩, hF⟩
          · refine J_iload_n (q := 55) X dX10_move_54 rfl rfl ?_
            refine J_iload_n (q := 56) X dX10_move_55 rfl rfl ?_
            refine J_isub (q := 57) X dX10_move_56 rfl ?_
            refine J_goto (q := 61) X dX10_move_57 (by decide) ?_
            refine J_callV (q := 64) (jrV X mX10_255 dX10_move_61 (c_X10_laysDown hM hS hOt (if_pos rfl) (by omega)) hM (by omega) rfl rfl rfl rfl (Nat.le_of_ble_eq_true rfl) (by decide)) rfl (fun Ew61 hpq61 => ?_)
            obtain ⟨kS, hsq61⟩ := hpq61
            replace hS := kS
            replace hM := (hsq61 78 (by omega)).trans hM
            replace hTp := (hsq61 80 (by omega)).trans hTp
            replace hRs := (hsq61 81 (by omega)).trans hRs
            replace hEn := (hsq61 82 (by omega)).trans hEn
            replace hLe := (hsq61 83 (by omega)).trans hLe
            replace hMa := (hsq61 84 (by omega)).trans hMa
            replace hPa := (hsq61 85 (by omega)).trans hPa
            replace hAl := (hsq61 86 (by omega)).trans hAl
            replace hHe := (hsq61 87 (by omega)).trans hHe
            replace hUn := (hsq61 88 (by omega)).trans hUn
            replace hRe := (hsq61 89 (by omega)).trans hRe
            replace hOt := (hsq61 90 (by omega)).trans hOt
            replace hIk := (hsq61 91 (by omega)).trans hIk
            replace hLa := (hsq61 92 (by omega)).trans hLa
            replace hLn := (hsq61 93 (by omega)).trans hLn
            replace hCe := (hsq61 94 (by omega)).trans hCe
            replace hF : ∀ j : Nat, j < 78 → Ew61 j = E0 j := fun j hj => (hsq61 j (by omega)).trans (hF j hj)
            refine J_iconst (q := 65) X dX10_move_64 rfl ?_
            refine J_iret X R dX10_move_65 ?_
            rw [hE0] at hF
            obtain ⟨pp, hpp⟩ : ∃ pp : Int, pp = if i < p then p - w else p := ⟨_, rfl⟩
            have hms : MS (ldF (goF g s.n i w) (liF g ot i w) (s.n - w) w pp) s.n (if p ≤ i then sw s.f p i (i + w) else sw s.f i (i + w) p) := by
              refine ⟨(if_pos rfl).trans (by omega), fun j a b => ?_⟩
              by_cases hpi : p ≤ i
              · rw [if_neg (by omega)] at hpp
                subst hpp
                rw [if_pos hpi]
                simp only [ldF, goF, liF, sw]
                repeat' split
                all_goals first | rfl | (exfalso; omega) | exact hgf _ (by omega) (by omega) | (rw [hgf _ (by omega) (by omega)]; congr 1; omega)
              · rw [if_pos (by omega)] at hpp
                subst hpp
                rw [if_neg hpi]
                simp only [ldF, goF, liF, sw]
                repeat' split
                all_goals first | rfl | (exfalso; omega) | exact hgf _ (by omega) (by omega) | (rw [hgf _ (by omega) (by omega)]; congr 1; omega)
            have hgi : ∀ j, 61 ≤ j → j < 183 → (ldF (goF g s.n i w) (liF g ot i w) (s.n - w) w pp) j = g j := fun j a b => by
              have hppb : 0 ≤ pp ∧ pp ≤ 60 := by rw [hpp]; split <;> omega
              simp only [ldF, goF, liF]
              repeat' split
              all_goals first | rfl | (exfalso; omega)
            first
              | rw [show p - w = pp by rw [hpp, if_pos (by omega)]] at hS
              | rw [show ldF (goF g s.n i w) (liF g ot i w) (s.n - w) w p = ldF (goF g s.n i w) (liF g ot i w) (s.n - w) w pp by rw [hpp, if_neg (by omega)]] at hS
            have hq : qMove s i w p = (1, (s.row (s.n) (if p ≤ i then sw s.f p i (i + w) else sw s.f i (i + w) p)).ed) := (by unfold qMove; rw [if_neg (fun z => z ⟨cq6, cq14, by omega⟩)])
            rw [hq]
            exact ⟨_, rfl, rfl, ⟨_, _, _, _, _, _, _, _, _, _, _, _, _, _, _, _, _, _, _, _, _, _, hM, hS, hTp, hRs, hEn, hLe, hMa, hPa, hAl, hHe, hUn, hRe, hOt, hIk, hLa, hLn, hCe, (MR_ed hk hMR huaq32 hubq32 hms hgi)⟩, hF⟩
        · refine J_iconst (q := 30) X dX10_move_29 rfl ?_
          refine J_iret X R dX10_move_30 ?_
          rw [hE0] at hF
          have hq : qMove s i w p = (-1, s) := (by unfold qMove; rw [if_pos (fun z => by obtain ⟨z1, z2, z3⟩ := z; omega)])
          rw [hq]
          exact ⟨_, rfl, rfl, ⟨_, _, _, _, _, _, _, _, _, _, _, _, _, _, _, _, _, _, _, _, _, _, hM, hS, hTp, hRs, hEn, hLe, hMa, hPa, hAl, hHe, hUn, hRe, hOt, hIk, hLa, hLn, hCe, hMR⟩, hF⟩
