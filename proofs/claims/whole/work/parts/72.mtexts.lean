set_option maxRecDepth 100000 in
set_option maxHeartbeats 4000000 in
theorem c_X10_text {l : Launch} {Γ : JG} {ad : Nat → Nat} {E : Nat → va_E} {s : KS} (hc : MI Γ ad E s) (hk : KV s) : JM l Γ yX10_text cX10_text 2 (some .int) 7 152 0 0 ad 95 E [.ref (ad 78)] (pI (fun z E' => z = (qText s).1 ∧ MI Γ ad E' (qText s).2 ∧ ∀ j : Nat, j < 78 → E' j = E j)) := by
  refine JM_intro (own := RX10) [some (.ref (ad 78)), none] rfl rfl rfl (Nat.le_of_ble_eq_true rfl) ?_
  intro Ω X R hin
  obtain ⟨E0, hE0⟩ : ∃ E0 : Nat → va_E, E0 = E := ⟨_, rfl⟩
  have hF : ∀ j : Nat, j < 78 → E j = E0 j := fun _ _ => by rw [hE0]
  obtain ⟨m2, m3, m4, m5, m6, m7, m8, m9, m10, m11, g, rs, ma, pa, al, he, un, re, ot, ln, lg, ce, hM, hS, hTp, hRs, hEn, hLe, hMa, hPa, hAl, hHe, hUn, hRe, hOt, hIk, hLa, hLn, hCe, hMR⟩ := id hc
  obtain ⟨hg, him, hrs, hun, hre, hsh⟩ := id hMR
  obtain ⟨hk0, hnow⟩ := id hk
  have hv := hk0.hv
  obtain ⟨hn, hvr⟩ := id hv
  obtain ⟨hgn, hgf⟩ := id hg
  have ho := hk0.ho
  have htb := hk0.htb
  obtain ⟨htl, -⟩ := id htb
  have hb := hk0.hb
  refine J_aload_n (q := 1) X dX10_text_0 rfl rfl ?_
  refine J_iconst (q := 2) X dX10_text_1 rfl ?_
  refine J_put (q := 5) (ty := .int) X dX10_text_2 fX10_69 rfl (by decide +kernel) rfl rfl hM (by omega) (Nat.le_of_ble_eq_true rfl) rfl (fun Ew2 hkq2 hsq2 => ?_)
  replace hM : Ew2 78 = .inr (9, [.ref (ad 79), .ref (ad 80), .int (jI _), .int (jI _), .int (jI _), .int (jI _), .int (jI _), .int (jI _), .int (jI _), .int (jI _), .int (jI _), .int (jI _), .int (jI _), .int (jI _), .ref (ad 81), .ref (ad 82), .ref (ad 83), .ref (ad 84), .ref (ad 85), .ref (ad 86), .ref (ad 87), .ref (ad 88), .ref (ad 89), .int (jI _), .int (jI _), .ref (ad 90), .ref (ad 91), .ref (ad 92), .ref (ad 93), .ref (ad 94), .int (jI _)]) := hkq2
  replace hS := (hsq2 79 (by omega)).trans hS
  replace hTp := (hsq2 80 (by omega)).trans hTp
  replace hRs := (hsq2 81 (by omega)).trans hRs
  replace hEn := (hsq2 82 (by omega)).trans hEn
  replace hLe := (hsq2 83 (by omega)).trans hLe
  replace hMa := (hsq2 84 (by omega)).trans hMa
  replace hPa := (hsq2 85 (by omega)).trans hPa
  replace hAl := (hsq2 86 (by omega)).trans hAl
  replace hHe := (hsq2 87 (by omega)).trans hHe
  replace hUn := (hsq2 88 (by omega)).trans hUn
  replace hRe := (hsq2 89 (by omega)).trans hRe
  replace hOt := (hsq2 90 (by omega)).trans hOt
  replace hIk := (hsq2 91 (by omega)).trans hIk
  replace hLa := (hsq2 92 (by omega)).trans hLa
  replace hLn := (hsq2 93 (by omega)).trans hLn
  replace hCe := (hsq2 94 (by omega)).trans hCe
  replace hF : ∀ j : Nat, j < 78 → Ew2 j = E0 j := fun j hj => (hsq2 j (by omega)).trans (hF j hj)
  refine J_aload_n (q := 6) X dX10_text_5 rfl rfl ?_
  refine J_iconst (q := 7) X dX10_text_6 rfl ?_
  refine J_put (q := 10) (ty := .int) X dX10_text_7 fX10_89 rfl (by decide +kernel) rfl rfl hM (by omega) (Nat.le_of_ble_eq_true rfl) rfl (fun Ew7 hkq7 hsq7 => ?_)
  replace hM : Ew7 78 = .inr (9, [.ref (ad 79), .ref (ad 80), .int (jI _), .int (jI _), .int (jI _), .int (jI _), .int (jI _), .int (jI _), .int (jI _), .int (jI _), .int (jI _), .int (jI _), .int (jI _), .int (jI _), .ref (ad 81), .ref (ad 82), .ref (ad 83), .ref (ad 84), .ref (ad 85), .ref (ad 86), .ref (ad 87), .ref (ad 88), .ref (ad 89), .int (jI _), .int (jI _), .ref (ad 90), .ref (ad 91), .ref (ad 92), .ref (ad 93), .ref (ad 94), .int (jI _)]) := hkq7
  replace hS := (hsq7 79 (by omega)).trans hS
  replace hTp := (hsq7 80 (by omega)).trans hTp
  replace hRs := (hsq7 81 (by omega)).trans hRs
  replace hEn := (hsq7 82 (by omega)).trans hEn
  replace hLe := (hsq7 83 (by omega)).trans hLe
  replace hMa := (hsq7 84 (by omega)).trans hMa
  replace hPa := (hsq7 85 (by omega)).trans hPa
  replace hAl := (hsq7 86 (by omega)).trans hAl
  replace hHe := (hsq7 87 (by omega)).trans hHe
  replace hUn := (hsq7 88 (by omega)).trans hUn
  replace hRe := (hsq7 89 (by omega)).trans hRe
  replace hOt := (hsq7 90 (by omega)).trans hOt
  replace hIk := (hsq7 91 (by omega)).trans hIk
  replace hLa := (hsq7 92 (by omega)).trans hLa
  replace hLn := (hsq7 93 (by omega)).trans hLn
  replace hCe := (hsq7 94 (by omega)).trans hCe
  replace hF : ∀ j : Nat, j < 78 → Ew7 j = E0 j := fun j hj => (hsq7 j (by omega)).trans (hF j hj)
  refine J_aload_n (q := 11) X dX10_text_10 rfl rfl ?_
  refine J_iconst (q := 12) X dX10_text_11 rfl ?_
  refine J_put (q := 15) (ty := .int) X dX10_text_12 fX10_139 rfl (by decide +kernel) rfl rfl hM (by omega) (Nat.le_of_ble_eq_true rfl) rfl (fun Ew12 hkq12 hsq12 => ?_)
  replace hM : Ew12 78 = .inr (9, [.ref (ad 79), .ref (ad 80), .int (jI _), .int (jI _), .int (jI _), .int (jI _), .int (jI _), .int (jI _), .int (jI _), .int (jI _), .int (jI _), .int (jI _), .int (jI _), .int (jI _), .ref (ad 81), .ref (ad 82), .ref (ad 83), .ref (ad 84), .ref (ad 85), .ref (ad 86), .ref (ad 87), .ref (ad 88), .ref (ad 89), .int (jI _), .int (jI _), .ref (ad 90), .ref (ad 91), .ref (ad 92), .ref (ad 93), .ref (ad 94), .int (jI _)]) := hkq12
  replace hS := (hsq12 79 (by omega)).trans hS
  replace hTp := (hsq12 80 (by omega)).trans hTp
  replace hRs := (hsq12 81 (by omega)).trans hRs
  replace hEn := (hsq12 82 (by omega)).trans hEn
  replace hLe := (hsq12 83 (by omega)).trans hLe
  replace hMa := (hsq12 84 (by omega)).trans hMa
  replace hPa := (hsq12 85 (by omega)).trans hPa
  replace hAl := (hsq12 86 (by omega)).trans hAl
  replace hHe := (hsq12 87 (by omega)).trans hHe
  replace hUn := (hsq12 88 (by omega)).trans hUn
  replace hRe := (hsq12 89 (by omega)).trans hRe
  replace hOt := (hsq12 90 (by omega)).trans hOt
  replace hIk := (hsq12 91 (by omega)).trans hIk
  replace hLa := (hsq12 92 (by omega)).trans hLa
  replace hLn := (hsq12 93 (by omega)).trans hLn
  replace hCe := (hsq12 94 (by omega)).trans hCe
  replace hF : ∀ j : Nat, j < 78 → Ew12 j = E0 j := fun j hj => (hsq12 j (by omega)).trans (hF j hj)
  refine J_aload_n (q := 16) X dX10_text_15 rfl rfl ?_
  refine J_iconst (q := 17) X dX10_text_16 rfl ?_
  refine J_put (q := 20) (ty := .int) X dX10_text_17 fX10_119 rfl (by decide +kernel) rfl rfl hM (by omega) (Nat.le_of_ble_eq_true rfl) rfl (fun Ew17 hkq17 hsq17 => ?_)
  replace hM : Ew17 78 = .inr (9, [.ref (ad 79), .ref (ad 80), .int (jI _), .int (jI _), .int (jI _), .int (jI _), .int (jI _), .int (jI _), .int (jI _), .int (jI _), .int (jI _), .int (jI _), .int (jI _), .int (jI _), .ref (ad 81), .ref (ad 82), .ref (ad 83), .ref (ad 84), .ref (ad 85), .ref (ad 86), .ref (ad 87), .ref (ad 88), .ref (ad 89), .int (jI _), .int (jI _), .ref (ad 90), .ref (ad 91), .ref (ad 92), .ref (ad 93), .ref (ad 94), .int (jI _)]) := hkq17
  replace hS := (hsq17 79 (by omega)).trans hS
  replace hTp := (hsq17 80 (by omega)).trans hTp
  replace hRs := (hsq17 81 (by omega)).trans hRs
  replace hEn := (hsq17 82 (by omega)).trans hEn
  replace hLe := (hsq17 83 (by omega)).trans hLe
  replace hMa := (hsq17 84 (by omega)).trans hMa
  replace hPa := (hsq17 85 (by omega)).trans hPa
  replace hAl := (hsq17 86 (by omega)).trans hAl
  replace hHe := (hsq17 87 (by omega)).trans hHe
  replace hUn := (hsq17 88 (by omega)).trans hUn
  replace hRe := (hsq17 89 (by omega)).trans hRe
  replace hOt := (hsq17 90 (by omega)).trans hOt
  replace hIk := (hsq17 91 (by omega)).trans hIk
  replace hLa := (hsq17 92 (by omega)).trans hLa
  replace hLn := (hsq17 93 (by omega)).trans hLn
  replace hCe := (hsq17 94 (by omega)).trans hCe
  replace hF : ∀ j : Nat, j < 78 → Ew17 j = E0 j := fun j hj => (hsq17 j (by omega)).trans (hF j hj)
  refine J_iconst (q := 21) X dX10_text_20 rfl ?_
  refine J_istore_n (q := 22) X dX10_text_21 (by decide) rfl rfl ?_
  have lp22 : ∀ (mm : Nat) (u : Int) (gg : Int → Int) (E : Nat → va_E) (hu : 0 ≤ u ∧ u ≤ 61) (hgg : ∀ j : Int, gg j = if 183 ≤ j ∧ j < 183 + u then 0 else g j) (hM : E 78 = .inr (9, [.ref (ad 79), .ref (ad 80), .int (jI s.tl), .int (jI s.b0), .int (jI 0), .int (jI m3), .int (jI 0), .int (jI m5), .int (jI m6), .int (jI m7), .int (jI 0), .int (jI 0), .int (jI m10), .int (jI m11), .ref (ad 81), .ref (ad 82), .ref (ad 83), .ref (ad 84), .ref (ad 85), .ref (ad 86), .ref (ad 87), .ref (ad 88), .ref (ad 89), .int (jI s.p), .int (jI s.a), .ref (ad 90), .ref (ad 91), .ref (ad 92), .ref (ad 93), .ref (ad 94), .int (jI s.tor)])) (hS : E 79 = aI Γ 305 gg) (hTp : E 80 = aI Γ 160 s.tb) (hRs : E 81 = aI Γ 3 rs) (hEn : E 82 = aI Γ 4 enF) (hLe : E 83 = aI Γ 10 leF) (hMa : E 84 = aI Γ 60 ma) (hPa : E 85 = aI Γ 60 pa) (hAl : E 86 = aI Γ 60 al) (hHe : E 87 = aI Γ 60 he) (hUn : E 88 = aI Γ 1220 un) (hRe : E 89 = aI Γ 1220 re) (hOt : E 90 = aI Γ 120 ot) (hIk : E 91 = aZ Γ 2 s.kp) (hLa : E 92 = aI Γ 4 ln) (hLn : E 93 = aI Γ 4 lg) (hCe : E 94 = aI Γ 160 ce) (hF : ∀ j : Nat, j < 78 → E j = E0 j) (hmm : 62 - u ≤ (mm : Int)), J l Γ Ω 2 ad 95 0 0 E 22 [some (.ref (ad 78)), some (.int (jI u))] [] := by
    intro mm
    induction mm with
    | zero => intro u gg E hu hgg hM hS hTp hRs hEn hLe hMa hPa hAl hHe hUn hRe hOt hIk hLa hLn hCe hF hmm; exfalso; omega
    | succ mm ih22 =>
      intro u gg E hu hgg hM hS hTp hRs hEn hLe hMa hPa hAl hHe hUn hRe hOt hIk hLa hLn hCe hF hmm
      refine J_iload_n (q := 23) X dX10_text_22 rfl rfl ?_
      refine J_bipush (q := 25) X dX10_text_23 rfl (by decide) ?_
      refine J_icmp_ge (q := 28) (tgt := 45) X dX10_text_25 (by decide) rfl (by omega) (by omega) (fun cq25 => ?_) (fun cq25 => ?_)
      · have eu : u = 61 := by omega
        subst eu
        have h243 : gg 243 = 0 := by rw [hgg, if_pos (by omega)]
        refine J_iconst (q := 46) X dX10_text_45 rfl ?_
        refine J_istore_n (q := 47) X dX10_text_46 (by decide) rfl rfl ?_
        have lp47 : ∀ (mm : Nat) (w : Int) (ga : Int → Int) (E : Nat → va_E) (hw : 0 ≤ w ∧ w ≤ 60) (hga : ∀ j : Int, ga j = if 0 ≤ j ∧ j < w then 0 else ma j) (hM : E 78 = .inr (9, [.ref (ad 79), .ref (ad 80), .int (jI s.tl), .int (jI s.b0), .int (jI 0), .int (jI m3), .int (jI 0), .int (jI m5), .int (jI m6), .int (jI m7), .int (jI 0), .int (jI 0), .int (jI m10), .int (jI m11), .ref (ad 81), .ref (ad 82), .ref (ad 83), .ref (ad 84), .ref (ad 85), .ref (ad 86), .ref (ad 87), .ref (ad 88), .ref (ad 89), .int (jI s.p), .int (jI s.a), .ref (ad 90), .ref (ad 91), .ref (ad 92), .ref (ad 93), .ref (ad 94), .int (jI s.tor)])) (hS : E 79 = aI Γ 305 gg) (hTp : E 80 = aI Γ 160 s.tb) (hRs : E 81 = aI Γ 3 rs) (hEn : E 82 = aI Γ 4 enF) (hLe : E 83 = aI Γ 10 leF) (hMa : E 84 = aI Γ 60 ga) (hPa : E 85 = aI Γ 60 pa) (hAl : E 86 = aI Γ 60 al) (hHe : E 87 = aI Γ 60 he) (hUn : E 88 = aI Γ 1220 un) (hRe : E 89 = aI Γ 1220 re) (hOt : E 90 = aI Γ 120 ot) (hIk : E 91 = aZ Γ 2 s.kp) (hLa : E 92 = aI Γ 4 ln) (hLn : E 93 = aI Γ 4 lg) (hCe : E 94 = aI Γ 160 ce) (hF : ∀ j : Nat, j < 78 → E j = E0 j) (hmm : 61 - w ≤ (mm : Int)), J l Γ Ω 2 ad 95 0 0 E 47 [some (.ref (ad 78)), some (.int (jI w))] [] := by
          intro mm
          induction mm with
          | zero => intro w ga E hw hga hM hS hTp hRs hEn hLe hMa hPa hAl hHe hUn hRe hOt hIk hLa hLn hCe hF hmm; exfalso; omega
          | succ mm ih47 =>
            intro w ga E hw hga hM hS hTp hRs hEn hLe hMa hPa hAl hHe hUn hRe hOt hIk hLa hLn hCe hF hmm
            refine J_iload_n (q := 48) X dX10_text_47 rfl rfl ?_
            refine J_bipush (q := 50) X dX10_text_48 rfl (by decide) ?_
            refine J_icmp_ge (q := 53) (tgt := 66) X dX10_text_50 (by decide) rfl (by omega) (by omega) (fun cq50 => ?_) (fun cq50 => ?_)
            · have ew : w = 60 := by omega
              subst ew
              obtain ⟨r, hr⟩ : ∃ r, r = run s.tb s.tl 161 0 1 0 0 0 0 0 (fun _ => 0) ga := ⟨_, rfl⟩
              have hre0 : RE r (R0 s.tb s.tl) := by
                rw [hr]
                exact run_congr s.tb s.tl 161 0 1 0 0 0 0 0 0 0 (fun _ => 0) ga (fun _ => 0) (fun _ => 0) (fun _ => ⟨rfl, rfl⟩) (fun _ _ _ => rfl) (fun j a b => by rw [hga, if_pos (by omega)])
              refine J_aload_n (q := 67) X dX10_text_66 rfl rfl ?_
              refine J_callV (q := 70) (jrV X mX10_122 dX10_text_67 (c_X10_readsOnT (r := r) (z0 := 0) (x := 1) (mg := 0) (ti := 0) (g := gg) (ma := ga) hM hTp htb ⟨by omega, fun z => absurd rfl z, fun _ => ⟨161, 0, fun _ => 0, by omega, by omega, ⟨by omega, h243, fun j a b => by omega⟩, hr⟩⟩) hM (by omega) rfl rfl rfl rfl (Nat.le_of_ble_eq_true rfl) (by decide)) rfl (fun Ew67 hpq67 => ?_)
              obtain ⟨bq67, baq67, sq67, hq67, kq67, vq67, yq67, qq67, kM, htq67, hbrq67, hsq67⟩ := hpq67
              replace hM := kM
              replace hS := (hsq67 79 (by omega)).trans hS
              replace hTp := (hsq67 80 (by omega)).trans hTp
              replace hRs := (hsq67 81 (by omega)).trans hRs
              replace hEn := (hsq67 82 (by omega)).trans hEn
              replace hLe := (hsq67 83 (by omega)).trans hLe
              replace hMa := (hsq67 84 (by omega)).trans hMa
              replace hPa := (hsq67 85 (by omega)).trans hPa
              replace hAl := (hsq67 86 (by omega)).trans hAl
              replace hHe := (hsq67 87 (by omega)).trans hHe
              replace hUn := (hsq67 88 (by omega)).trans hUn
              replace hRe := (hsq67 89 (by omega)).trans hRe
              replace hOt := (hsq67 90 (by omega)).trans hOt
              replace hIk := (hsq67 91 (by omega)).trans hIk
              replace hLa := (hsq67 92 (by omega)).trans hLa
              replace hLn := (hsq67 93 (by omega)).trans hLn
              replace hCe := (hsq67 94 (by omega)).trans hCe
              replace hF : ∀ j : Nat, j < 78 → Ew67 j = E0 j := fun j hj => (hsq67 j (by omega)).trans (hF j hj)
              refine J_kill 1 ?_
              have lp70 : ∀ (mm : Nat) (b ba t h k v y q li tk mg ti z0 : Int) (g1 ma1 : Int → Int) (E : Nat → va_E) (htq : TQ r s.tb s.tl z0 1 mg ti b ba t h k v li tk y g1 ma1) (hma1 : MBm ma1) (hgf1 : ∀ j : Int, j < 183 ∨ 244 ≤ j → g1 j = g j) (hz0 : z0 ≤ s.tl + 1) (hM : E 78 = .inr (9, [.ref (ad 79), .ref (ad 80), .int (jI s.tl), .int (jI s.b0), .int (jI b), .int (jI ba), .int (jI t), .int (jI h), .int (jI k), .int (jI v), .int (jI li), .int (jI tk), .int (jI y), .int (jI q), .ref (ad 81), .ref (ad 82), .ref (ad 83), .ref (ad 84), .ref (ad 85), .ref (ad 86), .ref (ad 87), .ref (ad 88), .ref (ad 89), .int (jI s.p), .int (jI s.a), .ref (ad 90), .ref (ad 91), .ref (ad 92), .ref (ad 93), .ref (ad 94), .int (jI s.tor)])) (hS : E 79 = aI Γ 305 g1) (hTp : E 80 = aI Γ 160 s.tb) (hRs : E 81 = aI Γ 3 rs) (hEn : E 82 = aI Γ 4 enF) (hLe : E 83 = aI Γ 10 leF) (hMa : E 84 = aI Γ 60 ma1) (hPa : E 85 = aI Γ 60 pa) (hAl : E 86 = aI Γ 60 al) (hHe : E 87 = aI Γ 60 he) (hUn : E 88 = aI Γ 1220 un) (hRe : E 89 = aI Γ 1220 re) (hOt : E 90 = aI Γ 120 ot) (hIk : E 91 = aZ Γ 2 s.kp) (hLa : E 92 = aI Γ 4 ln) (hLn : E 93 = aI Γ 4 lg) (hCe : E 94 = aI Γ 160 ce) (hF : ∀ j : Nat, j < 78 → E j = E0 j) (hmm : s.tl + 2 - z0 ≤ (mm : Int)), J l Γ Ω 2 ad 95 0 0 E 70 [some (.ref (ad 78)), none] [] := by
                intro mm
                induction mm with
                | zero => intro b ba t h k v y q li tk mg ti z0 g1 ma1 E htq hma1 hgf1 hz0 hM hS hTp hRs hEn hLe hMa hPa hAl hHe hUn hRe hOt hIk hLa hLn hCe hF hmm; exfalso; omega
                | succ mm ih70 =>
                  intro b ba t h k v y q li tk mg ti z0 g1 ma1 E htq hma1 hgf1 hz0 hM hS hTp hRs hEn hLe hMa hPa hAl hHe hUn hRe hOt hIk hLa hLn hCe hF hmm
                  obtain ⟨⟨-, -, hbb⟩, -, -⟩ := id htq
                  have hkb : b = 0 → 0 ≤ k ∧ k ≤ 4 ∧ z0 ≤ s.tl := fun z => by
                    subst z
                    have hx := TQ_b htq
                    exact ⟨hx.2.2.2.1.1, hx.2.2.2.1.2, by omega⟩
                  have jn104 : ∀ (wi : Int) (hwi : (b ≠ 0 ∧ wi = 1) ∨ (b = 0 ∧ k = 0 ∧ wi = 0)), J l Γ Ω 2 ad 95 0 0 E 104 [some (.ref (ad 78)), some (.int (jI wi))] [] := by
                    intro wi hwi
                    have jn124 : ∀ (b2 ba2 : Int) (g2 : Int → Int) (E : Nat → va_E) (hfn : FN r b2 ba2 li tk y wi g2) (hg2f : ∀ j : Int, j < 183 ∨ 244 ≤ j → g2 j = g j) (hM : E 78 = .inr (9, [.ref (ad 79), .ref (ad 80), .int (jI s.tl), .int (jI s.b0), .int (jI b2), .int (jI ba2), .int (jI t), .int (jI h), .int (jI k), .int (jI v), .int (jI li), .int (jI tk), .int (jI y), .int (jI q), .ref (ad 81), .ref (ad 82), .ref (ad 83), .ref (ad 84), .ref (ad 85), .ref (ad 86), .ref (ad 87), .ref (ad 88), .ref (ad 89), .int (jI s.p), .int (jI s.a), .ref (ad 90), .ref (ad 91), .ref (ad 92), .ref (ad 93), .ref (ad 94), .int (jI s.tor)])) (hS : E 79 = aI Γ 305 g2) (hTp : E 80 = aI Γ 160 s.tb) (hRs : E 81 = aI Γ 3 rs) (hEn : E 82 = aI Γ 4 enF) (hLe : E 83 = aI Γ 10 leF) (hMa : E 84 = aI Γ 60 ma1) (hPa : E 85 = aI Γ 60 pa) (hAl : E 86 = aI Γ 60 al) (hHe : E 87 = aI Γ 60 he) (hUn : E 88 = aI Γ 1220 un) (hRe : E 89 = aI Γ 1220 re) (hOt : E 90 = aI Γ 120 ot) (hIk : E 91 = aZ Γ 2 s.kp) (hLa : E 92 = aI Γ 4 ln) (hLn : E 93 = aI Γ 4 lg) (hCe : E 94 = aI Γ 160 ce) (hF : ∀ j : Nat, j < 78 → E j = E0 j), J l Γ Ω 2 ad 95 0 0 E 124 [some (.ref (ad 78)), some (.int (jI wi))] [] := by
                      intro b2 ba2 g2 E hfn hg2f hM hS hTp hRs hEn hLe hMa hPa hAl hHe hUn hRe hOt hIk hLa hLn hCe hF
                      have hb2b := hfn.1.2
                      have hwb : wi = 0 ∨ wi = 1 := by
                        rcases hwi with z | z
                        · exact Or.inr z.2
                        · exact Or.inl z.2.2
                      refine J_aload_n (q := 125) X dX10_text_124 rfl rfl ?_
                      refine J_iconst (q := 126) X dX10_text_125 rfl ?_
                      refine J_put (q := 129) (ty := .int) X dX10_text_126 fX10_65 rfl (by decide +kernel) rfl rfl hM (by omega) (Nat.le_of_ble_eq_true rfl) rfl (fun Ew126 hkq126 hsq126 => ?_)
                      replace hM : Ew126 78 = .inr (9, [.ref (ad 79), .ref (ad 80), .int (jI _), .int (jI _), .int (jI _), .int (jI _), .int (jI _), .int (jI _), .int (jI _), .int (jI _), .int (jI _), .int (jI _), .int (jI _), .int (jI _), .ref (ad 81), .ref (ad 82), .ref (ad 83), .ref (ad 84), .ref (ad 85), .ref (ad 86), .ref (ad 87), .ref (ad 88), .ref (ad 89), .int (jI _), .int (jI _), .ref (ad 90), .ref (ad 91), .ref (ad 92), .ref (ad 93), .ref (ad 94), .int (jI _)]) := hkq126
                      replace hS := (hsq126 79 (by omega)).trans hS
                      replace hTp := (hsq126 80 (by omega)).trans hTp
                      replace hRs := (hsq126 81 (by omega)).trans hRs
                      replace hEn := (hsq126 82 (by omega)).trans hEn
                      replace hLe := (hsq126 83 (by omega)).trans hLe
                      replace hMa := (hsq126 84 (by omega)).trans hMa
                      replace hPa := (hsq126 85 (by omega)).trans hPa
                      replace hAl := (hsq126 86 (by omega)).trans hAl
                      replace hHe := (hsq126 87 (by omega)).trans hHe
                      replace hUn := (hsq126 88 (by omega)).trans hUn
                      replace hRe := (hsq126 89 (by omega)).trans hRe
                      replace hOt := (hsq126 90 (by omega)).trans hOt
                      replace hIk := (hsq126 91 (by omega)).trans hIk
                      replace hLa := (hsq126 92 (by omega)).trans hLa
                      replace hLn := (hsq126 93 (by omega)).trans hLn
                      replace hCe := (hsq126 94 (by omega)).trans hCe
                      replace hF : ∀ j : Nat, j < 78 → Ew126 j = E0 j := fun j hj => (hsq126 j (by omega)).trans (hF j hj)
                      refine J_aload_n (q := 130) X dX10_text_129 rfl rfl ?_
                      refine J_aload_n (q := 131) X dX10_text_130 rfl rfl ?_
                      refine J_get (q := 134) X dX10_text_131 fX10_69 hM (by omega) rfl rfl ?_
                      refine J_put (q := 137) (ty := .int) X dX10_text_134 fX10_152 rfl (by decide +kernel) rfl rfl hM (by omega) (Nat.le_of_ble_eq_true rfl) rfl (fun Ew134 hkq134 hsq134 => ?_)
                      replace hM : Ew134 78 = .inr (9, [.ref (ad 79), .ref (ad 80), .int (jI _), .int (jI _), .int (jI _), .int (jI _), .int (jI _), .int (jI _), .int (jI _), .int (jI _), .int (jI _), .int (jI _), .int (jI _), .int (jI _), .ref (ad 81), .ref (ad 82), .ref (ad 83), .ref (ad 84), .ref (ad 85), .ref (ad 86), .ref (ad 87), .ref (ad 88), .ref (ad 89), .int (jI _), .int (jI _), .ref (ad 90), .ref (ad 91), .ref (ad 92), .ref (ad 93), .ref (ad 94), .int (jI _)]) := hkq134
                      replace hS := (hsq134 79 (by omega)).trans hS
                      replace hTp := (hsq134 80 (by omega)).trans hTp
                      replace hRs := (hsq134 81 (by omega)).trans hRs
                      replace hEn := (hsq134 82 (by omega)).trans hEn
                      replace hLe := (hsq134 83 (by omega)).trans hLe
                      replace hMa := (hsq134 84 (by omega)).trans hMa
                      replace hPa := (hsq134 85 (by omega)).trans hPa
                      replace hAl := (hsq134 86 (by omega)).trans hAl
                      replace hHe := (hsq134 87 (by omega)).trans hHe
                      replace hUn := (hsq134 88 (by omega)).trans hUn
                      replace hRe := (hsq134 89 (by omega)).trans hRe
                      replace hOt := (hsq134 90 (by omega)).trans hOt
                      replace hIk := (hsq134 91 (by omega)).trans hIk
                      replace hLa := (hsq134 92 (by omega)).trans hLa
                      replace hLn := (hsq134 93 (by omega)).trans hLn
                      replace hCe := (hsq134 94 (by omega)).trans hCe
                      replace hF : ∀ j : Nat, j < 78 → Ew134 j = E0 j := fun j hj => (hsq134 j (by omega)).trans (hF j hj)
                      have jn155 : ∀ (v0 : Int) (hv0 : v0 = if wi = 0 then -4 else li), J l Γ Ω 2 ad 95 0 0 Ew134 155 [some (.ref (ad 78)), some (.int (jI wi))] [.int (jI v0), .int (jI 0), .ref (ad 81)] := by
                        intro v0 hv0
                        refine J_iast (q := 156) X dX10_text_155 hRs (by omega) (by omega) (by decide) rfl (fun Ew155 hkq155 hsq155 => ?_)
                        replace hRs := hkq155
                        replace hM := (hsq155 78 (by omega)).trans hM
                        replace hS := (hsq155 79 (by omega)).trans hS
                        replace hTp := (hsq155 80 (by omega)).trans hTp
                        replace hEn := (hsq155 82 (by omega)).trans hEn
                        replace hLe := (hsq155 83 (by omega)).trans hLe
                        replace hMa := (hsq155 84 (by omega)).trans hMa
                        replace hPa := (hsq155 85 (by omega)).trans hPa
                        replace hAl := (hsq155 86 (by omega)).trans hAl
                        replace hHe := (hsq155 87 (by omega)).trans hHe
                        replace hUn := (hsq155 88 (by omega)).trans hUn
                        replace hRe := (hsq155 89 (by omega)).trans hRe
                        replace hOt := (hsq155 90 (by omega)).trans hOt
                        replace hIk := (hsq155 91 (by omega)).trans hIk
                        replace hLa := (hsq155 92 (by omega)).trans hLa
                        replace hLn := (hsq155 93 (by omega)).trans hLn
                        replace hCe := (hsq155 94 (by omega)).trans hCe
                        replace hF : ∀ j : Nat, j < 78 → Ew155 j = E0 j := fun j hj => (hsq155 j (by omega)).trans (hF j hj)
                        have jn174 : ∀ (v1 : Int) (hv1 : v1 = if wi = 0 then -4 else tk), J l Γ Ω 2 ad 95 0 0 Ew155 174 [some (.ref (ad 78)), some (.int (jI wi))] [.int (jI v1), .int (jI 1), .ref (ad 81)] := by
                          intro v1 hv1
                          refine J_iast (q := 175) X dX10_text_174 hRs (by omega) (by omega) (by decide) rfl (fun Ew174 hkq174 hsq174 => ?_)
                          replace hRs := hkq174
                          replace hM := (hsq174 78 (by omega)).trans hM
                          replace hS := (hsq174 79 (by omega)).trans hS
                          replace hTp := (hsq174 80 (by omega)).trans hTp
                          replace hEn := (hsq174 82 (by omega)).trans hEn
                          replace hLe := (hsq174 83 (by omega)).trans hLe
                          replace hMa := (hsq174 84 (by omega)).trans hMa
                          replace hPa := (hsq174 85 (by omega)).trans hPa
                          replace hAl := (hsq174 86 (by omega)).trans hAl
                          replace hHe := (hsq174 87 (by omega)).trans hHe
                          replace hUn := (hsq174 88 (by omega)).trans hUn
                          replace hRe := (hsq174 89 (by omega)).trans hRe
                          replace hOt := (hsq174 90 (by omega)).trans hOt
                          replace hIk := (hsq174 91 (by omega)).trans hIk
                          replace hLa := (hsq174 92 (by omega)).trans hLa
                          replace hLn := (hsq174 93 (by omega)).trans hLn
                          replace hCe := (hsq174 94 (by omega)).trans hCe
                          replace hF : ∀ j : Nat, j < 78 → Ew174 j = E0 j := fun j hj => (hsq174 j (by omega)).trans (hF j hj)
                          have jn193 : ∀ (v2 : Int) (hv2 : v2 = if wi = 0 then -4 else y), J l Γ Ω 2 ad 95 0 0 Ew174 193 [some (.ref (ad 78)), some (.int (jI wi))] [.int (jI v2), .int (jI 2), .ref (ad 81)] := by
                            intro v2 hv2
                            refine J_iast (q := 194) X dX10_text_193 hRs (by omega) (by omega) (by decide) rfl (fun Ew193 hkq193 hsq193 => ?_)
                            replace hRs := hkq193
                            replace hM := (hsq193 78 (by omega)).trans hM
                            replace hS := (hsq193 79 (by omega)).trans hS
                            replace hTp := (hsq193 80 (by omega)).trans hTp
                            replace hEn := (hsq193 82 (by omega)).trans hEn
                            replace hLe := (hsq193 83 (by omega)).trans hLe
                            replace hMa := (hsq193 84 (by omega)).trans hMa
                            replace hPa := (hsq193 85 (by omega)).trans hPa
                            replace hAl := (hsq193 86 (by omega)).trans hAl
                            replace hHe := (hsq193 87 (by omega)).trans hHe
                            replace hUn := (hsq193 88 (by omega)).trans hUn
                            replace hRe := (hsq193 89 (by omega)).trans hRe
                            replace hOt := (hsq193 90 (by omega)).trans hOt
                            replace hIk := (hsq193 91 (by omega)).trans hIk
                            replace hLa := (hsq193 92 (by omega)).trans hLa
                            replace hLn := (hsq193 93 (by omega)).trans hLn
                            replace hCe := (hsq193 94 (by omega)).trans hCe
                            replace hF : ∀ j : Nat, j < 78 → Ew193 j = E0 j := fun j hj => (hsq193 j (by omega)).trans (hF j hj)
                            refine J_aload_n (q := 195) X dX10_text_194 rfl rfl ?_
                            refine J_get (q := 198) X dX10_text_195 fX10_69 hM (by omega) rfl rfl ?_
                            refine J_if_le (q := 201) (tgt := 209) X dX10_text_198 (by decide) rfl (by omega) (fun cq198 => ?_) (fun cq198 => ?_)
                            · refine J_aload_n (q := 210) X dX10_text_209 rfl rfl ?_
                              refine J_sipush (q := 213) X dX10_text_210 rfl (by decide) ?_
                              refine J_iconst (q := 214) X dX10_text_213 rfl ?_
                              refine J_callV (q := 217) (jrV X mX10_155 dX10_text_214 (c_X10_copies hM hS (by omega)) hM (by omega) rfl rfl rfl rfl (Nat.le_of_ble_eq_true rfl) (by decide)) rfl (fun Ew214 hpq214 => ?_)
                              obtain ⟨kS, hsq214⟩ := hpq214
                              replace hS := kS
                              replace hM := (hsq214 78 (by omega)).trans hM
                              replace hTp := (hsq214 80 (by omega)).trans hTp
                              replace hRs := (hsq214 81 (by omega)).trans hRs
                              replace hEn := (hsq214 82 (by omega)).trans hEn
                              replace hLe := (hsq214 83 (by omega)).trans hLe
                              replace hMa := (hsq214 84 (by omega)).trans hMa
                              replace hPa := (hsq214 85 (by omega)).trans hPa
                              replace hAl := (hsq214 86 (by omega)).trans hAl
                              replace hHe := (hsq214 87 (by omega)).trans hHe
                              replace hUn := (hsq214 88 (by omega)).trans hUn
                              replace hRe := (hsq214 89 (by omega)).trans hRe
                              replace hOt := (hsq214 90 (by omega)).trans hOt
                              replace hIk := (hsq214 91 (by omega)).trans hIk
                              replace hLa := (hsq214 92 (by omega)).trans hLa
                              replace hLn := (hsq214 93 (by omega)).trans hLn
                              replace hCe := (hsq214 94 (by omega)).trans hCe
                              replace hF : ∀ j : Nat, j < 78 → Ew214 j = E0 j := fun j hj => (hsq214 j (by omega)).trans (hF j hj)
                              refine J_aload_n (q := 218) X dX10_text_217 rfl rfl ?_
                              refine J_iconst (q := 219) X dX10_text_218 rfl ?_
                              refine J_put (q := 222) (ty := .int) X dX10_text_219 fX10_159 rfl (by decide +kernel) rfl rfl hM (by omega) (Nat.le_of_ble_eq_true rfl) rfl (fun Ew219 hkq219 hsq219 => ?_)
                              replace hM : Ew219 78 = .inr (9, [.ref (ad 79), .ref (ad 80), .int (jI _), .int (jI _), .int (jI _), .int (jI _), .int (jI _), .int (jI _), .int (jI _), .int (jI _), .int (jI _), .int (jI _), .int (jI _), .int (jI _), .ref (ad 81), .ref (ad 82), .ref (ad 83), .ref (ad 84), .ref (ad 85), .ref (ad 86), .ref (ad 87), .ref (ad 88), .ref (ad 89), .int (jI _), .int (jI _), .ref (ad 90), .ref (ad 91), .ref (ad 92), .ref (ad 93), .ref (ad 94), .int (jI _)]) := hkq219
                              replace hS := (hsq219 79 (by omega)).trans hS
                              replace hTp := (hsq219 80 (by omega)).trans hTp
                              replace hRs := (hsq219 81 (by omega)).trans hRs
                              replace hEn := (hsq219 82 (by omega)).trans hEn
                              replace hLe := (hsq219 83 (by omega)).trans hLe
                              replace hMa := (hsq219 84 (by omega)).trans hMa
                              replace hPa := (hsq219 85 (by omega)).trans hPa
                              replace hAl := (hsq219 86 (by omega)).trans hAl
                              replace hHe := (hsq219 87 (by omega)).trans hHe
                              replace hUn := (hsq219 88 (by omega)).trans hUn
                              replace hRe := (hsq219 89 (by omega)).trans hRe
                              replace hOt := (hsq219 90 (by omega)).trans hOt
                              replace hIk := (hsq219 91 (by omega)).trans hIk
                              replace hLa := (hsq219 92 (by omega)).trans hLa
                              replace hLn := (hsq219 93 (by omega)).trans hLn
                              replace hCe := (hsq219 94 (by omega)).trans hCe
                              replace hF : ∀ j : Nat, j < 78 → Ew219 j = E0 j := fun j hj => (hsq219 j (by omega)).trans (hF j hj)
                              refine J_aload_n (q := 223) X dX10_text_222 rfl rfl ?_
                              refine J_iconst (q := 224) X dX10_text_223 rfl ?_
                              refine J_put (q := 227) (ty := .int) X dX10_text_224 fX10_162 rfl (by decide +kernel) rfl rfl hM (by omega) (Nat.le_of_ble_eq_true rfl) rfl (fun Ew224 hkq224 hsq224 => ?_)
                              replace hM : Ew224 78 = .inr (9, [.ref (ad 79), .ref (ad 80), .int (jI _), .int (jI _), .int (jI _), .int (jI _), .int (jI _), .int (jI _), .int (jI _), .int (jI _), .int (jI _), .int (jI _), .int (jI _), .int (jI _), .ref (ad 81), .ref (ad 82), .ref (ad 83), .ref (ad 84), .ref (ad 85), .ref (ad 86), .ref (ad 87), .ref (ad 88), .ref (ad 89), .int (jI _), .int (jI _), .ref (ad 90), .ref (ad 91), .ref (ad 92), .ref (ad 93), .ref (ad 94), .int (jI _)]) := hkq224
                              replace hS := (hsq224 79 (by omega)).trans hS
                              replace hTp := (hsq224 80 (by omega)).trans hTp
                              replace hRs := (hsq224 81 (by omega)).trans hRs
                              replace hEn := (hsq224 82 (by omega)).trans hEn
                              replace hLe := (hsq224 83 (by omega)).trans hLe
                              replace hMa := (hsq224 84 (by omega)).trans hMa
                              replace hPa := (hsq224 85 (by omega)).trans hPa
                              replace hAl := (hsq224 86 (by omega)).trans hAl
                              replace hHe := (hsq224 87 (by omega)).trans hHe
                              replace hUn := (hsq224 88 (by omega)).trans hUn
                              replace hRe := (hsq224 89 (by omega)).trans hRe
                              replace hOt := (hsq224 90 (by omega)).trans hOt
                              replace hIk := (hsq224 91 (by omega)).trans hIk
                              replace hLa := (hsq224 92 (by omega)).trans hLa
                              replace hLn := (hsq224 93 (by omega)).trans hLn
                              replace hCe := (hsq224 94 (by omega)).trans hCe
                              replace hF : ∀ j : Nat, j < 78 → Ew224 j = E0 j := fun j hj => (hsq224 j (by omega)).trans (hF j hj)
                              refine J_aload_n (q := 228) X dX10_text_227 rfl rfl ?_
                              refine J_get (q := 231) X dX10_text_228 fX10_46 hM (by omega) rfl rfl ?_
                              refine J_iconst (q := 232) X dX10_text_231 rfl ?_
                              refine J_iconst (q := 233) X dX10_text_232 rfl ?_
                              refine J_zast (q := 234) X dX10_text_233 hIk (by omega) (by omega) (by decide) (by omega) rfl (fun Ew233 hkq233 hsq233 => ?_)
                              replace hIk := hkq233
                              replace hM := (hsq233 78 (by omega)).trans hM
                              replace hS := (hsq233 79 (by omega)).trans hS
                              replace hTp := (hsq233 80 (by omega)).trans hTp
                              replace hRs := (hsq233 81 (by omega)).trans hRs
                              replace hEn := (hsq233 82 (by omega)).trans hEn
                              replace hLe := (hsq233 83 (by omega)).trans hLe
                              replace hMa := (hsq233 84 (by omega)).trans hMa
                              replace hPa := (hsq233 85 (by omega)).trans hPa
                              replace hAl := (hsq233 86 (by omega)).trans hAl
                              replace hHe := (hsq233 87 (by omega)).trans hHe
                              replace hUn := (hsq233 88 (by omega)).trans hUn
                              replace hRe := (hsq233 89 (by omega)).trans hRe
                              replace hOt := (hsq233 90 (by omega)).trans hOt
                              replace hLa := (hsq233 92 (by omega)).trans hLa
                              replace hLn := (hsq233 93 (by omega)).trans hLn
                              replace hCe := (hsq233 94 (by omega)).trans hCe
                              replace hF : ∀ j : Nat, j < 78 → Ew233 j = E0 j := fun j hj => (hsq233 j (by omega)).trans (hF j hj)
                              refine J_aload_n (q := 235) X dX10_text_234 rfl rfl ?_
                              refine J_get (q := 238) X dX10_text_235 fX10_46 hM (by omega) rfl rfl ?_
                              refine J_iconst (q := 239) X dX10_text_238 rfl ?_
                              refine J_iconst (q := 240) X dX10_text_239 rfl ?_
                              refine J_zast (q := 241) X dX10_text_240 hIk (by omega) (by omega) (by decide) (by omega) rfl (fun Ew240 hkq240 hsq240 => ?_)
                              replace hIk := hkq240
                              replace hM := (hsq240 78 (by omega)).trans hM
                              replace hS := (hsq240 79 (by omega)).trans hS
                              replace hTp := (hsq240 80 (by omega)).trans hTp
                              replace hRs := (hsq240 81 (by omega)).trans hRs
                              replace hEn := (hsq240 82 (by omega)).trans hEn
                              replace hLe := (hsq240 83 (by omega)).trans hLe
                              replace hMa := (hsq240 84 (by omega)).trans hMa
                              replace hPa := (hsq240 85 (by omega)).trans hPa
                              replace hAl := (hsq240 86 (by omega)).trans hAl
                              replace hHe := (hsq240 87 (by omega)).trans hHe
                              replace hUn := (hsq240 88 (by omega)).trans hUn
                              replace hRe := (hsq240 89 (by omega)).trans hRe
                              replace hOt := (hsq240 90 (by omega)).trans hOt
                              replace hLa := (hsq240 92 (by omega)).trans hLa
                              replace hLn := (hsq240 93 (by omega)).trans hLn
                              replace hCe := (hsq240 94 (by omega)).trans hCe
                              replace hF : ∀ j : Nat, j < 78 → Ew240 j = E0 j := fun j hj => (hsq240 j (by omega)).trans (hF j hj)
                              refine J_aload_n (q := 242) X dX10_text_241 rfl rfl ?_
                              refine J_callP (q := 245) (jrV X mX10_165 dX10_text_242 (c_X10_many60 hM hS) hM (by omega) rfl rfl rfl rfl (Nat.le_of_ble_eq_true rfl) (by decide)) rfl ?_
                              refine J_iret X R dX10_text_245 ?_
                              rw [hE0] at hF
                              have hb0e : b2 = (R0 s.tb s.tl).1 := hfn.1.1.trans hre0.1
                              have hrs' : iu (iu (iu rs 0 v0) 1 v1) 2 v2 0 = (if (R0 s.tb s.tl).1 = 0 ∨ (R0 s.tb s.tl).1 = 6 then -4 else (R0 s.tb s.tl).2.2.1) ∧ iu (iu (iu rs 0 v0) 1 v1) 2 v2 1 = (if (R0 s.tb s.tl).1 = 0 ∨ (R0 s.tb s.tl).1 = 6 then -4 else (R0 s.tb s.tl).2.2.2.1) ∧ iu (iu (iu rs 0 v0) 1 v1) 2 v2 2 = (if (R0 s.tb s.tl).1 = 0 ∨ (R0 s.tb s.tl).1 = 6 then -4 else (R0 s.tb s.tl).2.2.2.2.1) := by
                                have x0 : iu (iu (iu rs 0 v0) 1 v1) 2 v2 0 = v0 := rfl
                                have x1 : iu (iu (iu rs 0 v0) 1 v1) 2 v2 1 = v1 := rfl
                                have x2 : iu (iu (iu rs 0 v0) 1 v1) 2 v2 2 = v2 := rfl
                                rw [x0, x1, x2, hv0, hv1, hv2, ← hb0e]
                                rcases hfn.2.2.1 with z | z
                                · rw [if_neg (by omega), if_neg (by omega), if_neg (by omega), if_neg (by omega), if_neg (by omega), if_neg (by omega)]
                                  exact ⟨z.2.2.2.1.trans hre0.2.2.1, z.2.2.2.2.1.trans hre0.2.2.2.1, z.2.2.2.2.2.trans hre0.2.2.2.2.1⟩
                                · rw [if_pos z.1, if_pos z.1, if_pos z.1, if_pos z.2, if_pos z.2, if_pos z.2]
                                  exact ⟨rfl, rfl, rfl⟩
                              have hbz : b2 = 0 := by omega
                              have hr0 : (R0 s.tb s.tl).1 = 0 := by rw [← hb0e]; exact hbz
                              have hq : qText s = ((R0 s.tb s.tl).2.2.2.2.2.1, s.told.anew) := (by unfold qText; rw [if_neg (fun z => z hr0)])
                              rw [hq]
                              have hfz := hfn.2.2.2 hbz
                              rw [if_pos (Or.inl hr0), if_pos (Or.inl hr0), if_pos (Or.inl hr0)] at hrs'
                              have hrn := hre0.2.2.2.2.2.1
                              have hmr := MR_told hk hr0 hMR hg2f (hfz.1.trans hrn) (fun j p q => by
                                rw [hfz.2 j p (by rw [hrn]; exact q)]
                                have hnb : 0 ≤ (R0 s.tb s.tl).2.2.2.2.2.1 ∧ (R0 s.tb s.tl).2.2.2.2.2.1 ≤ 60 := ((R0_fin hk0.htb).2 hr0).1
                                have ef := hre0.2.2.2.2.2.2.1 j p q
                                have em := hre0.2.2.2.2.2.2.2 j p (by omega)
                                show (if _ then _ else _) = (if _ then _ else _)
                                rw [ef, em]) hrs'
                              have hik : iu (iu s.kp 0 0) 1 0 = fun j => if 0 ≤ j ∧ j < 2 then 0 else s.kp j := by
                                funext j
                                show (if _ then _ else (if _ then _ else _)) = (if _ then _ else _)
                                repeat' split
                                all_goals first | rfl | (exfalso; omega)
                              rw [hik] at hIk
                              rw [hb0e] at hM
                              exact ⟨_, rfl, hmr.1.1, ⟨_, _, _, _, _, _, _, _, _, _, _, _, _, _, _, _, _, _, _, _, _, _, hM, hS, hTp, hRs, hEn, hLe, hMa, hPa, hAl, hHe, hUn, hRe, hOt, hIk, hLa, hLn, hCe, hmr⟩, hF⟩
                            · refine J_bipush (q := 203) X dX10_text_201 rfl (by decide) ?_
                              refine J_aload_n (q := 204) X dX10_text_203 rfl rfl ?_
                              refine J_get (q := 207) X dX10_text_204 fX10_75 hM (by omega) rfl rfl ?_
                              refine J_isub (q := 208) X dX10_text_207 rfl ?_
                              refine J_iret X R dX10_text_208 ?_
                              rw [hE0] at hF
                              have hb0e : b2 = (R0 s.tb s.tl).1 := hfn.1.1.trans hre0.1
                              have hrs' : iu (iu (iu rs 0 v0) 1 v1) 2 v2 0 = (if (R0 s.tb s.tl).1 = 0 ∨ (R0 s.tb s.tl).1 = 6 then -4 else (R0 s.tb s.tl).2.2.1) ∧ iu (iu (iu rs 0 v0) 1 v1) 2 v2 1 = (if (R0 s.tb s.tl).1 = 0 ∨ (R0 s.tb s.tl).1 = 6 then -4 else (R0 s.tb s.tl).2.2.2.1) ∧ iu (iu (iu rs 0 v0) 1 v1) 2 v2 2 = (if (R0 s.tb s.tl).1 = 0 ∨ (R0 s.tb s.tl).1 = 6 then -4 else (R0 s.tb s.tl).2.2.2.2.1) := by
                                have x0 : iu (iu (iu rs 0 v0) 1 v1) 2 v2 0 = v0 := rfl
                                have x1 : iu (iu (iu rs 0 v0) 1 v1) 2 v2 1 = v1 := rfl
                                have x2 : iu (iu (iu rs 0 v0) 1 v1) 2 v2 2 = v2 := rfl
                                rw [x0, x1, x2, hv0, hv1, hv2, ← hb0e]
                                rcases hfn.2.2.1 with z | z
                                · rw [if_neg (by omega), if_neg (by omega), if_neg (by omega), if_neg (by omega), if_neg (by omega), if_neg (by omega)]
                                  exact ⟨z.2.2.2.1.trans hre0.2.2.1, z.2.2.2.2.1.trans hre0.2.2.2.1, z.2.2.2.2.2.trans hre0.2.2.2.2.1⟩
                                · rw [if_pos z.1, if_pos z.1, if_pos z.1, if_pos z.2, if_pos z.2, if_pos z.2]
                                  exact ⟨rfl, rfl, rfl⟩
                              have hbn : b2 ≠ 0 := by omega
                              have hq : qText s = (-10 - (R0 s.tb s.tl).2.1, (s.tape 0 s.tb).blame (R0 s.tb s.tl).1 (R0 s.tb s.tl).2.2.1 (R0 s.tb s.tl).2.2.2.1 (R0 s.tb s.tl).2.2.2.2.1) := (by unfold qText; rw [if_pos (by rw [← hb0e]; exact hbn)])
                              rw [hq]
                              have hmr := MR_fail hk hMR hg2f hrs'
                              rw [hb0e] at hM
                              exact ⟨_, rfl, by rw [hfn.2.1 hbn, hre0.2.1], ⟨_, _, _, _, _, _, _, _, _, _, _, _, _, _, _, _, _, _, _, _, _, _, hM, hS, hTp, hRs, hEn, hLe, hMa, hPa, hAl, hHe, hUn, hRe, hOt, hIk, hLa, hLn, hCe, hmr⟩, hF⟩
                          refine J_aload_n (q := 176) X dX10_text_175 rfl rfl ?_
                          refine J_get (q := 179) X dX10_text_176 fX10_16 hM (by omega) rfl rfl ?_
                          refine J_iconst (q := 180) X dX10_text_179 rfl ?_
                          refine J_iload_n (q := 181) X dX10_text_180 rfl rfl ?_
                          refine J_if_eq (q := 184) (tgt := 191) X dX10_text_181 (by decide) rfl (by omega) (fun cq181 => ?_) (fun cq181 => ?_)
                          · refine J_bipush (q := 193) X dX10_text_191 rfl (by decide) ?_
                            first
                              | exact jn193 _ (if_pos cq181).symm
                              | exact jn193 _ (if_neg cq181).symm
                          · refine J_aload_n (q := 185) X dX10_text_184 rfl rfl ?_
                            refine J_get (q := 188) X dX10_text_185 fX10_102 hM (by omega) rfl rfl ?_
                            refine J_goto (q := 193) X dX10_text_188 (by decide) ?_
                            first
                              | exact jn193 _ (if_pos cq181).symm
                              | exact jn193 _ (if_neg cq181).symm
                        refine J_aload_n (q := 157) X dX10_text_156 rfl rfl ?_
                        refine J_get (q := 160) X dX10_text_157 fX10_16 hM (by omega) rfl rfl ?_
                        refine J_iconst (q := 161) X dX10_text_160 rfl ?_
                        refine J_iload_n (q := 162) X dX10_text_161 rfl rfl ?_
                        refine J_if_eq (q := 165) (tgt := 172) X dX10_text_162 (by decide) rfl (by omega) (fun cq162 => ?_) (fun cq162 => ?_)
                        · refine J_bipush (q := 174) X dX10_text_172 rfl (by decide) ?_
                          first
                            | exact jn174 _ (if_pos cq162).symm
                            | exact jn174 _ (if_neg cq162).symm
                        · refine J_aload_n (q := 166) X dX10_text_165 rfl rfl ?_
                          refine J_get (q := 169) X dX10_text_166 fX10_119 hM (by omega) rfl rfl ?_
                          refine J_goto (q := 174) X dX10_text_169 (by decide) ?_
                          first
                            | exact jn174 _ (if_pos cq162).symm
                            | exact jn174 _ (if_neg cq162).symm
                      refine J_aload_n (q := 138) X dX10_text_137 rfl rfl ?_
                      refine J_get (q := 141) X dX10_text_138 fX10_16 hM (by omega) rfl rfl ?_
                      refine J_iconst (q := 142) X dX10_text_141 rfl ?_
                      refine J_iload_n (q := 143) X dX10_text_142 rfl rfl ?_
                      refine J_if_eq (q := 146) (tgt := 153) X dX10_text_143 (by decide) rfl (by omega) (fun cq143 => ?_) (fun cq143 => ?_)
                      · refine J_bipush (q := 155) X dX10_text_153 rfl (by decide) ?_
                        first
                          | exact jn155 _ (if_pos cq143).symm
                          | exact jn155 _ (if_neg cq143).symm
                      · refine J_aload_n (q := 147) X dX10_text_146 rfl rfl ?_
                        refine J_get (q := 150) X dX10_text_147 fX10_139 hM (by omega) rfl rfl ?_
                        refine J_goto (q := 155) X dX10_text_150 (by decide) ?_
                        first
                          | exact jn155 _ (if_pos cq143).symm
                          | exact jn155 _ (if_neg cq143).symm
                    refine J_aload_n (q := 105) X dX10_text_104 rfl rfl ?_
                    refine J_get (q := 108) X dX10_text_105 fX10_69 hM (by omega) rfl rfl ?_
                    refine J_if_ne (q := 111) (tgt := 124) X dX10_text_108 (by decide) rfl (by omega) (fun cq108 => ?_) (fun cq108 => ?_)
                    · first
                        | (have hw1 : wi = 1 := by omega
                           subst hw1
                           exact jn124 _ _ _ _ (FN_br (by omega) htq) hgf1 hM hS hTp hRs hEn hLe hMa hPa hAl hHe hUn hRe hOt hIk hLa hLn hCe hF)
                        | (have hw1 : wi = 0 := by omega
                           subst hw1
                           exact jn124 _ _ _ _ (hfok (by first | (by_cases z : okM ma1 f n; exact z; (rw [bI_f z] at hzq112; exfalso; omega))) hma1 _ hfrq112 hmkq112) (fun j hj => (hfrq112 j (by omega)).trans (hgf1 j hj)) hM hS hTp hRs hEn hLe hMa hPa hAl hHe hUn hRe hOt hIk hLa hLn hCe hF)
                        | (have hw1 : wi = 0 := by omega
                           subst hw1
                           exact jn124 _ _ _ _ (hfno (by intro z; rw [bI_t z] at hzq112; omega) _) (fun j hj => (hfrq112 j (by omega)).trans (hgf1 j hj)) hM hS hTp hRs hEn hLe hMa hPa hAl hHe hUn hRe hOt hIk hLa hLn hCe hF)
                    · obtain rfl : b = 0 := cq108
                      obtain rfl : k = 0 := by omega
                      obtain ⟨n, f, hrg, hfok, hfno⟩ := FN_end htq
                      refine J_aload_n (q := 112) X dX10_text_111 rfl rfl ?_
                      refine J_callI (q := 115) (jrV X mX10_148 dX10_text_112 (c_X10_isWhole hM hS hMa hrg hma1) hM (by omega) rfl rfl rfl rfl (Nat.le_of_ble_eq_true rfl) (by decide)) rfl (fun zq112 Ew112 hpq112 => ?_)
                      obtain ⟨hzq112, gq112, kS, hfrq112, hmkq112, hsq112⟩ := hpq112
                      replace hS := kS
                      have hzb112 := bI_bd (okM ma1 f n)
                      replace hM := (hsq112 78 (by omega)).trans hM
                      replace hTp := (hsq112 80 (by omega)).trans hTp
                      replace hRs := (hsq112 81 (by omega)).trans hRs
                      replace hEn := (hsq112 82 (by omega)).trans hEn
                      replace hLe := (hsq112 83 (by omega)).trans hLe
                      replace hMa := (hsq112 84 (by omega)).trans hMa
                      replace hPa := (hsq112 85 (by omega)).trans hPa
                      replace hAl := (hsq112 86 (by omega)).trans hAl
                      replace hHe := (hsq112 87 (by omega)).trans hHe
                      replace hUn := (hsq112 88 (by omega)).trans hUn
                      replace hRe := (hsq112 89 (by omega)).trans hRe
                      replace hOt := (hsq112 90 (by omega)).trans hOt
                      replace hIk := (hsq112 91 (by omega)).trans hIk
                      replace hLa := (hsq112 92 (by omega)).trans hLa
                      replace hLn := (hsq112 93 (by omega)).trans hLn
                      replace hCe := (hsq112 94 (by omega)).trans hCe
                      replace hF : ∀ j : Nat, j < 78 → Ew112 j = E0 j := fun j hj => (hsq112 j (by omega)).trans (hF j hj)
                      refine J_if_ne (q := 118) (tgt := 124) X dX10_text_115 (by decide) rfl (by omega) (fun cq115 => ?_) (fun cq115 => ?_)
                      · first
                          | (have hw1 : wi = 1 := by omega
                             subst hw1
                             exact jn124 _ _ _ _ (FN_br (by omega) htq) hgf1 hM hS hTp hRs hEn hLe hMa hPa hAl hHe hUn hRe hOt hIk hLa hLn hCe hF)
                          | (have hw1 : wi = 0 := by omega
                             subst hw1
                             exact jn124 _ _ _ _ (hfok (by first | (by_cases z : okM ma1 f n; exact z; (rw [bI_f z] at hzq112; exfalso; omega))) hma1 _ hfrq112 hmkq112) (fun j hj => (hfrq112 j (by omega)).trans (hgf1 j hj)) hM hS hTp hRs hEn hLe hMa hPa hAl hHe hUn hRe hOt hIk hLa hLn hCe hF)
                          | (have hw1 : wi = 0 := by omega
                             subst hw1
                             exact jn124 _ _ _ _ (hfno (by intro z; rw [bI_t z] at hzq112; omega) _) (fun j hj => (hfrq112 j (by omega)).trans (hgf1 j hj)) hM hS hTp hRs hEn hLe hMa hPa hAl hHe hUn hRe hOt hIk hLa hLn hCe hF)
                      · refine J_aload_n (q := 119) X dX10_text_118 rfl rfl ?_
                        refine J_bipush (q := 121) X dX10_text_119 rfl (by decide) ?_
                        refine J_callV (q := 124) (jrV X mX10_105 dX10_text_121 (c_X10_fails hM (by omega)) hM (by omega) rfl rfl rfl rfl (Nat.le_of_ble_eq_true rfl) (by decide)) rfl (fun Ew121 hpq121 => ?_)
                        obtain ⟨kM, hsq121⟩ := hpq121
                        replace hM := kM
                        rw [if_pos rfl, if_pos rfl] at hM
                        replace hS := (hsq121 79 (by omega)).trans hS
                        replace hTp := (hsq121 80 (by omega)).trans hTp
                        replace hRs := (hsq121 81 (by omega)).trans hRs
                        replace hEn := (hsq121 82 (by omega)).trans hEn
                        replace hLe := (hsq121 83 (by omega)).trans hLe
                        replace hMa := (hsq121 84 (by omega)).trans hMa
                        replace hPa := (hsq121 85 (by omega)).trans hPa
                        replace hAl := (hsq121 86 (by omega)).trans hAl
                        replace hHe := (hsq121 87 (by omega)).trans hHe
                        replace hUn := (hsq121 88 (by omega)).trans hUn
                        replace hRe := (hsq121 89 (by omega)).trans hRe
                        replace hOt := (hsq121 90 (by omega)).trans hOt
                        replace hIk := (hsq121 91 (by omega)).trans hIk
                        replace hLa := (hsq121 92 (by omega)).trans hLa
                        replace hLn := (hsq121 93 (by omega)).trans hLn
                        replace hCe := (hsq121 94 (by omega)).trans hCe
                        replace hF : ∀ j : Nat, j < 78 → Ew121 j = E0 j := fun j hj => (hsq121 j (by omega)).trans (hF j hj)
                        first
                          | (have hw1 : wi = 1 := by omega
                             subst hw1
                             exact jn124 _ _ _ _ (FN_br (by omega) htq) hgf1 hM hS hTp hRs hEn hLe hMa hPa hAl hHe hUn hRe hOt hIk hLa hLn hCe hF)
                          | (have hw1 : wi = 0 := by omega
                             subst hw1
                             exact jn124 _ _ _ _ (hfok (by first | (by_cases z : okM ma1 f n; exact z; (rw [bI_f z] at hzq112; exfalso; omega))) hma1 _ hfrq112 hmkq112) (fun j hj => (hfrq112 j (by omega)).trans (hgf1 j hj)) hM hS hTp hRs hEn hLe hMa hPa hAl hHe hUn hRe hOt hIk hLa hLn hCe hF)
                          | (have hw1 : wi = 0 := by omega
                             subst hw1
                             exact jn124 _ _ _ _ (hfno (by intro z; rw [bI_t z] at hzq112; omega) _) (fun j hj => (hfrq112 j (by omega)).trans (hgf1 j hj)) hM hS hTp hRs hEn hLe hMa hPa hAl hHe hUn hRe hOt hIk hLa hLn hCe hF)
                  refine J_aload_n (q := 71) X dX10_text_70 rfl rfl ?_
                  refine J_get (q := 74) X dX10_text_71 fX10_69 hM (by omega) rfl rfl ?_
                  refine J_if_ne (q := 77) (tgt := 91) X dX10_text_74 (by decide) rfl (by omega) (fun cq74 => ?_) (fun cq74 => ?_)
                  · refine J_aload_n (q := 92) X dX10_text_91 rfl rfl ?_
                    refine J_get (q := 95) X dX10_text_92 fX10_69 hM (by omega) rfl rfl ?_
                    refine J_if_le (q := 98) (tgt := 102) X dX10_text_95 (by decide) rfl (by omega) (fun cq95 => ?_) (fun cq95 => ?_)
                    · refine J_iconst (q := 103) X dX10_text_102 rfl ?_
                      refine J_istore_n (q := 104) X dX10_text_103 (by decide) rfl rfl ?_
                      first
                        | exact jn104 _ (Or.inl ⟨by omega, rfl⟩)
                        | exact jn104 _ (Or.inr ⟨by omega, by omega, rfl⟩)
                    · refine J_iconst (q := 99) X dX10_text_98 rfl ?_
                      refine J_goto (q := 103) X dX10_text_99 (by decide) ?_
                      refine J_istore_n (q := 104) X dX10_text_103 (by decide) rfl rfl ?_
                      first
                        | exact jn104 _ (Or.inl ⟨by omega, rfl⟩)
                        | exact jn104 _ (Or.inr ⟨by omega, by omega, rfl⟩)
                  · refine J_aload_n (q := 78) X dX10_text_77 rfl rfl ?_
                    refine J_get (q := 81) X dX10_text_78 fX10_86 hM (by omega) rfl rfl ?_
                    refine J_if_eq (q := 84) (tgt := 91) X dX10_text_81 (by decide) rfl (by have := hkb (by omega); omega) (fun cq81 => ?_) (fun cq81 => ?_)
                    · refine J_aload_n (q := 92) X dX10_text_91 rfl rfl ?_
                      refine J_get (q := 95) X dX10_text_92 fX10_69 hM (by omega) rfl rfl ?_
                      refine J_if_le (q := 98) (tgt := 102) X dX10_text_95 (by decide) rfl (by omega) (fun cq95 => ?_) (fun cq95 => ?_)
                      · refine J_iconst (q := 103) X dX10_text_102 rfl ?_
                        refine J_istore_n (q := 104) X dX10_text_103 (by decide) rfl rfl ?_
                        first
                          | exact jn104 _ (Or.inl ⟨by omega, rfl⟩)
                          | exact jn104 _ (Or.inr ⟨by omega, by omega, rfl⟩)
                      · refine J_iconst (q := 99) X dX10_text_98 rfl ?_
                        refine J_goto (q := 103) X dX10_text_99 (by decide) ?_
                        refine J_istore_n (q := 104) X dX10_text_103 (by decide) rfl rfl ?_
                        first
                          | exact jn104 _ (Or.inl ⟨by omega, rfl⟩)
                          | exact jn104 _ (Or.inr ⟨by omega, by omega, rfl⟩)
                    · obtain rfl : b = 0 := cq74
                      refine J_aload_n (q := 85) X dX10_text_84 rfl rfl ?_
                      refine J_callV (q := 88) (jrV X mX10_145 dX10_text_85 (c_X10_readLine hM hS hTp hEn hLe hMa htb htq (by omega) hma1) hM (by omega) rfl rfl rfl rfl (Nat.le_of_ble_eq_true rfl) (by decide)) rfl (fun Ew85 hpq85 => ?_)
                      obtain ⟨bq85, baq85, sq85, hq85, kq85, vq85, yq85, qq85, lq85, tq85, mgq85, tiq85, gq85, maq85, kM, kS, kMa, hfrq85, hmaq85, htq85, hsq85⟩ := hpq85
                      replace hM := kM
                      replace hS := kS
                      replace hMa := kMa
                      replace hTp := (hsq85 80 (by omega)).trans hTp
                      replace hRs := (hsq85 81 (by omega)).trans hRs
                      replace hEn := (hsq85 82 (by omega)).trans hEn
                      replace hLe := (hsq85 83 (by omega)).trans hLe
                      replace hPa := (hsq85 85 (by omega)).trans hPa
                      replace hAl := (hsq85 86 (by omega)).trans hAl
                      replace hHe := (hsq85 87 (by omega)).trans hHe
                      replace hUn := (hsq85 88 (by omega)).trans hUn
                      replace hRe := (hsq85 89 (by omega)).trans hRe
                      replace hOt := (hsq85 90 (by omega)).trans hOt
                      replace hIk := (hsq85 91 (by omega)).trans hIk
                      replace hLa := (hsq85 92 (by omega)).trans hLa
                      replace hLn := (hsq85 93 (by omega)).trans hLn
                      replace hCe := (hsq85 94 (by omega)).trans hCe
                      replace hF : ∀ j : Nat, j < 78 → Ew85 j = E0 j := fun j hj => (hsq85 j (by omega)).trans (hF j hj)
                      refine J_goto (q := 70) X dX10_text_88 (by decide) ?_
                      refine J_kill 1 ?_
                      exact ih70 _ _ _ _ _ _ _ _ _ _ _ _ _ _ _ _ htq85 hmaq85 (fun j hj => (hfrq85 j hj).trans (hgf1 j hj)) (by omega) hM hS hTp hRs hEn hLe hMa hPa hAl hHe hUn hRe hOt hIk hLa hLn hCe hF (by omega)
              refine lp70 1000 _ _ _ _ _ _ _ _ _ _ _ _ _ _ _ _ htq67 (fun j a b => Or.inl (by rw [hga, if_pos (by omega)])) (fun j hj => by rw [hgg, if_neg (by omega)]) (by omega) hM hS hTp hRs hEn hLe hMa hPa hAl hHe hUn hRe hOt hIk hLa hLn hCe hF (by omega)
            · refine J_aload_n (q := 54) X dX10_text_53 rfl rfl ?_
              refine J_get (q := 57) X dX10_text_54 fX10_25 hM (by omega) rfl rfl ?_
              refine J_iload_n (q := 58) X dX10_text_57 rfl rfl ?_
              refine J_iconst (q := 59) X dX10_text_58 rfl ?_
              refine J_iast (q := 60) X dX10_text_59 hMa (by omega) (by omega) (by decide) rfl (fun Ew59 hkq59 hsq59 => ?_)
              replace hMa := hkq59
              replace hM := (hsq59 78 (by omega)).trans hM
              replace hS := (hsq59 79 (by omega)).trans hS
              replace hTp := (hsq59 80 (by omega)).trans hTp
              replace hRs := (hsq59 81 (by omega)).trans hRs
              replace hEn := (hsq59 82 (by omega)).trans hEn
              replace hLe := (hsq59 83 (by omega)).trans hLe
              replace hPa := (hsq59 85 (by omega)).trans hPa
              replace hAl := (hsq59 86 (by omega)).trans hAl
              replace hHe := (hsq59 87 (by omega)).trans hHe
              replace hUn := (hsq59 88 (by omega)).trans hUn
              replace hRe := (hsq59 89 (by omega)).trans hRe
              replace hOt := (hsq59 90 (by omega)).trans hOt
              replace hIk := (hsq59 91 (by omega)).trans hIk
              replace hLa := (hsq59 92 (by omega)).trans hLa
              replace hLn := (hsq59 93 (by omega)).trans hLn
              replace hCe := (hsq59 94 (by omega)).trans hCe
              replace hF : ∀ j : Nat, j < 78 → Ew59 j = E0 j := fun j hj => (hsq59 j (by omega)).trans (hF j hj)
              refine J_iinc (q := 63) X dX10_text_60 rfl (by decide) rfl rfl ?_
              refine J_goto (q := 47) X dX10_text_63 (by decide) ?_
              refine ih47 _ _ _ (by omega) (fun j => ?_) hM hS hTp hRs hEn hLe hMa hPa hAl hHe hUn hRe hOt hIk hLa hLn hCe hF (by omega)
              simp only [iu, hga]
              repeat' split
              all_goals first | rfl | (exfalso; omega)
        exact lp47 100 _ _ _ (by omega) (fun j => by rw [if_neg (by omega)]) hM hS hTp hRs hEn hLe hMa hPa hAl hHe hUn hRe hOt hIk hLa hLn hCe hF (by omega)
      · refine J_aload_n (q := 29) X dX10_text_28 rfl rfl ?_
        refine J_get (q := 32) X dX10_text_29 fX10_7 hM (by omega) rfl rfl ?_
        refine J_sipush (q := 35) X dX10_text_32 rfl (by decide) ?_
        refine J_iload_n (q := 36) X dX10_text_35 rfl rfl ?_
        refine J_iadd (q := 37) X dX10_text_36 rfl ?_
        refine J_iconst (q := 38) X dX10_text_37 rfl ?_
        refine J_iast (q := 39) X dX10_text_38 hS (by omega) (by omega) (by decide) rfl (fun Ew38 hkq38 hsq38 => ?_)
        replace hS := hkq38
        replace hM := (hsq38 78 (by omega)).trans hM
        replace hTp := (hsq38 80 (by omega)).trans hTp
        replace hRs := (hsq38 81 (by omega)).trans hRs
        replace hEn := (hsq38 82 (by omega)).trans hEn
        replace hLe := (hsq38 83 (by omega)).trans hLe
        replace hMa := (hsq38 84 (by omega)).trans hMa
        replace hPa := (hsq38 85 (by omega)).trans hPa
        replace hAl := (hsq38 86 (by omega)).trans hAl
        replace hHe := (hsq38 87 (by omega)).trans hHe
        replace hUn := (hsq38 88 (by omega)).trans hUn
        replace hRe := (hsq38 89 (by omega)).trans hRe
        replace hOt := (hsq38 90 (by omega)).trans hOt
        replace hIk := (hsq38 91 (by omega)).trans hIk
        replace hLa := (hsq38 92 (by omega)).trans hLa
        replace hLn := (hsq38 93 (by omega)).trans hLn
        replace hCe := (hsq38 94 (by omega)).trans hCe
        replace hF : ∀ j : Nat, j < 78 → Ew38 j = E0 j := fun j hj => (hsq38 j (by omega)).trans (hF j hj)
        refine J_iinc (q := 42) X dX10_text_39 rfl (by decide) rfl rfl ?_
        refine J_goto (q := 22) X dX10_text_42 (by decide) ?_
        refine ih22 _ _ _ (by omega) (fun j => ?_) hM hS hTp hRs hEn hLe hMa hPa hAl hHe hUn hRe hOt hIk hLa hLn hCe hF (by omega)
        simp only [iu, hgg]
        repeat' split
        all_goals first | rfl | (exfalso; omega)
  exact lp22 100 _ _ _ (by omega) (fun j => by rw [if_neg (by omega)]) hM hS hTp hRs hEn hLe hMa hPa hAl hHe hUn hRe hOt hIk hLa hLn hCe hF (by omega)
