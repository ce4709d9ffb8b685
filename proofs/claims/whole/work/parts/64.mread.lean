set_option maxRecDepth 100000 in
set_option maxHeartbeats 4000000 in
theorem c_X10_read {l : Launch} {Γ : JG} {ad : Nat → Nat} {E : Nat → va_E} {s : KS} {k w st m : Int} (hc : MI Γ ad E s) (hk : KV s) (hbk : -2147483648 ≤ k ∧ k < 2147483648) (hbw : -2147483648 ≤ w ∧ w < 2147483648) (hbst : -2147483648 ≤ st ∧ st < 2147483648) (hbm : -2147483648 ≤ m ∧ m < 2147483648) : JM l Γ yX10_read cX10_read 10 (some .int) 3 64 0 0 ad 95 E [.ref (ad 78), .int (jI k), .int (jI w), .int (jI st), .int (jI m)] (pI (fun z E' => z = (qRead s k w st m).1 ∧ MI Γ ad E' (qRead s k w st m).2 ∧ ∀ j : Nat, j < 78 → E' j = E j)) := by
  refine JM_intro (own := RX10) [some (.ref (ad 78)), some (.int (jI k)), some (.int (jI w)), some (.int (jI st)), some (.int (jI m)), none, none, none, none, none] rfl rfl rfl (Nat.le_of_ble_eq_true rfl) ?_
  intro Ω X R hin
  obtain ⟨E0, hE0⟩ : ∃ E0 : Nat → va_E, E0 = E := ⟨_, rfl⟩
  have hF : ∀ j : Nat, j < 78 → E j = E0 j := fun _ _ => by rw [hE0]
  obtain ⟨m2, m3, m4, m5, m6, m7, m8, m9, m10, m11, g, rs, ma, pa, al, he, un, re, ot, ln, lg, ce, hM, hS, hTp, hRs, hEn, hLe, hMa, hPa, hAl, hHe, hUn, hRe, hOt, hIk, hLa, hLn, hCe, hMR⟩ := id hc
  obtain ⟨hg, him, hrs, hun, hre, hsh⟩ := id hMR
  obtain ⟨hk0, hnow⟩ := id hk
  have hv := hk0.hv
  obtain ⟨hn, hvr⟩ := id hv
  obtain ⟨hgn, hgf⟩ := id hg
  have ho := hk0.ho
  have htb := hk0.htb
  obtain ⟨htl, -⟩ := id htb
  have hb := hk0.hb
  refine J_iload_n (q := 1) X dX10_read_0 rfl rfl ?_
  refine J_i2l (q := 2) X dX10_read_1 rfl (by omega) ?_
  refine J_lconst (q := 3) (v := 0) X dX10_read_2 (by decide) rfl ?_
  refine J_ldc2 (q := 6) X dX10_read_3 kX10_228 rfl ?_
  refine J_callP (q := 9) (jrS X mX10_61 dX10_read_6 (c_X10_in (by omega) (by omega) (by omega)) rfl rfl (Nat.le_of_ble_eq_true rfl) (by decide)) rfl ?_
  refine J_if_eqB (q := 12) (tgt := 37) X dX10_read_9 (by decide) rfl (fun cq9 => ?_) (fun cq9 => ?_)
  · refine J_iconst (q := 38) X dX10_read_37 rfl ?_
    refine J_iret X R dX10_read_38 ?_
    rw [hE0] at hF
    have hq : qRead s k w st m = (-1, s) := (by unfold qRead; rw [if_pos (fun z => by obtain ⟨z1, z2, z3⟩ := z; omega)])
    rw [hq]
    exact ⟨_, rfl, rfl, ⟨_, _, _, _, _, _, _, _, _, _, _, _, _, _, _, _, _, _, _, _, _, _, hM, hS, hTp, hRs, hEn, hLe, hMa, hPa, hAl, hHe, hUn, hRe, hOt, hIk, hLa, hLn, hCe, hMR⟩, hF⟩
  · refine J_iload_n (q := 13) X dX10_read_12 rfl rfl ?_
    refine J_i2l (q := 14) X dX10_read_13 rfl (by omega) ?_
    refine J_lconst (q := 15) (v := 0) X dX10_read_14 (by decide) rfl ?_
    refine J_ldc2 (q := 18) X dX10_read_15 kX10_168 rfl ?_
    refine J_callP (q := 21) (jrS X mX10_61 dX10_read_18 (c_X10_in (by omega) (by omega) (by omega)) rfl rfl (Nat.le_of_ble_eq_true rfl) (by decide)) rfl ?_
    refine J_if_eqB (q := 24) (tgt := 37) X dX10_read_21 (by decide) rfl (fun cq21 => ?_) (fun cq21 => ?_)
    · refine J_iconst (q := 38) X dX10_read_37 rfl ?_
      refine J_iret X R dX10_read_38 ?_
      rw [hE0] at hF
      have hq : qRead s k w st m = (-1, s) := (by unfold qRead; rw [if_pos (fun z => by obtain ⟨z1, z2, z3⟩ := z; omega)])
      rw [hq]
      exact ⟨_, rfl, rfl, ⟨_, _, _, _, _, _, _, _, _, _, _, _, _, _, _, _, _, _, _, _, _, _, hM, hS, hTp, hRs, hEn, hLe, hMa, hPa, hAl, hHe, hUn, hRe, hOt, hIk, hLa, hLn, hCe, hMR⟩, hF⟩
    · refine J_iload (q := 26) X dX10_read_24 rfl rfl ?_
      refine J_i2l (q := 27) X dX10_read_26 rfl (by omega) ?_
      refine J_lconst (q := 28) (v := 0) X dX10_read_27 (by decide) rfl ?_
      refine J_ldc2 (q := 31) X dX10_read_28 kX10_270 rfl ?_
      refine J_callP (q := 34) (jrS X mX10_61 dX10_read_31 (c_X10_in (by omega) (by omega) (by omega)) rfl rfl (Nat.le_of_ble_eq_true rfl) (by decide)) rfl ?_
      refine J_if_neB (q := 37) (tgt := 39) X dX10_read_34 (by decide) rfl (fun cq34 => ?_) (fun cq34 => ?_)
      · have hsk := hsh k (by omega) (by omega)
        have hss := hk0.hs k.toNat (by omega)
        have hlb : -4 ≤ ln k ∧ ln k ≤ 2 := by
          by_cases h0 : s.th k.toNat = 0
          · have := hsk.1 h0; omega
          · have := (hsk.2 h0).1; have := hss.2.1; omega
        refine J_aload_n (q := 40) X dX10_read_39 rfl rfl ?_
        refine J_iconst (q := 41) X dX10_read_40 rfl ?_
        refine J_sipush (q := 44) X dX10_read_41 rfl (by decide) ?_
        refine J_callV (q := 47) (jrV X mX10_155 dX10_read_44 (c_X10_copies hM hS (by omega)) hM (by omega) rfl rfl rfl rfl (Nat.le_of_ble_eq_true rfl) (by decide)) rfl (fun Ew44 hpq44 => ?_)
        obtain ⟨kS, hsq44⟩ := hpq44
        replace hS := kS
        replace hM := (hsq44 78 (by omega)).trans hM
        replace hTp := (hsq44 80 (by omega)).trans hTp
        replace hRs := (hsq44 81 (by omega)).trans hRs
        replace hEn := (hsq44 82 (by omega)).trans hEn
        replace hLe := (hsq44 83 (by omega)).trans hLe
        replace hMa := (hsq44 84 (by omega)).trans hMa
        replace hPa := (hsq44 85 (by omega)).trans hPa
        replace hAl := (hsq44 86 (by omega)).trans hAl
        replace hHe := (hsq44 87 (by omega)).trans hHe
        replace hUn := (hsq44 88 (by omega)).trans hUn
        replace hRe := (hsq44 89 (by omega)).trans hRe
        replace hOt := (hsq44 90 (by omega)).trans hOt
        replace hIk := (hsq44 91 (by omega)).trans hIk
        replace hLa := (hsq44 92 (by omega)).trans hLa
        replace hLn := (hsq44 93 (by omega)).trans hLn
        replace hCe := (hsq44 94 (by omega)).trans hCe
        replace hF : ∀ j : Nat, j < 78 → Ew44 j = E0 j := fun j hj => (hsq44 j (by omega)).trans (hF j hj)
        refine J_iconst (q := 48) X dX10_read_47 rfl ?_
        refine J_istore (q := 50) X dX10_read_48 (by decide) rfl rfl ?_
        refine J_iconst (q := 51) X dX10_read_50 rfl ?_
        refine J_istore (q := 53) X dX10_read_51 (by decide) rfl rfl ?_
        have lp53 : ∀ (mm : Nat) (c fd : Int) (gg : Int → Int) (E : Nat → va_E) (hcc : 0 ≤ c ∧ c ≤ m) (hsc : sc (fun c => rdP s k w st c) m c = rdC s k w st m) (hfd : fd = 0 ∨ (fd ≠ 0 ∧ c < m ∧ fd = faN s k w (st + c))) (hfb : 0 ≤ fd ∧ fd ≤ 3) (hfc : c = 0 ∨ (0 ≤ st ∧ st + c ≤ 40 ∧ c ≤ 60 - s.n)) (hgg : ∀ j : Int, gg j = (if 244 ≤ j ∧ j < 305 then g (j - 244) else if j = 60 then s.n + c else if s.n ≤ j ∧ j < s.n + c then s.sf k.toNat (st + (j - s.n)) else g j)) (hM : E 78 = .inr (9, [.ref (ad 79), .ref (ad 80), .int (jI s.tl), .int (jI s.b0), .int (jI m2), .int (jI m3), .int (jI m4), .int (jI m5), .int (jI m6), .int (jI m7), .int (jI m8), .int (jI m9), .int (jI m10), .int (jI m11), .ref (ad 81), .ref (ad 82), .ref (ad 83), .ref (ad 84), .ref (ad 85), .ref (ad 86), .ref (ad 87), .ref (ad 88), .ref (ad 89), .int (jI s.p), .int (jI s.a), .ref (ad 90), .ref (ad 91), .ref (ad 92), .ref (ad 93), .ref (ad 94), .int (jI s.tor)])) (hS : E 79 = aI Γ 305 gg) (hTp : E 80 = aI Γ 160 s.tb) (hRs : E 81 = aI Γ 3 rs) (hEn : E 82 = aI Γ 4 enF) (hLe : E 83 = aI Γ 10 leF) (hMa : E 84 = aI Γ 60 ma) (hPa : E 85 = aI Γ 60 pa) (hAl : E 86 = aI Γ 60 al) (hHe : E 87 = aI Γ 60 he) (hUn : E 88 = aI Γ 1220 un) (hRe : E 89 = aI Γ 1220 re) (hOt : E 90 = aI Γ 120 ot) (hIk : E 91 = aZ Γ 2 s.kp) (hLa : E 92 = aI Γ 4 ln) (hLn : E 93 = aI Γ 4 lg) (hCe : E 94 = aI Γ 160 ce) (hF : ∀ j : Nat, j < 78 → E j = E0 j) (hm : 2 * (m - c) + (if fd = 0 then 1 else 0) + 1 ≤ (mm : Int)), J l Γ Ω 10 ad 95 0 0 E 53 [some (.ref (ad 78)), some (.int (jI k)), some (.int (jI w)), some (.int (jI st)), some (.int (jI m)), some (.int (jI fd)), some (.int (jI c)), none, none, none] [] := by
          intro mm
          induction mm with
          | zero => intro c fd gg E hcc hsc hfd hfb hfc hgg hM hS hTp hRs hEn hLe hMa hPa hAl hHe hUn hRe hOt hIk hLa hLn hCe hF hm; exfalso; omega
          | succ mm ih53 =>
            intro c fd gg E hcc hsc hfd hfb hfc hgg hM hS hTp hRs hEn hLe hMa hPa hAl hHe hUn hRe hOt hIk hLa hLn hCe hF hm
            have hg60 : gg 60 = s.n + c := by rw [hgg, if_neg (by omega), if_pos rfl]
            refine J_iload (q := 55) X dX10_read_53 rfl rfl ?_
            refine J_iload (q := 57) X dX10_read_55 rfl rfl ?_
            refine J_icmp_ge (q := 60) (tgt := 194) X dX10_read_57 (by decide) rfl (by omega) (by omega) (fun cq57 => ?_) (fun cq57 => ?_)
            · refine J_aload_n (q := 195) X dX10_read_194 rfl rfl ?_
              refine J_iconst (q := 196) X dX10_read_195 rfl ?_
              refine J_sipush (q := 199) X dX10_read_196 rfl (by decide) ?_
              refine J_callV (q := 202) (jrV X mX10_155 dX10_read_199 (c_X10_copies hM hS (by omega)) hM (by omega) rfl rfl rfl rfl (Nat.le_of_ble_eq_true rfl) (by decide)) rfl (fun Ew199 hpq199 => ?_)
              obtain ⟨kS, hsq199⟩ := hpq199
              replace hS := kS
              replace hM := (hsq199 78 (by omega)).trans hM
              replace hTp := (hsq199 80 (by omega)).trans hTp
              replace hRs := (hsq199 81 (by omega)).trans hRs
              replace hEn := (hsq199 82 (by omega)).trans hEn
              replace hLe := (hsq199 83 (by omega)).trans hLe
              replace hMa := (hsq199 84 (by omega)).trans hMa
              replace hPa := (hsq199 85 (by omega)).trans hPa
              replace hAl := (hsq199 86 (by omega)).trans hAl
              replace hHe := (hsq199 87 (by omega)).trans hHe
              replace hUn := (hsq199 88 (by omega)).trans hUn
              replace hRe := (hsq199 89 (by omega)).trans hRe
              replace hOt := (hsq199 90 (by omega)).trans hOt
              replace hIk := (hsq199 91 (by omega)).trans hIk
              replace hLa := (hsq199 92 (by omega)).trans hLa
              replace hLn := (hsq199 93 (by omega)).trans hLn
              replace hCe := (hsq199 94 (by omega)).trans hCe
              replace hF : ∀ j : Nat, j < 78 → Ew199 j = E0 j := fun j hj => (hsq199 j (by omega)).trans (hF j hj)
              refine J_aload_n (q := 203) X dX10_read_202 rfl rfl ?_
              refine J_sipush (q := 206) X dX10_read_203 rfl (by decide) ?_
              refine J_iconst (q := 207) X dX10_read_206 rfl ?_
              refine J_callV (q := 210) (jrV X mX10_155 dX10_read_207 (c_X10_copies hM hS (by omega)) hM (by omega) rfl rfl rfl rfl (Nat.le_of_ble_eq_true rfl) (by decide)) rfl (fun Ew207 hpq207 => ?_)
              obtain ⟨kS, hsq207⟩ := hpq207
              replace hS := kS
              replace hM := (hsq207 78 (by omega)).trans hM
              replace hTp := (hsq207 80 (by omega)).trans hTp
              replace hRs := (hsq207 81 (by omega)).trans hRs
              replace hEn := (hsq207 82 (by omega)).trans hEn
              replace hLe := (hsq207 83 (by omega)).trans hLe
              replace hMa := (hsq207 84 (by omega)).trans hMa
              replace hPa := (hsq207 85 (by omega)).trans hPa
              replace hAl := (hsq207 86 (by omega)).trans hAl
              replace hHe := (hsq207 87 (by omega)).trans hHe
              replace hUn := (hsq207 88 (by omega)).trans hUn
              replace hRe := (hsq207 89 (by omega)).trans hRe
              replace hOt := (hsq207 90 (by omega)).trans hOt
              replace hIk := (hsq207 91 (by omega)).trans hIk
              replace hLa := (hsq207 92 (by omega)).trans hLa
              replace hLn := (hsq207 93 (by omega)).trans hLn
              replace hCe := (hsq207 94 (by omega)).trans hCe
              replace hF : ∀ j : Nat, j < 78 → Ew207 j = E0 j := fun j hj => (hsq207 j (by omega)).trans (hF j hj)
              refine J_aload_n (q := 211) X dX10_read_210 rfl rfl ?_
              refine J_callV (q := 214) (jrV X mX10_240 dX10_read_211 (c_X10_edits hM hS hUn (by omega)) hM (by omega) rfl rfl rfl rfl (Nat.le_of_ble_eq_true rfl) (by decide)) rfl (fun Ew211 hpq211 => ?_)
              obtain ⟨unq211, kM, kUn, huaq211, hubq211, hsq211⟩ := hpq211
              replace hM := kM
              replace hUn := kUn
              have ep : (if s.p = 20 then (20 : Int) else s.p + 1) = (if s.p < 20 then s.p + 1 else s.p) := by split <;> split <;> omega
              rw [ep] at hM
              replace hS := (hsq211 79 (by omega)).trans hS
              replace hTp := (hsq211 80 (by omega)).trans hTp
              replace hRs := (hsq211 81 (by omega)).trans hRs
              replace hEn := (hsq211 82 (by omega)).trans hEn
              replace hLe := (hsq211 83 (by omega)).trans hLe
              replace hMa := (hsq211 84 (by omega)).trans hMa
              replace hPa := (hsq211 85 (by omega)).trans hPa
              replace hAl := (hsq211 86 (by omega)).trans hAl
              replace hHe := (hsq211 87 (by omega)).trans hHe
              replace hRe := (hsq211 89 (by omega)).trans hRe
              replace hOt := (hsq211 90 (by omega)).trans hOt
              replace hIk := (hsq211 91 (by omega)).trans hIk
              replace hLa := (hsq211 92 (by omega)).trans hLa
              replace hLn := (hsq211 93 (by omega)).trans hLn
              replace hCe := (hsq211 94 (by omega)).trans hCe
              replace hF : ∀ j : Nat, j < 78 → Ew211 j = E0 j := fun j hj => (hsq211 j (by omega)).trans (hF j hj)
              refine J_aload_n (q := 215) X dX10_read_214 rfl rfl ?_
              refine J_sipush (q := 218) X dX10_read_215 rfl (by decide) ?_
              refine J_iconst (q := 219) X dX10_read_218 rfl ?_
              refine J_callV (q := 222) (jrV X mX10_155 dX10_read_219 (c_X10_copies hM hS (by omega)) hM (by omega) rfl rfl rfl rfl (Nat.le_of_ble_eq_true rfl) (by decide)) rfl (fun Ew219 hpq219 => ?_)
              obtain ⟨kS, hsq219⟩ := hpq219
              replace hS := kS
              replace hM := (hsq219 78 (by omega)).trans hM
              replace hTp := (hsq219 80 (by omega)).trans hTp
              replace hRs := (hsq219 81 (by omega)).trans hRs
              replace hEn := (hsq219 82 (by omega)).trans hEn
              replace hLe := (hsq219 83 (by omega)).trans hLe
              replace hMa := (hsq219 84 (by omega)).trans hMa
              replace hPa := (hsq219 85 (by omega)).trans hPa
              replace hAl := (hsq219 86 (by omega)).trans hAl
              replace hHe := (hsq219 87 (by omega)).trans hHe
              replace hUn := (hsq219 88 (by omega)).trans hUn
              replace hRe := (hsq219 89 (by omega)).trans hRe
              replace hOt := (hsq219 90 (by omega)).trans hOt
              replace hIk := (hsq219 91 (by omega)).trans hIk
              replace hLa := (hsq219 92 (by omega)).trans hLa
              replace hLn := (hsq219 93 (by omega)).trans hLn
              replace hCe := (hsq219 94 (by omega)).trans hCe
              replace hF : ∀ j : Nat, j < 78 → Ew219 j = E0 j := fun j hj => (hsq219 j (by omega)).trans (hF j hj)
              refine J_aload_n (q := 223) X dX10_read_222 rfl rfl ?_
              refine J_iload (q := 225) X dX10_read_223 rfl rfl ?_
              refine J_put (q := 228) (ty := .int) X dX10_read_225 fX10_272 rfl (by decide +kernel) rfl rfl hM (by omega) (Nat.le_of_ble_eq_true rfl) rfl (fun Ew225 hkq225 hsq225 => ?_)
              replace hM : Ew225 78 = .inr (9, [.ref (ad 79), .ref (ad 80), .int (jI _), .int (jI _), .int (jI _), .int (jI _), .int (jI _), .int (jI _), .int (jI _), .int (jI _), .int (jI _), .int (jI _), .int (jI _), .int (jI _), .ref (ad 81), .ref (ad 82), .ref (ad 83), .ref (ad 84), .ref (ad 85), .ref (ad 86), .ref (ad 87), .ref (ad 88), .ref (ad 89), .int (jI _), .int (jI _), .ref (ad 90), .ref (ad 91), .ref (ad 92), .ref (ad 93), .ref (ad 94), .int (jI _)]) := hkq225
              replace hS := (hsq225 79 (by omega)).trans hS
              replace hTp := (hsq225 80 (by omega)).trans hTp
              replace hRs := (hsq225 81 (by omega)).trans hRs
              replace hEn := (hsq225 82 (by omega)).trans hEn
              replace hLe := (hsq225 83 (by omega)).trans hLe
              replace hMa := (hsq225 84 (by omega)).trans hMa
              replace hPa := (hsq225 85 (by omega)).trans hPa
              replace hAl := (hsq225 86 (by omega)).trans hAl
              replace hHe := (hsq225 87 (by omega)).trans hHe
              replace hUn := (hsq225 88 (by omega)).trans hUn
              replace hRe := (hsq225 89 (by omega)).trans hRe
              replace hOt := (hsq225 90 (by omega)).trans hOt
              replace hIk := (hsq225 91 (by omega)).trans hIk
              replace hLa := (hsq225 92 (by omega)).trans hLa
              replace hLn := (hsq225 93 (by omega)).trans hLn
              replace hCe := (hsq225 94 (by omega)).trans hCe
              replace hF : ∀ j : Nat, j < 78 → Ew225 j = E0 j := fun j hj => (hsq225 j (by omega)).trans (hF j hj)
              refine J_iload (q := 230) X dX10_read_228 rfl rfl ?_
              refine J_iret X R dX10_read_230 ?_
              rw [hE0] at hF
              have hmsR : ∀ G : Int → Int, (∀ j, 0 ≤ j → j < 61 → G j = g j) → (∀ j, 61 ≤ j → j < 183 → G j = g j) → MR s G rs un re ln lg ce := fun G e1 e2 => ⟨⟨(e1 60 (by omega) (by omega)).trans hgn, fun j a b => (e1 j a (by omega)).trans (hgf j a b)⟩, IRs_same hk him e2, hrs, hun, hre, hsh⟩
              have hrc : rdC s k w st m = c ∧ fd = (if c < m then faN s k w (st + c) else 0) := by
                rcases hfd with z | z
                · have hcm : c = m := by omega
                  rw [sc_stop (P := (fun c => rdP s k w st c)) (by omega)] at hsc
                  exact ⟨hsc.symm, by rw [if_neg (by omega)]; exact z⟩
                · rw [sc_stop (P := (fun c => rdP s k w st c)) (fun y => by have y1 := y.2.1; omega)] at hsc
                  exact ⟨hsc.symm, by rw [if_pos (by omega)]; exact z.2.2⟩
              obtain ⟨hr1, hr2⟩ := hrc
              have hnf : ¬ (c < m ∧ faN s k w (st + c) = 0) := fun z => by rw [if_pos z.1] at hr2; omega
              have hmr : MR s (coF (coF gg 0 183 61) 244 0 61) rs un re ln lg ce := by
                refine hmsR _ (fun j a b => ?_) (fun j a b => ?_)
                · simp only [coF, hgg]
                  repeat' split
                  all_goals first | rfl | (exfalso; omega) | (congr 1; omega)
                · simp only [coF, hgg]
                  repeat' split
                  all_goals first | rfl | (exfalso; omega) | (congr 1; omega)
              have hms : MS (coF (coF (coF gg 0 183 61) 244 0 61) 183 0 61) (s.n + c) (rdF s k st c) := by
                refine ⟨?_, fun j a b => ?_⟩
                · simp only [coF, hgg]
                  repeat' split
                  all_goals first | rfl | (exfalso; omega) | (congr 1; omega)
                · simp only [coF, hgg, rdF]
                  repeat' split
                  all_goals first | rfl | (exfalso; omega) | (congr 1; omega) | exact hgf _ (by omega) (by omega) | (rw [hgf _ (by omega) (by omega)]; congr 1; omega)
              have hgi : ∀ j, 61 ≤ j → j < 183 → (coF (coF (coF gg 0 183 61) 244 0 61) 183 0 61) j = (coF (coF gg 0 183 61) 244 0 61) j := fun j a b => if_neg (by omega)
              have hq : qRead s k w st m = (c, ((s.row (s.n + c) (rdF s k st c)).torn fd).ed) := (by unfold qRead; rw [if_neg (fun z => z ⟨by omega, by omega, by omega, by omega⟩), hr1, if_neg hnf, ← hr2])
              rw [hq]
              have hme : MR ((s.row (s.n + c) (rdF s k st c)).torn fd).ed (coF (coF (coF gg 0 183 61) 244 0 61) 183 0 61) rs unq211 re ln lg ce := MR_ed hk hmr huaq211 hubq211 hms hgi
              exact ⟨_, rfl, rfl, ⟨_, _, _, _, _, _, _, _, _, _, _, _, _, _, _, _, _, _, _, _, _, _, hM, hS, hTp, hRs, hEn, hLe, hMa, hPa, hAl, hHe, hUn, hRe, hOt, hIk, hLa, hLn, hCe, hme⟩, hF⟩
            · refine J_iload (q := 62) X dX10_read_60 rfl rfl ?_
              refine J_if_ne (q := 65) (tgt := 194) X dX10_read_62 (by decide) rfl (by omega) (fun cq62 => ?_) (fun cq62 => ?_)
              · refine J_aload_n (q := 195) X dX10_read_194 rfl rfl ?_
                refine J_iconst (q := 196) X dX10_read_195 rfl ?_
                refine J_sipush (q := 199) X dX10_read_196 rfl (by decide) ?_
                refine J_callV (q := 202) (jrV X mX10_155 dX10_read_199 (c_X10_copies hM hS (by omega)) hM (by omega) rfl rfl rfl rfl (Nat.le_of_ble_eq_true rfl) (by decide)) rfl (fun Ew199 hpq199 => ?_)
                obtain ⟨kS, hsq199⟩ := hpq199
                replace hS := kS
                replace hM := (hsq199 78 (by omega)).trans hM
                replace hTp := (hsq199 80 (by omega)).trans hTp
                replace hRs := (hsq199 81 (by omega)).trans hRs
                replace hEn := (hsq199 82 (by omega)).trans hEn
                replace hLe := (hsq199 83 (by omega)).trans hLe
                replace hMa := (hsq199 84 (by omega)).trans hMa
                replace hPa := (hsq199 85 (by omega)).trans hPa
                replace hAl := (hsq199 86 (by omega)).trans hAl
                replace hHe := (hsq199 87 (by omega)).trans hHe
                replace hUn := (hsq199 88 (by omega)).trans hUn
                replace hRe := (hsq199 89 (by omega)).trans hRe
                replace hOt := (hsq199 90 (by omega)).trans hOt
                replace hIk := (hsq199 91 (by omega)).trans hIk
                replace hLa := (hsq199 92 (by omega)).trans hLa
                replace hLn := (hsq199 93 (by omega)).trans hLn
                replace hCe := (hsq199 94 (by omega)).trans hCe
                replace hF : ∀ j : Nat, j < 78 → Ew199 j = E0 j := fun j hj => (hsq199 j (by omega)).trans (hF j hj)
                refine J_aload_n (q := 203) X dX10_read_202 rfl rfl ?_
                refine J_sipush (q := 206) X dX10_read_203 rfl (by decide) ?_
                refine J_iconst (q := 207) X dX10_read_206 rfl ?_
                refine J_callV (q := 210) (jrV X mX10_155 dX10_read_207 (c_X10_copies hM hS (by omega)) hM (by omega) rfl rfl rfl rfl (Nat.le_of_ble_eq_true rfl) (by decide)) rfl (fun Ew207 hpq207 => ?_)
                obtain ⟨kS, hsq207⟩ := hpq207
                replace hS := kS
                replace hM := (hsq207 78 (by omega)).trans hM
                replace hTp := (hsq207 80 (by omega)).trans hTp
                replace hRs := (hsq207 81 (by omega)).trans hRs
                replace hEn := (hsq207 82 (by omega)).trans hEn
                replace hLe := (hsq207 83 (by omega)).trans hLe
                replace hMa := (hsq207 84 (by omega)).trans hMa
                replace hPa := (hsq207 85 (by omega)).trans hPa
                replace hAl := (hsq207 86 (by omega)).trans hAl
                replace hHe := (hsq207 87 (by omega)).trans hHe
                replace hUn := (hsq207 88 (by omega)).trans hUn
                replace hRe := (hsq207 89 (by omega)).trans hRe
                replace hOt := (hsq207 90 (by omega)).trans hOt
                replace hIk := (hsq207 91 (by omega)).trans hIk
                replace hLa := (hsq207 92 (by omega)).trans hLa
                replace hLn := (hsq207 93 (by omega)).trans hLn
                replace hCe := (hsq207 94 (by omega)).trans hCe
                replace hF : ∀ j : Nat, j < 78 → Ew207 j = E0 j := fun j hj => (hsq207 j (by omega)).trans (hF j hj)
                refine J_aload_n (q := 211) X dX10_read_210 rfl rfl ?_
                refine J_callV (q := 214) (jrV X mX10_240 dX10_read_211 (c_X10_edits hM hS hUn (by omega)) hM (by omega) rfl rfl rfl rfl (Nat.le_of_ble_eq_true rfl) (by decide)) rfl (fun Ew211 hpq211 => ?_)
                obtain ⟨unq211, kM, kUn, huaq211, hubq211, hsq211⟩ := hpq211
                replace hM := kM
                replace hUn := kUn
                have ep : (if s.p = 20 then (20 : Int) else s.p + 1) = (if s.p < 20 then s.p + 1 else s.p) := by split <;> split <;> omega
                rw [ep] at hM
                replace hS := (hsq211 79 (by omega)).trans hS
                replace hTp := (hsq211 80 (by omega)).trans hTp
                replace hRs := (hsq211 81 (by omega)).trans hRs
                replace hEn := (hsq211 82 (by omega)).trans hEn
                replace hLe := (hsq211 83 (by omega)).trans hLe
                replace hMa := (hsq211 84 (by omega)).trans hMa
                replace hPa := (hsq211 85 (by omega)).trans hPa
                replace hAl := (hsq211 86 (by omega)).trans hAl
                replace hHe := (hsq211 87 (by omega)).trans hHe
                replace hRe := (hsq211 89 (by omega)).trans hRe
                replace hOt := (hsq211 90 (by omega)).trans hOt
                replace hIk := (hsq211 91 (by omega)).trans hIk
                replace hLa := (hsq211 92 (by omega)).trans hLa
                replace hLn := (hsq211 93 (by omega)).trans hLn
                replace hCe := (hsq211 94 (by omega)).trans hCe
                replace hF : ∀ j : Nat, j < 78 → Ew211 j = E0 j := fun j hj => (hsq211 j (by omega)).trans (hF j hj)
                refine J_aload_n (q := 215) X dX10_read_214 rfl rfl ?_
                refine J_sipush (q := 218) X dX10_read_215 rfl (by decide) ?_
                refine J_iconst (q := 219) X dX10_read_218 rfl ?_
                refine J_callV (q := 222) (jrV X mX10_155 dX10_read_219 (c_X10_copies hM hS (by omega)) hM (by omega) rfl rfl rfl rfl (Nat.le_of_ble_eq_true rfl) (by decide)) rfl (fun Ew219 hpq219 => ?_)
                obtain ⟨kS, hsq219⟩ := hpq219
                replace hS := kS
                replace hM := (hsq219 78 (by omega)).trans hM
                replace hTp := (hsq219 80 (by omega)).trans hTp
                replace hRs := (hsq219 81 (by omega)).trans hRs
                replace hEn := (hsq219 82 (by omega)).trans hEn
                replace hLe := (hsq219 83 (by omega)).trans hLe
                replace hMa := (hsq219 84 (by omega)).trans hMa
                replace hPa := (hsq219 85 (by omega)).trans hPa
                replace hAl := (hsq219 86 (by omega)).trans hAl
                replace hHe := (hsq219 87 (by omega)).trans hHe
                replace hUn := (hsq219 88 (by omega)).trans hUn
                replace hRe := (hsq219 89 (by omega)).trans hRe
                replace hOt := (hsq219 90 (by omega)).trans hOt
                replace hIk := (hsq219 91 (by omega)).trans hIk
                replace hLa := (hsq219 92 (by omega)).trans hLa
                replace hLn := (hsq219 93 (by omega)).trans hLn
                replace hCe := (hsq219 94 (by omega)).trans hCe
                replace hF : ∀ j : Nat, j < 78 → Ew219 j = E0 j := fun j hj => (hsq219 j (by omega)).trans (hF j hj)
                refine J_aload_n (q := 223) X dX10_read_222 rfl rfl ?_
                refine J_iload (q := 225) X dX10_read_223 rfl rfl ?_
                refine J_put (q := 228) (ty := .int) X dX10_read_225 fX10_272 rfl (by decide +kernel) rfl rfl hM (by omega) (Nat.le_of_ble_eq_true rfl) rfl (fun Ew225 hkq225 hsq225 => ?_)
                replace hM : Ew225 78 = .inr (9, [.ref (ad 79), .ref (ad 80), .int (jI _), .int (jI _), .int (jI _), .int (jI _), .int (jI _), .int (jI _), .int (jI _), .int (jI _), .int (jI _), .int (jI _), .int (jI _), .int (jI _), .ref (ad 81), .ref (ad 82), .ref (ad 83), .ref (ad 84), .ref (ad 85), .ref (ad 86), .ref (ad 87), .ref (ad 88), .ref (ad 89), .int (jI _), .int (jI _), .ref (ad 90), .ref (ad 91), .ref (ad 92), .ref (ad 93), .ref (ad 94), .int (jI _)]) := hkq225
                replace hS := (hsq225 79 (by omega)).trans hS
                replace hTp := (hsq225 80 (by omega)).trans hTp
                replace hRs := (hsq225 81 (by omega)).trans hRs
                replace hEn := (hsq225 82 (by omega)).trans hEn
                replace hLe := (hsq225 83 (by omega)).trans hLe
                replace hMa := (hsq225 84 (by omega)).trans hMa
                replace hPa := (hsq225 85 (by omega)).trans hPa
                replace hAl := (hsq225 86 (by omega)).trans hAl
                replace hHe := (hsq225 87 (by omega)).trans hHe
                replace hUn := (hsq225 88 (by omega)).trans hUn
                replace hRe := (hsq225 89 (by omega)).trans hRe
                replace hOt := (hsq225 90 (by omega)).trans hOt
                replace hIk := (hsq225 91 (by omega)).trans hIk
                replace hLa := (hsq225 92 (by omega)).trans hLa
                replace hLn := (hsq225 93 (by omega)).trans hLn
                replace hCe := (hsq225 94 (by omega)).trans hCe
                replace hF : ∀ j : Nat, j < 78 → Ew225 j = E0 j := fun j hj => (hsq225 j (by omega)).trans (hF j hj)
                refine J_iload (q := 230) X dX10_read_228 rfl rfl ?_
                refine J_iret X R dX10_read_230 ?_
                rw [hE0] at hF
                have hmsR : ∀ G : Int → Int, (∀ j, 0 ≤ j → j < 61 → G j = g j) → (∀ j, 61 ≤ j → j < 183 → G j = g j) → MR s G rs un re ln lg ce := fun G e1 e2 => ⟨⟨(e1 60 (by omega) (by omega)).trans hgn, fun j a b => (e1 j a (by omega)).trans (hgf j a b)⟩, IRs_same hk him e2, hrs, hun, hre, hsh⟩
                have hrc : rdC s k w st m = c ∧ fd = (if c < m then faN s k w (st + c) else 0) := by
                  rcases hfd with z | z
                  · have hcm : c = m := by omega
                    rw [sc_stop (P := (fun c => rdP s k w st c)) (by omega)] at hsc
                    exact ⟨hsc.symm, by rw [if_neg (by omega)]; exact z⟩
                  · rw [sc_stop (P := (fun c => rdP s k w st c)) (fun y => by have y1 := y.2.1; omega)] at hsc
                    exact ⟨hsc.symm, by rw [if_pos (by omega)]; exact z.2.2⟩
                obtain ⟨hr1, hr2⟩ := hrc
                have hnf : ¬ (c < m ∧ faN s k w (st + c) = 0) := fun z => by rw [if_pos z.1] at hr2; omega
                have hmr : MR s (coF (coF gg 0 183 61) 244 0 61) rs un re ln lg ce := by
                  refine hmsR _ (fun j a b => ?_) (fun j a b => ?_)
                  · simp only [coF, hgg]
                    repeat' split
                    all_goals first | rfl | (exfalso; omega) | (congr 1; omega)
                  · simp only [coF, hgg]
                    repeat' split
                    all_goals first | rfl | (exfalso; omega) | (congr 1; omega)
                have hms : MS (coF (coF (coF gg 0 183 61) 244 0 61) 183 0 61) (s.n + c) (rdF s k st c) := by
                  refine ⟨?_, fun j a b => ?_⟩
                  · simp only [coF, hgg]
                    repeat' split
                    all_goals first | rfl | (exfalso; omega) | (congr 1; omega)
                  · simp only [coF, hgg, rdF]
                    repeat' split
                    all_goals first | rfl | (exfalso; omega) | (congr 1; omega) | exact hgf _ (by omega) (by omega) | (rw [hgf _ (by omega) (by omega)]; congr 1; omega)
                have hgi : ∀ j, 61 ≤ j → j < 183 → (coF (coF (coF gg 0 183 61) 244 0 61) 183 0 61) j = (coF (coF gg 0 183 61) 244 0 61) j := fun j a b => if_neg (by omega)
                have hq : qRead s k w st m = (c, ((s.row (s.n + c) (rdF s k st c)).torn fd).ed) := (by unfold qRead; rw [if_neg (fun z => z ⟨by omega, by omega, by omega, by omega⟩), hr1, if_neg hnf, ← hr2])
                rw [hq]
                have hme : MR ((s.row (s.n + c) (rdF s k st c)).torn fd).ed (coF (coF (coF gg 0 183 61) 244 0 61) 183 0 61) rs unq211 re ln lg ce := MR_ed hk hmr huaq211 hubq211 hms hgi
                exact ⟨_, rfl, rfl, ⟨_, _, _, _, _, _, _, _, _, _, _, _, _, _, _, _, _, _, _, _, _, _, hM, hS, hTp, hRs, hEn, hLe, hMa, hPa, hAl, hHe, hUn, hRe, hOt, hIk, hLa, hLn, hCe, hme⟩, hF⟩
              · refine J_iload_n (q := 66) X dX10_read_65 rfl rfl ?_
                refine J_i2l (q := 67) X dX10_read_66 rfl (by omega) ?_
                refine J_iload (q := 69) X dX10_read_67 rfl rfl ?_
                refine J_i2l (q := 70) X dX10_read_69 rfl (by omega) ?_
                refine J_ladd (q := 71) X dX10_read_70 rfl ?_
                refine J_lstore (q := 73) X dX10_read_71 (by decide) rfl rfl ?_
                have jn125 : ∀ (fd2 : Int) (hfd2 : fd2 = faN s k w (st + c)), J l Γ Ω 10 ad 95 0 0 E 125 [some (.ref (ad 78)), some (.int (jI k)), some (.int (jI w)), some (.int (jI st)), some (.int (jI m)), some (.int (jI fd)), some (.int (jI c)), some (.long (jL (st + c))), none, none] [.int (jI fd2)] := by
                  intro fd2 hfd2
                  have hfab : 0 ≤ fd2 ∧ fd2 ≤ 3 := by
                    rw [hfd2]
                    simp only [faN]
                    repeat' split
                    all_goals omega
                  refine J_istore (q := 127) X dX10_read_125 (by decide) rfl rfl ?_
                  refine J_iload (q := 129) X dX10_read_127 rfl rfl ?_
                  refine J_if_ne (q := 132) (tgt := 191) X dX10_read_129 (by decide) rfl (by omega) (fun cq129 => ?_) (fun cq129 => ?_)
                  · refine J_goto (q := 53) X dX10_read_191 (by decide) ?_
                    refine J_kill 7 ?_
                    first
                      | (exfalso; omega)
                      | exact ih53 _ _ _ _ (by omega) hsc (Or.inr ⟨cq129, by omega, hfd2⟩) (by omega) (by omega) hgg hM hS hTp hRs hEn hLe hMa hPa hAl hHe hUn hRe hOt hIk hLa hLn hCe hF (by rw [if_neg cq129]; rw [if_pos (by omega)] at hm; omega)
                      | (refine ih53 _ _ _ _ (by omega) (by rw [sc_go (P := (fun c => rdP s k w st c)) (by omega) ⟨by omega, hsg, by omega⟩]; exact hsc) (by omega) (by omega) (by omega) (fun j => ?_) hM hS hTp hRs hEn hLe hMa hPa hAl hHe hUn hRe hOt hIk hLa hLn hCe hF (by rw [if_pos (by omega)] at hm ⊢; omega)
                         simp only [ciF, hg60, hgg]
                         repeat' split
                         all_goals first | rfl | (exfalso; omega) | (congr 1; omega) | omega)
                  · have hfx : s.th k.toNat ≠ 0 ∧ w = s.la k.toNat ∧ 0 ≤ st + c ∧ st + c < s.sn k.toNat := by
                      rw [hfd2] at cq129
                      simp only [faN] at cq129
                      repeat' split at cq129
                      all_goals omega
                    obtain ⟨hl1, hl2, hl3⟩ := hsk.2 hfx.1
                    have hs3 := hss.2.2.1
                    have hcv := hl3 (st + c) hfx.2.2.1 hfx.2.2.2
                    have hcel := hss.2.2.2 (st + c) (by omega) (by omega)
                    refine J_aload_n (q := 133) X dX10_read_132 rfl rfl ?_
                    refine J_get (q := 136) X dX10_read_133 fX10_56 hM (by omega) rfl rfl ?_
                    refine J_bipush (q := 138) X dX10_read_136 rfl (by decide) ?_
                    refine J_iload_n (q := 139) X dX10_read_138 rfl rfl ?_
                    refine J_imul (q := 140) X dX10_read_139 rfl ?_
                    refine J_lload (q := 142) X dX10_read_140 rfl rfl ?_
                    refine J_l2i (q := 143) X dX10_read_142 rfl ?_
                    refine J_iadd (q := 144) X dX10_read_143 rfl ?_
                    refine J_iald (q := 145) X dX10_read_144 hCe (by omega) (by omega) (by decide) rfl ?_
                    rw [hcv]
                    refine J_istore (q := 147) X dX10_read_145 (by decide) rfl rfl ?_
                    refine J_iload (q := 149) X dX10_read_147 rfl rfl ?_
                    refine J_callP (q := 152) (jrS X mX10_98 dX10_read_149 (c_X10_isSign (by omega)) rfl rfl (Nat.le_of_ble_eq_true rfl) (by decide)) rfl ?_
                    refine J_if_eqB (q := 155) (tgt := 164) X dX10_read_152 (by decide) rfl (fun cq152 => ?_) (fun cq152 => ?_)
                    · refine J_aload_n (q := 165) X dX10_read_164 rfl rfl ?_
                      refine J_sipush (q := 168) X dX10_read_165 rfl (by decide) ?_
                      refine J_iconst (q := 169) X dX10_read_168 rfl ?_
                      refine J_callV (q := 172) (jrV X mX10_155 dX10_read_169 (c_X10_copies hM hS (by omega)) hM (by omega) rfl rfl rfl rfl (Nat.le_of_ble_eq_true rfl) (by decide)) rfl (fun Ew169 hpq169 => ?_)
                      obtain ⟨kS, hsq169⟩ := hpq169
                      replace hS := kS
                      replace hM := (hsq169 78 (by omega)).trans hM
                      replace hTp := (hsq169 80 (by omega)).trans hTp
                      replace hRs := (hsq169 81 (by omega)).trans hRs
                      replace hEn := (hsq169 82 (by omega)).trans hEn
                      replace hLe := (hsq169 83 (by omega)).trans hLe
                      replace hMa := (hsq169 84 (by omega)).trans hMa
                      replace hPa := (hsq169 85 (by omega)).trans hPa
                      replace hAl := (hsq169 86 (by omega)).trans hAl
                      replace hHe := (hsq169 87 (by omega)).trans hHe
                      replace hUn := (hsq169 88 (by omega)).trans hUn
                      replace hRe := (hsq169 89 (by omega)).trans hRe
                      replace hOt := (hsq169 90 (by omega)).trans hOt
                      replace hIk := (hsq169 91 (by omega)).trans hIk
                      replace hLa := (hsq169 92 (by omega)).trans hLa
                      replace hLn := (hsq169 93 (by omega)).trans hLn
                      replace hCe := (hsq169 94 (by omega)).trans hCe
                      replace hF : ∀ j : Nat, j < 78 → Ew169 j = E0 j := fun j hj => (hsq169 j (by omega)).trans (hF j hj)
                      refine J_bipush (q := 174) X dX10_read_172 rfl (by decide) ?_
                      refine J_iload (q := 176) X dX10_read_174 rfl rfl ?_
                      refine J_isub (q := 177) X dX10_read_176 rfl ?_
                      refine J_iret X R dX10_read_177 ?_
                      rw [hE0] at hF
                      have hmsR : ∀ G : Int → Int, (∀ j, 0 ≤ j → j < 61 → G j = g j) → (∀ j, 61 ≤ j → j < 183 → G j = g j) → MR s G rs un re ln lg ce := fun G e1 e2 => ⟨⟨(e1 60 (by omega) (by omega)).trans hgn, fun j a b => (e1 j a (by omega)).trans (hgf j a b)⟩, IRs_same hk him e2, hrs, hun, hre, hsh⟩
                      have hmr : MR s (coF gg 244 0 61) rs un re ln lg ce := by
                        refine hmsR _ (fun j a b => ?_) (fun j a b => ?_)
                        · simp only [coF, hgg]
                          repeat' split
                          all_goals first | rfl | (exfalso; omega) | (congr 1; omega)
                        · simp only [coF, hgg]
                          repeat' split
                          all_goals first | rfl | (exfalso; omega) | (congr 1; omega)
                      rw [sc_stop (P := (fun c => rdP s k w st c)) (fun y => by first | exact cq152 y.2.2.1 | (have y1 := y.2.2.2; omega))] at hsc
                      have hlt : c < m := by omega
                      have hf0 : faN s k w (st + c) = 0 := by omega
                      have hq : qRead s k w st m = (-20 - c, s) := (by unfold qRead; rw [if_neg (fun z => z ⟨by omega, by omega, by omega, by omega⟩), ← hsc, if_pos ⟨hlt, hf0⟩])
                      rw [hq]
                      exact ⟨_, rfl, rfl, ⟨_, _, _, _, _, _, _, _, _, _, _, _, _, _, _, _, _, _, _, _, _, _, hM, hS, hTp, hRs, hEn, hLe, hMa, hPa, hAl, hHe, hUn, hRe, hOt, hIk, hLa, hLn, hCe, hmr⟩, hF⟩
                    · refine J_aload_n (q := 156) X dX10_read_155 rfl rfl ?_
                      refine J_callP (q := 159) (jrV X mX10_165 dX10_read_156 (c_X10_many60 hM hS) hM (by omega) rfl rfl rfl rfl (Nat.le_of_ble_eq_true rfl) (by decide)) rfl ?_
                      refine J_bipush (q := 161) X dX10_read_159 rfl (by decide) ?_
                      refine J_icmp_ne (q := 164) (tgt := 178) X dX10_read_161 (by decide) rfl (by omega) (by omega) (fun cq161 => ?_) (fun cq161 => ?_)
                      · have hsg := cq152
                        refine J_aload_n (q := 179) X dX10_read_178 rfl rfl ?_
                        refine J_aload_n (q := 180) X dX10_read_179 rfl rfl ?_
                        refine J_callP (q := 183) (jrV X mX10_165 dX10_read_180 (c_X10_many60 hM hS) hM (by omega) rfl rfl rfl rfl (Nat.le_of_ble_eq_true rfl) (by decide)) rfl ?_
                        refine J_iload (q := 185) X dX10_read_183 rfl rfl ?_
                        refine J_callV (q := 188) (jrV X mX10_243 dX10_read_185 (c_X10_comesIn hM hS hg60 (by omega)) hM (by omega) rfl rfl rfl rfl (Nat.le_of_ble_eq_true rfl) (by decide)) rfl (fun Ew185 hpq185 => ?_)
                        obtain ⟨kS, hsq185⟩ := hpq185
                        replace hS := kS
                        replace hM := (hsq185 78 (by omega)).trans hM
                        replace hTp := (hsq185 80 (by omega)).trans hTp
                        replace hRs := (hsq185 81 (by omega)).trans hRs
                        replace hEn := (hsq185 82 (by omega)).trans hEn
                        replace hLe := (hsq185 83 (by omega)).trans hLe
                        replace hMa := (hsq185 84 (by omega)).trans hMa
                        replace hPa := (hsq185 85 (by omega)).trans hPa
                        replace hAl := (hsq185 86 (by omega)).trans hAl
                        replace hHe := (hsq185 87 (by omega)).trans hHe
                        replace hUn := (hsq185 88 (by omega)).trans hUn
                        replace hRe := (hsq185 89 (by omega)).trans hRe
                        replace hOt := (hsq185 90 (by omega)).trans hOt
                        replace hIk := (hsq185 91 (by omega)).trans hIk
                        replace hLa := (hsq185 92 (by omega)).trans hLa
                        replace hLn := (hsq185 93 (by omega)).trans hLn
                        replace hCe := (hsq185 94 (by omega)).trans hCe
                        replace hF : ∀ j : Nat, j < 78 → Ew185 j = E0 j := fun j hj => (hsq185 j (by omega)).trans (hF j hj)
                        refine J_iinc (q := 191) X dX10_read_188 rfl (by decide) rfl rfl ?_
                        refine J_goto (q := 53) X dX10_read_191 (by decide) ?_
                        refine J_kill 7 ?_
                        refine J_kill 9 ?_
                        first
                          | (exfalso; omega)
                          | exact ih53 _ _ _ _ (by omega) hsc (Or.inr ⟨cq129, by omega, hfd2⟩) (by omega) (by omega) hgg hM hS hTp hRs hEn hLe hMa hPa hAl hHe hUn hRe hOt hIk hLa hLn hCe hF (by rw [if_neg cq129]; rw [if_pos (by omega)] at hm; omega)
                          | (refine ih53 _ _ _ _ (by omega) (by rw [sc_go (P := (fun c => rdP s k w st c)) (by omega) ⟨by omega, hsg, by omega⟩]; exact hsc) (by omega) (by omega) (by omega) (fun j => ?_) hM hS hTp hRs hEn hLe hMa hPa hAl hHe hUn hRe hOt hIk hLa hLn hCe hF (by rw [if_pos (by omega)] at hm ⊢; omega)
                             simp only [ciF, hg60, hgg]
                             repeat' split
                             all_goals first | rfl | (exfalso; omega) | (congr 1; omega) | omega)
                      · refine J_aload_n (q := 165) X dX10_read_164 rfl rfl ?_
                        refine J_sipush (q := 168) X dX10_read_165 rfl (by decide) ?_
                        refine J_iconst (q := 169) X dX10_read_168 rfl ?_
                        refine J_callV (q := 172) (jrV X mX10_155 dX10_read_169 (c_X10_copies hM hS (by omega)) hM (by omega) rfl rfl rfl rfl (Nat.le_of_ble_eq_true rfl) (by decide)) rfl (fun Ew169 hpq169 => ?_)
                        obtain ⟨kS, hsq169⟩ := hpq169
                        replace hS := kS
                        replace hM := (hsq169 78 (by omega)).trans hM
                        replace hTp := (hsq169 80 (by omega)).trans hTp
                        replace hRs := (hsq169 81 (by omega)).trans hRs
                        replace hEn := (hsq169 82 (by omega)).trans hEn
                        replace hLe := (hsq169 83 (by omega)).trans hLe
                        replace hMa := (hsq169 84 (by omega)).trans hMa
                        replace hPa := (hsq169 85 (by omega)).trans hPa
                        replace hAl := (hsq169 86 (by omega)).trans hAl
                        replace hHe := (hsq169 87 (by omega)).trans hHe
                        replace hUn := (hsq169 88 (by omega)).trans hUn
                        replace hRe := (hsq169 89 (by omega)).trans hRe
                        replace hOt := (hsq169 90 (by omega)).trans hOt
                        replace hIk := (hsq169 91 (by omega)).trans hIk
                        replace hLa := (hsq169 92 (by omega)).trans hLa
                        replace hLn := (hsq169 93 (by omega)).trans hLn
                        replace hCe := (hsq169 94 (by omega)).trans hCe
                        replace hF : ∀ j : Nat, j < 78 → Ew169 j = E0 j := fun j hj => (hsq169 j (by omega)).trans (hF j hj)
                        refine J_bipush (q := 174) X dX10_read_172 rfl (by decide) ?_
                        refine J_iload (q := 176) X dX10_read_174 rfl rfl ?_
                        refine J_isub (q := 177) X dX10_read_176 rfl ?_
                        refine J_iret X R dX10_read_177 ?_
                        rw [hE0] at hF
                        have hmsR : ∀ G : Int → Int, (∀ j, 0 ≤ j → j < 61 → G j = g j) → (∀ j, 61 ≤ j → j < 183 → G j = g j) → MR s G rs un re ln lg ce := fun G e1 e2 => ⟨⟨(e1 60 (by omega) (by omega)).trans hgn, fun j a b => (e1 j a (by omega)).trans (hgf j a b)⟩, IRs_same hk him e2, hrs, hun, hre, hsh⟩
                        have hmr : MR s (coF gg 244 0 61) rs un re ln lg ce := by
                          refine hmsR _ (fun j a b => ?_) (fun j a b => ?_)
                          · simp only [coF, hgg]
                            repeat' split
                            all_goals first | rfl | (exfalso; omega) | (congr 1; omega)
                          · simp only [coF, hgg]
                            repeat' split
                            all_goals first | rfl | (exfalso; omega) | (congr 1; omega)
                        rw [sc_stop (P := (fun c => rdP s k w st c)) (fun y => by first | exact cq152 y.2.2.1 | (have y1 := y.2.2.2; omega))] at hsc
                        have hlt : c < m := by omega
                        have hf0 : faN s k w (st + c) = 0 := by omega
                        have hq : qRead s k w st m = (-20 - c, s) := (by unfold qRead; rw [if_neg (fun z => z ⟨by omega, by omega, by omega, by omega⟩), ← hsc, if_pos ⟨hlt, hf0⟩])
                        rw [hq]
                        exact ⟨_, rfl, rfl, ⟨_, _, _, _, _, _, _, _, _, _, _, _, _, _, _, _, _, _, _, _, _, _, hM, hS, hTp, hRs, hEn, hLe, hMa, hPa, hAl, hHe, hUn, hRe, hOt, hIk, hLa, hLn, hCe, hmr⟩, hF⟩
                refine J_aload_n (q := 74) X dX10_read_73 rfl rfl ?_
                refine J_get (q := 77) X dX10_read_74 fX10_50 hM (by omega) rfl rfl ?_
                refine J_iload_n (q := 78) X dX10_read_77 rfl rfl ?_
                refine J_iald (q := 79) X dX10_read_78 hLa (by omega) (by omega) (by decide) rfl ?_
                refine J_bipush (q := 81) X dX10_read_79 rfl (by decide) ?_
                refine J_icmp_ne (q := 84) (tgt := 88) X dX10_read_81 (by decide) rfl (by omega) (by omega) (fun cq81 => ?_) (fun cq81 => ?_)
                · refine J_aload_n (q := 89) X dX10_read_88 rfl rfl ?_
                  refine J_get (q := 92) X dX10_read_89 fX10_50 hM (by omega) rfl rfl ?_
                  refine J_iload_n (q := 93) X dX10_read_92 rfl rfl ?_
                  refine J_iald (q := 94) X dX10_read_93 hLa (by omega) (by omega) (by decide) rfl ?_
                  refine J_iload_n (q := 95) X dX10_read_94 rfl rfl ?_
                  refine J_icmp_eq (q := 98) (tgt := 102) X dX10_read_95 (by decide) rfl (by omega) (by omega) (fun cq95 => ?_) (fun cq95 => ?_)
                  · refine J_lload (q := 104) X dX10_read_102 rfl rfl ?_
                    refine J_lconst (q := 105) (v := 0) X dX10_read_104 (by decide) rfl ?_
                    refine J_aload_n (q := 106) X dX10_read_105 rfl rfl ?_
                    refine J_get (q := 109) X dX10_read_106 fX10_53 hM (by omega) rfl rfl ?_
                    refine J_iload_n (q := 110) X dX10_read_109 rfl rfl ?_
                    refine J_iald (q := 111) X dX10_read_110 hLn (by omega) (by omega) (by decide) rfl ?_
                    refine J_iconst (q := 112) X dX10_read_111 rfl ?_
                    refine J_isub (q := 113) X dX10_read_112 rfl ?_
                    refine J_i2l (q := 114) X dX10_read_113 rfl (by omega) ?_
                    refine J_callP (q := 117) (jrS X mX10_61 dX10_read_114 (c_X10_in (by omega) (by omega) (by omega)) rfl rfl (Nat.le_of_ble_eq_true rfl) (by decide)) rfl ?_
                    refine J_if_neB (q := 120) (tgt := 124) X dX10_read_117 (by decide) rfl (fun cq117 => ?_) (fun cq117 => ?_)
                    · refine J_iconst (q := 125) X dX10_read_124 rfl ?_
                      first
                        | (exfalso; omega)
                        | exact jn125 _ (by simp only [faN]; rw [if_pos (show s.th k.toNat = 0 by by_cases z : s.th k.toNat = 0; exact z; (have := (hsk.2 z).1; have := hss.2.1; exfalso; omega))])
                        | (have hth : s.th k.toNat ≠ 0 := fun z => cq81 (hsk.1 z)
                           obtain ⟨hl1, hl2, hl3⟩ := hsk.2 hth
                           first
                             | (exfalso; omega)
                             | exact jn125 _ (by simp only [faN]; rw [if_neg hth, if_pos (by omega)])
                             | exact jn125 _ (by simp only [faN]; rw [if_neg hth, if_neg (by omega), if_pos (by omega)])
                             | exact jn125 _ (by simp only [faN]; rw [if_neg hth, if_neg (by omega), if_neg (by omega)]))
                    · refine J_iconst (q := 121) X dX10_read_120 rfl ?_
                      refine J_goto (q := 125) X dX10_read_121 (by decide) ?_
                      first
                        | (exfalso; omega)
                        | exact jn125 _ (by simp only [faN]; rw [if_pos (show s.th k.toNat = 0 by by_cases z : s.th k.toNat = 0; exact z; (have := (hsk.2 z).1; have := hss.2.1; exfalso; omega))])
                        | (have hth : s.th k.toNat ≠ 0 := fun z => cq81 (hsk.1 z)
                           obtain ⟨hl1, hl2, hl3⟩ := hsk.2 hth
                           first
                             | (exfalso; omega)
                             | exact jn125 _ (by simp only [faN]; rw [if_neg hth, if_pos (by omega)])
                             | exact jn125 _ (by simp only [faN]; rw [if_neg hth, if_neg (by omega), if_pos (by omega)])
                             | exact jn125 _ (by simp only [faN]; rw [if_neg hth, if_neg (by omega), if_neg (by omega)]))
                  · refine J_iconst (q := 99) X dX10_read_98 rfl ?_
                    refine J_goto (q := 125) X dX10_read_99 (by decide) ?_
                    first
                      | (exfalso; omega)
                      | exact jn125 _ (by simp only [faN]; rw [if_pos (show s.th k.toNat = 0 by by_cases z : s.th k.toNat = 0; exact z; (have := (hsk.2 z).1; have := hss.2.1; exfalso; omega))])
                      | (have hth : s.th k.toNat ≠ 0 := fun z => cq81 (hsk.1 z)
                         obtain ⟨hl1, hl2, hl3⟩ := hsk.2 hth
                         first
                           | (exfalso; omega)
                           | exact jn125 _ (by simp only [faN]; rw [if_neg hth, if_pos (by omega)])
                           | exact jn125 _ (by simp only [faN]; rw [if_neg hth, if_neg (by omega), if_pos (by omega)])
                           | exact jn125 _ (by simp only [faN]; rw [if_neg hth, if_neg (by omega), if_neg (by omega)]))
                · refine J_iconst (q := 85) X dX10_read_84 rfl ?_
                  refine J_goto (q := 125) X dX10_read_85 (by decide) ?_
                  first
                    | (exfalso; omega)
                    | exact jn125 _ (by simp only [faN]; rw [if_pos (show s.th k.toNat = 0 by by_cases z : s.th k.toNat = 0; exact z; (have := (hsk.2 z).1; have := hss.2.1; exfalso; omega))])
                    | (have hth : s.th k.toNat ≠ 0 := fun z => cq81 (hsk.1 z)
                       obtain ⟨hl1, hl2, hl3⟩ := hsk.2 hth
                       first
                         | (exfalso; omega)
                         | exact jn125 _ (by simp only [faN]; rw [if_neg hth, if_pos (by omega)])
                         | exact jn125 _ (by simp only [faN]; rw [if_neg hth, if_neg (by omega), if_pos (by omega)])
                         | exact jn125 _ (by simp only [faN]; rw [if_neg hth, if_neg (by omega), if_neg (by omega)]))
        refine lp53 200 0 0 _ _ (by omega) rfl (Or.inl rfl) (by omega) (Or.inl rfl) (fun j => ?_) hM hS hTp hRs hEn hLe hMa hPa hAl hHe hUn hRe hOt hIk hLa hLn hCe hF (by rw [if_pos rfl]; omega)
        simp only [coF]
        repeat' split
        all_goals first | rfl | (exfalso; omega) | (congr 1; omega) | (subst_vars; omega)
      · refine J_iconst (q := 38) X dX10_read_37 rfl ?_
        refine J_iret X R dX10_read_38 ?_
        rw [hE0] at hF
        have hq : qRead s k w st m = (-1, s) := (by unfold qRead; rw [if_pos (fun z => by obtain ⟨z1, z2, z3⟩ := z; omega)])
        rw [hq]
        exact ⟨_, rfl, rfl, ⟨_, _, _, _, _, _, _, _, _, _, _, _, _, _, _, _, _, _, _, _, _, _, hM, hS, hTp, hRs, hEn, hLe, hMa, hPa, hAl, hHe, hUn, hRe, hOt, hIk, hLa, hLn, hCe, hMR⟩, hF⟩
