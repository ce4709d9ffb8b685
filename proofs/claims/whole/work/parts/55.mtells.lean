theorem lg_two {f : Int → Int} {n : Int} (hn : 0 ≤ n) : ∀ k : Nat, (k : Int) ≤ n → k ≠ 0 → (lgF f n k).2 = wt f n (lgF f n k).1 - (lgF f n k).1
  | 0, _, h => absurd rfl h
  | k + 1, hk, _ => by
    have hw := wt_bd (f := f) (n := n) (i := (k : Int)) (by omega)
    rw [lgF]
    by_cases h : (lgF f n k).2 < wt f n k - k
    · rw [if_pos h]
    · rw [if_neg h]
      by_cases hk0 : k = 0
      · subst hk0
        have h' : ¬ (0 : Int) < wt f n 0 - 0 := h
        have hw' : (0 : Int) ≤ wt f n 0 ∧ wt f n 0 ≤ n := hw
        show (0 : Int) = wt f n 0 - 0
        omega
      · exact lg_two hn k (by omega) hk0
theorem lg_val {f : Int → Int} {n : Int} (hn : 0 ≤ n) : (lgF f n n.toNat).2 = wt f n (lgF f n n.toNat).1 - (lgF f n n.toNat).1 := by
  by_cases h : n.toNat = 0
  · have hw := wt_bd (f := f) (n := n) (i := 0) hn
    rw [h]
    show (0 : Int) = wt f n 0 - 0
    omega
  · exact lg_two hn _ (by omega) h
set_option maxRecDepth 100000 in
set_option maxHeartbeats 4000000 in
theorem c_X10_bare {l : Launch} {Γ : JG} {ad : Nat → Nat} {E : Nat → va_E} {s : KS} {i w : Int} (hc : MI Γ ad E s) (hk : KV s) (hbi : -2147483648 ≤ i ∧ i < 2147483648) (hbw : -2147483648 ≤ w ∧ w < 2147483648) : JM l Γ yX10_bare cX10_bare 6 (some .int) 3 68 0 0 ad 95 E [.ref (ad 78), .int (jI i), .int (jI w)] (pI (fun z E' => z = qBare s i w ∧ MI Γ ad E' s ∧ ∀ j : Nat, j < 78 → E' j = E j)) := by
  refine JM_intro (own := RX10) [some (.ref (ad 78)), some (.int (jI i)), some (.int (jI w)), none, none, none] rfl rfl rfl (Nat.le_of_ble_eq_true rfl) ?_
  intro Ω X R hin
  obtain ⟨E0, hE0⟩ : ∃ E0 : Nat → va_E, E0 = E := ⟨_, rfl⟩
  have hF : ∀ j : Nat, j < 78 → E j = E0 j := fun _ _ => by rw [hE0]
  obtain ⟨m2, m3, m4, m5, m6, m7, m8, m9, m10, m11, g, rs, ma, pa, al, he, un, re, ot, ln, lg, ce, hM, hS, hTp, hRs, hEn, hLe, hMa, hPa, hAl, hHe, hUn, hRe, hOt, hIk, hLa, hLn, hCe, hMR⟩ := id hc
  obtain ⟨hg, him, hrs, hun, hre, hsh⟩ := id hMR
  obtain ⟨hk0, hnow⟩ := id hk
  have hv := hk0.hv
  obtain ⟨hn, hvr⟩ := id hv
  obtain ⟨hgn, hgf⟩ := id hg
  have ho := hk0.ho
  have htb := hk0.htb
  obtain ⟨htl, -⟩ := id htb
  have hb := hk0.hb
  refine J_aload_n (q := 1) X dX10_bare_0 rfl rfl ?_
  refine J_iload_n (q := 2) X dX10_bare_1 rfl rfl ?_
  refine J_callP (q := 5) (jrV X mX10_225 dX10_bare_2 (c_X10_isPlace hM hS hg hv (by omega)) hM (by omega) rfl rfl rfl rfl (Nat.le_of_ble_eq_true rfl) (by decide)) rfl ?_
  refine J_if_eqB (q := 8) (tgt := 18) X dX10_bare_5 (by decide) rfl (fun cq5 => ?_) (fun cq5 => ?_)
  · refine J_iconst (q := 19) X dX10_bare_18 rfl ?_
    refine J_iret X R dX10_bare_19 ?_
    rw [hE0] at hF
    have hq : qBare s i w = -1 := (by unfold qBare; first | (rw [if_pos (by omega)]; done) | (rw [if_neg (by omega), if_neg (by omega), if_neg (by omega)]; done) | (by_cases hp : 0 ≤ i ∧ i ≤ s.n; (rw [if_neg (fun z => z hp), if_neg (by omega), if_neg (by omega)]); (rw [if_pos hp])))
    exact ⟨_, rfl, Eq.trans (rfl) hq.symm, ⟨_, _, _, _, _, _, _, _, _, _, _, _, _, _, _, _, _, _, _, _, _, _, hM, hS, hTp, hRs, hEn, hLe, hMa, hPa, hAl, hHe, hUn, hRe, hOt, hIk, hLa, hLn, hCe, hMR⟩, hF⟩
  · refine J_iload_n (q := 9) X dX10_bare_8 rfl rfl ?_
    refine J_i2l (q := 10) X dX10_bare_9 rfl (by omega) ?_
    refine J_lconst (q := 11) (v := 0) X dX10_bare_10 (by decide) rfl ?_
    refine J_lconst (q := 12) (v := 1) X dX10_bare_11 (by decide) rfl ?_
    refine J_callP (q := 15) (jrS X mX10_61 dX10_bare_12 (c_X10_in (by omega) (by omega) (by omega)) rfl rfl (Nat.le_of_ble_eq_true rfl) (by decide)) rfl ?_
    refine J_if_neB (q := 18) (tgt := 20) X dX10_bare_15 (by decide) rfl (fun cq15 => ?_) (fun cq15 => ?_)
    · refine J_aload_n (q := 21) X dX10_bare_20 rfl rfl ?_
      refine J_callV (q := 24) (jrV X mX10_198 dX10_bare_21 (c_X10_findsAll hM hS hPa hAl hHe hg hv) hM (by omega) rfl rfl rfl rfl (Nat.le_of_ble_eq_true rfl) (by decide)) rfl (fun Ew21 hpq21 => ?_)
      obtain ⟨paq21, alq21, heq21, kPa, kAl, kHe, hpaq21, halq21, hsq21⟩ := hpq21
      replace hPa := kPa
      replace hAl := kAl
      replace hHe := kHe
      have hpa := hpaq21
      have hal := halq21
      replace hM := (hsq21 78 (by omega)).trans hM
      replace hS := (hsq21 79 (by omega)).trans hS
      replace hTp := (hsq21 80 (by omega)).trans hTp
      replace hRs := (hsq21 81 (by omega)).trans hRs
      replace hEn := (hsq21 82 (by omega)).trans hEn
      replace hLe := (hsq21 83 (by omega)).trans hLe
      replace hMa := (hsq21 84 (by omega)).trans hMa
      replace hUn := (hsq21 88 (by omega)).trans hUn
      replace hRe := (hsq21 89 (by omega)).trans hRe
      replace hOt := (hsq21 90 (by omega)).trans hOt
      replace hIk := (hsq21 91 (by omega)).trans hIk
      replace hLa := (hsq21 92 (by omega)).trans hLa
      replace hLn := (hsq21 93 (by omega)).trans hLn
      replace hCe := (hsq21 94 (by omega)).trans hCe
      replace hF : ∀ j : Nat, j < 78 → Ew21 j = E0 j := fun j hj => (hsq21 j (by omega)).trans (hF j hj)
      refine J_bipush (q := 26) X dX10_bare_24 rfl (by decide) ?_
      refine J_istore_n (q := 27) X dX10_bare_26 (by decide) rfl rfl ?_
      refine J_iconst (q := 28) X dX10_bare_27 rfl ?_
      refine J_istore (q := 30) X dX10_bare_28 (by decide) rfl rfl ?_
      have lp30 : ∀ (m : Nat) (t r : Int) (ht : 0 ≤ t ∧ t ≤ s.n) (hr0 : w = 0 → (r = -4 ∧ (∀ j, i ≤ j → j < t → ¬ bre s.f s.n j)) ∨ (i ≤ r ∧ r < t ∧ bre s.f s.n r ∧ ∀ j, i ≤ j → j < r → ¬ bre s.f s.n j)) (hr1 : w = 1 → r = dn (fun k => bre s.f s.n k) (if t ≤ i then t else i).toNat) (hrb : -4 ≤ r ∧ r ≤ 60) (hm : s.n - t + 1 ≤ (m : Int)), J l Γ Ω 6 ad 95 0 0 Ew21 30 [some (.ref (ad 78)), some (.int (jI i)), some (.int (jI w)), some (.int (jI r)), some (.int (jI t)), none] [] := by
        intro m
        induction m with
        | zero => intro t r ht hr0 hr1 hrb hm; exfalso; omega
        | succ m ih30 =>
          intro t r ht hr0 hr1 hrb hm
          refine J_iload (q := 32) X dX10_bare_30 rfl rfl ?_
          refine J_aload_n (q := 33) X dX10_bare_32 rfl rfl ?_
          refine J_callP (q := 36) (jrV X mX10_165 dX10_bare_33 (c_X10_many hM hS hg hv) hM (by omega) rfl rfl rfl rfl (Nat.le_of_ble_eq_true rfl) (by decide)) rfl ?_
          refine J_icmp_ge (q := 39) (tgt := 98) X dX10_bare_36 (by decide) rfl (by omega) (by omega) (fun cq36 => ?_) (fun cq36 => ?_)
          · refine J_iload_n (q := 99) X dX10_bare_98 rfl rfl ?_
            refine J_iret X R dX10_bare_99 ?_
            rw [hE0] at hF
            refine ⟨_, rfl, ?_, ⟨_, _, _, _, _, _, _, _, _, _, _, _, _, _, _, _, _, _, _, _, _, _, hM, hS, hTp, hRs, hEn, hLe, hMa, hPa, hAl, hHe, hUn, hRe, hOt, hIk, hLa, hLn, hCe, hMR⟩, hF⟩
            have etn : t = s.n := by omega
            subst etn
            rcases (show w = 0 ∨ w = 1 by omega) with e | e
            · have hq : qBare s i w = nbF s.f s.n i := by unfold qBare; rw [if_neg (fun z => z cq5), if_pos e]
              rw [hq]
              unfold nbF
              rcases hr0 e with z | z
              · have hs : sc (fun k => ¬ bre s.f s.n k) s.n i = s.n := sc_is (by omega) (fun y a b => ⟨b, z.2 y a b⟩) (by omega)
                rw [hs, if_neg (by omega)]; exact z.1
              · have hs : sc (fun k => ¬ bre s.f s.n k) s.n i = r := sc_is (by omega) (fun y a b => ⟨by omega, z.2.2.2 y a b⟩) (fun y => y.2 z.2.2.1)
                rw [hs, if_pos (by omega)]
            · have hq : qBare s i w = lbF s.f s.n i := by unfold qBare; rw [if_neg (fun z => z cq5), if_neg (by omega), if_pos e]
              rw [hq, hr1 e]
              unfold lbF
              by_cases h : s.n ≤ i
              · rw [if_pos h, show s.n = i by omega]
              · rw [if_neg h]
          · have jn78 : ∀ (go : Int) (hgd : go = bI (bre s.f s.n t ∧ ((w = 0 ∧ i ≤ t ∧ r = -4) ∨ (w = 1 ∧ t < i)))), J l Γ Ω 6 ad 95 0 0 Ew21 78 [some (.ref (ad 78)), some (.int (jI i)), some (.int (jI w)), some (.int (jI r)), some (.int (jI t)), none] [.int (jI go)] := by
              intro go hgd
              have hgb := bI_bd (bre s.f s.n t ∧ ((w = 0 ∧ i ≤ t ∧ r = -4) ∨ (w = 1 ∧ t < i)))
              refine J_istore (q := 80) X dX10_bare_78 (by decide) rfl rfl ?_
              refine J_iload (q := 82) X dX10_bare_80 rfl rfl ?_
              refine J_if_eq (q := 85) (tgt := 90) X dX10_bare_82 (by decide) rfl (by omega) (fun cq82 => ?_) (fun cq82 => ?_)
              · refine J_iload_n (q := 91) X dX10_bare_90 rfl rfl ?_
                refine J_istore_n (q := 92) X dX10_bare_91 (by decide) rfl rfl ?_
                refine J_iinc (q := 95) X dX10_bare_92 rfl (by decide) rfl rfl ?_
                refine J_goto (q := 30) X dX10_bare_95 (by decide) ?_
                refine J_kill 5 ?_
                have hstep0 : ∀ r' : Int, (r' = if bre s.f s.n t ∧ ((w = 0 ∧ i ≤ t ∧ r = -4) ∨ (w = 1 ∧ t < i)) then t else r) → (w = 0 → (r' = -4 ∧ (∀ j, i ≤ j → j < (t + 1) → ¬ bre s.f s.n j)) ∨ (i ≤ r' ∧ r' < t + 1 ∧ bre s.f s.n r' ∧ ∀ j, i ≤ j → j < r' → ¬ bre s.f s.n j)) ∧ (w = 1 → r' = dn (fun k => bre s.f s.n k) (if t + 1 ≤ i then (t + 1) else i).toNat) ∧ (-4 ≤ r' ∧ r' ≤ 60) := fun r' hr' => by
                  by_cases hq : bre s.f s.n t ∧ ((w = 0 ∧ i ≤ t ∧ r = -4) ∨ (w = 1 ∧ t < i))
                  · rw [if_pos hq] at hr'
                    subst hr'
                    refine ⟨fun w0 => Or.inr ⟨by omega, by omega, hq.1, fun j a b => ?_⟩, fun w1 => ?_, by omega⟩
                    · rcases hr0 w0 with z | z
                      · exact z.2 j a b
                      · have := hq.2; omega
                    · have := hq.2
                      rw [if_pos (by omega), dnI_succ (fun k => bre s.f s.n k) (by omega), if_pos hq.1]
                  · rw [if_neg hq] at hr'
                    subst hr'
                    refine ⟨fun w0 => ?_, fun w1 => ?_, by omega⟩
                    · rcases hr0 w0 with z | z
                      · refine Or.inl ⟨z.1, fun j a b => ?_⟩
                        by_cases e : j = t
                        · subst e; exact fun y => hq ⟨y, Or.inl ⟨w0, a, z.1⟩⟩
                        · exact z.2 j a (by omega)
                      · exact Or.inr ⟨z.1, by omega, z.2.2⟩
                    · rw [hr1 w1]
                      by_cases hti : t < i
                      · rw [if_pos (by omega), if_pos (by omega), dnI_succ (fun k => bre s.f s.n k) (by omega), if_neg (fun y => hq ⟨y, Or.inr ⟨w1, hti⟩⟩)]
                      · have e1 : (if t + 1 ≤ i then t + 1 else i) = i := if_neg (by omega)
                        have e2 : (if t ≤ i then t else i) = i := by split <;> omega
                        rw [e1, e2]
                first
                  | (obtain ⟨q0, q1, q2⟩ := hstep0 _ (by rw [if_pos (by by_cases hq : bre s.f s.n t ∧ ((w = 0 ∧ i ≤ t ∧ r = -4) ∨ (w = 1 ∧ t < i)); exact hq; (rw [bI_f hq] at hgd; exfalso; omega))])
                     exact ih30 _ _ (by omega) q0 q1 q2 (by omega))
                  | (obtain ⟨q0, q1, q2⟩ := hstep0 _ (by rw [if_neg (by intro hq; rw [bI_t hq] at hgd; omega)])
                     exact ih30 _ _ (by omega) q0 q1 q2 (by omega))
              · refine J_iload (q := 87) X dX10_bare_85 rfl rfl ?_
                refine J_goto (q := 91) X dX10_bare_87 (by decide) ?_
                refine J_istore_n (q := 92) X dX10_bare_91 (by decide) rfl rfl ?_
                refine J_iinc (q := 95) X dX10_bare_92 rfl (by decide) rfl rfl ?_
                refine J_goto (q := 30) X dX10_bare_95 (by decide) ?_
                refine J_kill 5 ?_
                have hstep0 : ∀ r' : Int, (r' = if bre s.f s.n t ∧ ((w = 0 ∧ i ≤ t ∧ r = -4) ∨ (w = 1 ∧ t < i)) then t else r) → (w = 0 → (r' = -4 ∧ (∀ j, i ≤ j → j < (t + 1) → ¬ bre s.f s.n j)) ∨ (i ≤ r' ∧ r' < t + 1 ∧ bre s.f s.n r' ∧ ∀ j, i ≤ j → j < r' → ¬ bre s.f s.n j)) ∧ (w = 1 → r' = dn (fun k => bre s.f s.n k) (if t + 1 ≤ i then (t + 1) else i).toNat) ∧ (-4 ≤ r' ∧ r' ≤ 60) := fun r' hr' => by
                  by_cases hq : bre s.f s.n t ∧ ((w = 0 ∧ i ≤ t ∧ r = -4) ∨ (w = 1 ∧ t < i))
                  · rw [if_pos hq] at hr'
                    subst hr'
                    refine ⟨fun w0 => Or.inr ⟨by omega, by omega, hq.1, fun j a b => ?_⟩, fun w1 => ?_, by omega⟩
                    · rcases hr0 w0 with z | z
                      · exact z.2 j a b
                      · have := hq.2; omega
                    · have := hq.2
                      rw [if_pos (by omega), dnI_succ (fun k => bre s.f s.n k) (by omega), if_pos hq.1]
                  · rw [if_neg hq] at hr'
                    subst hr'
                    refine ⟨fun w0 => ?_, fun w1 => ?_, by omega⟩
                    · rcases hr0 w0 with z | z
                      · refine Or.inl ⟨z.1, fun j a b => ?_⟩
                        by_cases e : j = t
                        · subst e; exact fun y => hq ⟨y, Or.inl ⟨w0, a, z.1⟩⟩
                        · exact z.2 j a (by omega)
                      · exact Or.inr ⟨z.1, by omega, z.2.2⟩
                    · rw [hr1 w1]
                      by_cases hti : t < i
                      · rw [if_pos (by omega), if_pos (by omega), dnI_succ (fun k => bre s.f s.n k) (by omega), if_neg (fun y => hq ⟨y, Or.inr ⟨w1, hti⟩⟩)]
                      · have e1 : (if t + 1 ≤ i then t + 1 else i) = i := if_neg (by omega)
                        have e2 : (if t ≤ i then t else i) = i := by split <;> omega
                        rw [e1, e2]
                first
                  | (obtain ⟨q0, q1, q2⟩ := hstep0 _ (by rw [if_pos (by by_cases hq : bre s.f s.n t ∧ ((w = 0 ∧ i ≤ t ∧ r = -4) ∨ (w = 1 ∧ t < i)); exact hq; (rw [bI_f hq] at hgd; exfalso; omega))])
                     exact ih30 _ _ (by omega) q0 q1 q2 (by omega))
                  | (obtain ⟨q0, q1, q2⟩ := hstep0 _ (by rw [if_neg (by intro hq; rw [bI_t hq] at hgd; omega)])
                     exact ih30 _ _ (by omega) q0 q1 q2 (by omega))
            refine J_aload_n (q := 40) X dX10_bare_39 rfl rfl ?_
            refine J_iload (q := 42) X dX10_bare_40 rfl rfl ?_
            refine J_callP (q := 45) (jrV X mX10_189 dX10_bare_42 (c_X10_isBare hM hS hPa hg hv hpa (by omega)) hM (by omega) rfl rfl rfl rfl (Nat.le_of_ble_eq_true rfl) (by decide)) rfl ?_
            refine J_if_eqB (q := 48) (tgt := 77) X dX10_bare_45 (by decide) rfl (fun cq45 => ?_) (fun cq45 => ?_)
            · refine J_iconst (q := 78) X dX10_bare_77 rfl ?_
              first
                | exact jn78 _ (by rw [bI_t (show bre s.f s.n t ∧ ((w = 0 ∧ i ≤ t ∧ r = -4) ∨ (w = 1 ∧ t < i)) from ⟨cq45, by omega⟩)])
                | exact jn78 _ (by rw [bI_f (fun z => by have z2 := z.2; omega)])
                | exact jn78 _ (by rw [bI_f (fun z => cq45 z.1)])
            · refine J_iload_n (q := 49) X dX10_bare_48 rfl rfl ?_
              refine J_if_ne (q := 52) (tgt := 67) X dX10_bare_49 (by decide) rfl (by omega) (fun cq49 => ?_) (fun cq49 => ?_)
              · refine J_iload (q := 69) X dX10_bare_67 rfl rfl ?_
                refine J_iload_n (q := 70) X dX10_bare_69 rfl rfl ?_
                refine J_icmp_ge (q := 73) (tgt := 77) X dX10_bare_70 (by decide) rfl (by omega) (by omega) (fun cq70 => ?_) (fun cq70 => ?_)
                · refine J_iconst (q := 78) X dX10_bare_77 rfl ?_
                  first
                    | exact jn78 _ (by rw [bI_t (show bre s.f s.n t ∧ ((w = 0 ∧ i ≤ t ∧ r = -4) ∨ (w = 1 ∧ t < i)) from ⟨cq45, by omega⟩)])
                    | exact jn78 _ (by rw [bI_f (fun z => by have z2 := z.2; omega)])
                    | exact jn78 _ (by rw [bI_f (fun z => cq45 z.1)])
                · refine J_iconst (q := 74) X dX10_bare_73 rfl ?_
                  refine J_goto (q := 78) X dX10_bare_74 (by decide) ?_
                  first
                    | exact jn78 _ (by rw [bI_t (show bre s.f s.n t ∧ ((w = 0 ∧ i ≤ t ∧ r = -4) ∨ (w = 1 ∧ t < i)) from ⟨cq45, by omega⟩)])
                    | exact jn78 _ (by rw [bI_f (fun z => by have z2 := z.2; omega)])
                    | exact jn78 _ (by rw [bI_f (fun z => cq45 z.1)])
              · refine J_iload (q := 54) X dX10_bare_52 rfl rfl ?_
                refine J_iload_n (q := 55) X dX10_bare_54 rfl rfl ?_
                refine J_icmp_lt (q := 58) (tgt := 77) X dX10_bare_55 (by decide) rfl (by omega) (by omega) (fun cq55 => ?_) (fun cq55 => ?_)
                · refine J_iconst (q := 78) X dX10_bare_77 rfl ?_
                  first
                    | exact jn78 _ (by rw [bI_t (show bre s.f s.n t ∧ ((w = 0 ∧ i ≤ t ∧ r = -4) ∨ (w = 1 ∧ t < i)) from ⟨cq45, by omega⟩)])
                    | exact jn78 _ (by rw [bI_f (fun z => by have z2 := z.2; omega)])
                    | exact jn78 _ (by rw [bI_f (fun z => cq45 z.1)])
                · refine J_iload_n (q := 59) X dX10_bare_58 rfl rfl ?_
                  refine J_bipush (q := 61) X dX10_bare_59 rfl (by decide) ?_
                  refine J_icmp_ne (q := 64) (tgt := 77) X dX10_bare_61 (by decide) rfl (by omega) (by omega) (fun cq61 => ?_) (fun cq61 => ?_)
                  · refine J_iconst (q := 78) X dX10_bare_77 rfl ?_
                    first
                      | exact jn78 _ (by rw [bI_t (show bre s.f s.n t ∧ ((w = 0 ∧ i ≤ t ∧ r = -4) ∨ (w = 1 ∧ t < i)) from ⟨cq45, by omega⟩)])
                      | exact jn78 _ (by rw [bI_f (fun z => by have z2 := z.2; omega)])
                      | exact jn78 _ (by rw [bI_f (fun z => cq45 z.1)])
                  · refine J_goto (q := 73) X dX10_bare_64 (by decide) ?_
                    refine J_iconst (q := 74) X dX10_bare_73 rfl ?_
                    refine J_goto (q := 78) X dX10_bare_74 (by decide) ?_
                    first
                      | exact jn78 _ (by rw [bI_t (show bre s.f s.n t ∧ ((w = 0 ∧ i ≤ t ∧ r = -4) ∨ (w = 1 ∧ t < i)) from ⟨cq45, by omega⟩)])
                      | exact jn78 _ (by rw [bI_f (fun z => by have z2 := z.2; omega)])
                      | exact jn78 _ (by rw [bI_f (fun z => cq45 z.1)])
      exact lp30 100 0 _ (by omega) (fun _ => Or.inl ⟨rfl, fun j a b => by omega⟩) (fun _ => by rw [if_pos (by omega)]; rfl) (by omega) (by omega)
    · refine J_iconst (q := 19) X dX10_bare_18 rfl ?_
      refine J_iret X R dX10_bare_19 ?_
      rw [hE0] at hF
      have hq : qBare s i w = -1 := (by unfold qBare; first | (rw [if_pos (by omega)]; done) | (rw [if_neg (by omega), if_neg (by omega), if_neg (by omega)]; done) | (by_cases hp : 0 ≤ i ∧ i ≤ s.n; (rw [if_neg (fun z => z hp), if_neg (by omega), if_neg (by omega)]); (rw [if_pos hp])))
      exact ⟨_, rfl, Eq.trans (rfl) hq.symm, ⟨_, _, _, _, _, _, _, _, _, _, _, _, _, _, _, _, _, _, _, _, _, _, hM, hS, hTp, hRs, hEn, hLe, hMa, hPa, hAl, hHe, hUn, hRe, hOt, hIk, hLa, hLn, hCe, hMR⟩, hF⟩

set_option maxRecDepth 100000 in
set_option maxHeartbeats 4000000 in
theorem c_X10_longest {l : Launch} {Γ : JG} {ad : Nat → Nat} {E : Nat → va_E} {s : KS} {w : Int} (hc : MI Γ ad E s) (hk : KV s) (hbw : -2147483648 ≤ w ∧ w < 2147483648) : JM l Γ yX10_longest cX10_longest 6 (some .int) 3 68 0 0 ad 95 E [.ref (ad 78), .int (jI w)] (pI (fun z E' => z = qLongest s w ∧ MI Γ ad E' s ∧ ∀ j : Nat, j < 78 → E' j = E j)) := by
  refine JM_intro (own := RX10) [some (.ref (ad 78)), some (.int (jI w)), none, none, none, none] rfl rfl rfl (Nat.le_of_ble_eq_true rfl) ?_
  intro Ω X R hin
  obtain ⟨E0, hE0⟩ : ∃ E0 : Nat → va_E, E0 = E := ⟨_, rfl⟩
  have hF : ∀ j : Nat, j < 78 → E j = E0 j := fun _ _ => by rw [hE0]
  obtain ⟨m2, m3, m4, m5, m6, m7, m8, m9, m10, m11, g, rs, ma, pa, al, he, un, re, ot, ln, lg, ce, hM, hS, hTp, hRs, hEn, hLe, hMa, hPa, hAl, hHe, hUn, hRe, hOt, hIk, hLa, hLn, hCe, hMR⟩ := id hc
  obtain ⟨hg, him, hrs, hun, hre, hsh⟩ := id hMR
  obtain ⟨hk0, hnow⟩ := id hk
  have hv := hk0.hv
  obtain ⟨hn, hvr⟩ := id hv
  obtain ⟨hgn, hgf⟩ := id hg
  have ho := hk0.ho
  have htb := hk0.htb
  obtain ⟨htl, -⟩ := id htb
  have hb := hk0.hb
  refine J_iload_n (q := 1) X dX10_longest_0 rfl rfl ?_
  refine J_i2l (q := 2) X dX10_longest_1 rfl (by omega) ?_
  refine J_lconst (q := 3) (v := 0) X dX10_longest_2 (by decide) rfl ?_
  refine J_lconst (q := 4) (v := 1) X dX10_longest_3 (by decide) rfl ?_
  refine J_callP (q := 7) (jrS X mX10_61 dX10_longest_4 (c_X10_in (by omega) (by omega) (by omega)) rfl rfl (Nat.le_of_ble_eq_true rfl) (by decide)) rfl ?_
  refine J_if_neB (q := 10) (tgt := 12) X dX10_longest_7 (by decide) rfl (fun cq7 => ?_) (fun cq7 => ?_)
  · refine J_aload_n (q := 13) X dX10_longest_12 rfl rfl ?_
    refine J_callV (q := 16) (jrV X mX10_198 dX10_longest_13 (c_X10_findsAll hM hS hPa hAl hHe hg hv) hM (by omega) rfl rfl rfl rfl (Nat.le_of_ble_eq_true rfl) (by decide)) rfl (fun Ew13 hpq13 => ?_)
    obtain ⟨paq13, alq13, heq13, kPa, kAl, kHe, hpaq13, halq13, hsq13⟩ := hpq13
    replace hPa := kPa
    replace hAl := kAl
    replace hHe := kHe
    have hpa := hpaq13
    have hal := halq13
    replace hM := (hsq13 78 (by omega)).trans hM
    replace hS := (hsq13 79 (by omega)).trans hS
    replace hTp := (hsq13 80 (by omega)).trans hTp
    replace hRs := (hsq13 81 (by omega)).trans hRs
    replace hEn := (hsq13 82 (by omega)).trans hEn
    replace hLe := (hsq13 83 (by omega)).trans hLe
    replace hMa := (hsq13 84 (by omega)).trans hMa
    replace hUn := (hsq13 88 (by omega)).trans hUn
    replace hRe := (hsq13 89 (by omega)).trans hRe
    replace hOt := (hsq13 90 (by omega)).trans hOt
    replace hIk := (hsq13 91 (by omega)).trans hIk
    replace hLa := (hsq13 92 (by omega)).trans hLa
    replace hLn := (hsq13 93 (by omega)).trans hLn
    replace hCe := (hsq13 94 (by omega)).trans hCe
    replace hF : ∀ j : Nat, j < 78 → Ew13 j = E0 j := fun j hj => (hsq13 j (by omega)).trans (hF j hj)
    refine J_iconst (q := 17) X dX10_longest_16 rfl ?_
    refine J_istore_n (q := 18) X dX10_longest_17 (by decide) rfl rfl ?_
    refine J_iconst (q := 19) X dX10_longest_18 rfl ?_
    refine J_istore_n (q := 20) X dX10_longest_19 (by decide) rfl rfl ?_
    refine J_iconst (q := 21) X dX10_longest_20 rfl ?_
    refine J_istore (q := 23) X dX10_longest_21 (by decide) rfl rfl ?_
    have lp23 : ∀ (m : Nat) (t : Int) (ht : 0 ≤ t ∧ t ≤ s.n) (hm : s.n - t + 1 ≤ (m : Int)), J l Γ Ω 6 ad 95 0 0 Ew13 23 [some (.ref (ad 78)), some (.int (jI w)), some (.int (jI ((lgF s.f s.n t.toNat).1))), some (.int (jI ((lgF s.f s.n t.toNat).2))), some (.int (jI t)), none] [] := by
      intro m
      induction m with
      | zero => intro t ht hm; exfalso; omega
      | succ m ih23 =>
        intro t ht hm
        have hlg := lg_bd (f := s.f) hn.1 t.toNat (by omega)
        have hwt := wt_bd (f := s.f) (n := s.n) (i := t) (by omega)
        have hnx := lgI_succ s.f s.n ht.1
        refine J_iload (q := 25) X dX10_longest_23 rfl rfl ?_
        refine J_aload_n (q := 26) X dX10_longest_25 rfl rfl ?_
        refine J_callP (q := 29) (jrV X mX10_165 dX10_longest_26 (c_X10_many hM hS hg hv) hM (by omega) rfl rfl rfl rfl (Nat.le_of_ble_eq_true rfl) (by decide)) rfl ?_
        refine J_icmp_ge (q := 32) (tgt := 75) X dX10_longest_29 (by decide) rfl (by omega) (by omega) (fun cq29 => ?_) (fun cq29 => ?_)
        · refine J_iload_n (q := 76) X dX10_longest_75 rfl rfl ?_
          refine J_if_ne (q := 79) (tgt := 83) X dX10_longest_76 (by decide) rfl (by omega) (fun cq76 => ?_) (fun cq76 => ?_)
          · refine J_iload_n (q := 84) X dX10_longest_83 rfl rfl ?_
            refine J_iret X R dX10_longest_84 ?_
            rw [hE0] at hF
            have etn : t = s.n := by omega
            have hlv := lg_val (f := s.f) (n := s.n) hn.1
            refine ⟨_, rfl, ?_, ⟨_, _, _, _, _, _, _, _, _, _, _, _, _, _, _, _, _, _, _, _, _, _, hM, hS, hTp, hRs, hEn, hLe, hMa, hPa, hAl, hHe, hUn, hRe, hOt, hIk, hLa, hLn, hCe, hMR⟩, hF⟩
            unfold qLongest
            rw [etn]
            first
              | (rw [if_neg (by omega), if_pos (by omega)]; done)
              | (rw [if_neg (by omega), if_neg (by omega)]; exact hlv)
          · refine J_iload_n (q := 80) X dX10_longest_79 rfl rfl ?_
            refine J_goto (q := 84) X dX10_longest_80 (by decide) ?_
            refine J_iret X R dX10_longest_84 ?_
            rw [hE0] at hF
            have etn : t = s.n := by omega
            have hlv := lg_val (f := s.f) (n := s.n) hn.1
            refine ⟨_, rfl, ?_, ⟨_, _, _, _, _, _, _, _, _, _, _, _, _, _, _, _, _, _, _, _, _, _, hM, hS, hTp, hRs, hEn, hLe, hMa, hPa, hAl, hHe, hUn, hRe, hOt, hIk, hLa, hLn, hCe, hMR⟩, hF⟩
            unfold qLongest
            rw [etn]
            first
              | (rw [if_neg (by omega), if_pos (by omega)]; done)
              | (rw [if_neg (by omega), if_neg (by omega)]; exact hlv)
        · refine J_aload_n (q := 33) X dX10_longest_32 rfl rfl ?_
          refine J_iload (q := 35) X dX10_longest_33 rfl rfl ?_
          refine J_callP (q := 38) (jrV X mX10_230 dX10_longest_35 (c_X10_wholeFrom hM hS hPa hg hv hpa (by omega)) hM (by omega) rfl rfl rfl rfl (Nat.le_of_ble_eq_true rfl) (by decide)) rfl ?_
          refine J_iload (q := 40) X dX10_longest_38 rfl rfl ?_
          refine J_isub (q := 41) X dX10_longest_40 rfl ?_
          refine J_istore (q := 43) X dX10_longest_41 (by decide) rfl rfl ?_
          refine J_iload (q := 45) X dX10_longest_43 rfl rfl ?_
          refine J_iload_n (q := 46) X dX10_longest_45 rfl rfl ?_
          refine J_icmp_le (q := 49) (tgt := 54) X dX10_longest_46 (by decide) rfl (by omega) (by omega) (fun cq46 => ?_) (fun cq46 => ?_)
          · refine J_iload_n (q := 55) X dX10_longest_54 rfl rfl ?_
            refine J_istore_n (q := 56) X dX10_longest_55 (by decide) rfl rfl ?_
            refine J_iload (q := 58) X dX10_longest_56 rfl rfl ?_
            refine J_iload_n (q := 59) X dX10_longest_58 rfl rfl ?_
            refine J_icmp_le (q := 62) (tgt := 67) X dX10_longest_59 (by decide) rfl (by omega) (by omega) (fun cq59 => ?_) (fun cq59 => ?_)
            · refine J_iload_n (q := 68) X dX10_longest_67 rfl rfl ?_
              refine J_istore_n (q := 69) X dX10_longest_68 (by decide) rfl rfl ?_
              refine J_iinc (q := 72) X dX10_longest_69 rfl (by decide) rfl rfl ?_
              refine J_goto (q := 23) X dX10_longest_72 (by decide) ?_
              refine J_kill 5 ?_
              have hx := ih23 (t + 1) (by omega) (by omega)
              rw [hnx] at hx
              first
                | (exfalso; omega)
                | (rw [if_neg (by omega)] at hx; exact hx)
                | (rw [if_pos (by omega)] at hx; exact hx)
            · refine J_iload (q := 64) X dX10_longest_62 rfl rfl ?_
              refine J_goto (q := 68) X dX10_longest_64 (by decide) ?_
              refine J_istore_n (q := 69) X dX10_longest_68 (by decide) rfl rfl ?_
              refine J_iinc (q := 72) X dX10_longest_69 rfl (by decide) rfl rfl ?_
              refine J_goto (q := 23) X dX10_longest_72 (by decide) ?_
              refine J_kill 5 ?_
              have hx := ih23 (t + 1) (by omega) (by omega)
              rw [hnx] at hx
              first
                | (exfalso; omega)
                | (rw [if_neg (by omega)] at hx; exact hx)
                | (rw [if_pos (by omega)] at hx; exact hx)
          · refine J_iload (q := 51) X dX10_longest_49 rfl rfl ?_
            refine J_goto (q := 55) X dX10_longest_51 (by decide) ?_
            refine J_istore_n (q := 56) X dX10_longest_55 (by decide) rfl rfl ?_
            refine J_iload (q := 58) X dX10_longest_56 rfl rfl ?_
            refine J_iload_n (q := 59) X dX10_longest_58 rfl rfl ?_
            refine J_icmp_le (q := 62) (tgt := 67) X dX10_longest_59 (by decide) rfl (by omega) (by omega) (fun cq59 => ?_) (fun cq59 => ?_)
            · refine J_iload_n (q := 68) X dX10_longest_67 rfl rfl ?_
              refine J_istore_n (q := 69) X dX10_longest_68 (by decide) rfl rfl ?_
              refine J_iinc (q := 72) X dX10_longest_69 rfl (by decide) rfl rfl ?_
              refine J_goto (q := 23) X dX10_longest_72 (by decide) ?_
              refine J_kill 5 ?_
              have hx := ih23 (t + 1) (by omega) (by omega)
              rw [hnx] at hx
              first
                | (exfalso; omega)
                | (rw [if_neg (by omega)] at hx; exact hx)
                | (rw [if_pos (by omega)] at hx; exact hx)
            · refine J_iload (q := 64) X dX10_longest_62 rfl rfl ?_
              refine J_goto (q := 68) X dX10_longest_64 (by decide) ?_
              refine J_istore_n (q := 69) X dX10_longest_68 (by decide) rfl rfl ?_
              refine J_iinc (q := 72) X dX10_longest_69 rfl (by decide) rfl rfl ?_
              refine J_goto (q := 23) X dX10_longest_72 (by decide) ?_
              refine J_kill 5 ?_
              have hx := ih23 (t + 1) (by omega) (by omega)
              rw [hnx] at hx
              first
                | (exfalso; omega)
                | (rw [if_neg (by omega)] at hx; exact hx)
                | (rw [if_pos (by omega)] at hx; exact hx)
    exact lp23 100 0 (by omega) (by omega)
  · refine J_iconst (q := 11) X dX10_longest_10 rfl ?_
    refine J_iret X R dX10_longest_11 ?_
    rw [hE0] at hF
    have hq : qLongest s w = -1 := (by unfold qLongest; repeat (first | (rw [if_pos (by omega)]; done) | (rw [if_neg (by omega)]; done) | rw [if_neg (by omega)]))
    exact ⟨_, rfl, Eq.trans (rfl) hq.symm, ⟨_, _, _, _, _, _, _, _, _, _, _, _, _, _, _, _, _, _, _, _, _, _, hM, hS, hTp, hRs, hEn, hLe, hMa, hPa, hAl, hHe, hUn, hRe, hOt, hIk, hLa, hLn, hCe, hMR⟩, hF⟩

set_option maxRecDepth 100000 in
set_option maxHeartbeats 4000000 in
theorem c_X10_count {l : Launch} {Γ : JG} {ad : Nat → Nat} {E : Nat → va_E} {s : KS} {w : Int} (hc : MI Γ ad E s) (hk : KV s) (hbw : -2147483648 ≤ w ∧ w < 2147483648) : JM l Γ yX10_count cX10_count 5 (some .int) 1 21 0 0 ad 95 E [.ref (ad 78), .int (jI w)] (pI (fun z E' => z = qCount s w ∧ MI Γ ad E' s ∧ ∀ j : Nat, j < 78 → E' j = E j)) := by
  refine JM_intro (own := RX10) [some (.ref (ad 78)), some (.int (jI w)), none, none, none] rfl rfl rfl (Nat.le_of_ble_eq_true rfl) ?_
  intro Ω X R hin
  obtain ⟨E0, hE0⟩ : ∃ E0 : Nat → va_E, E0 = E := ⟨_, rfl⟩
  have hF : ∀ j : Nat, j < 78 → E j = E0 j := fun _ _ => by rw [hE0]
  obtain ⟨m2, m3, m4, m5, m6, m7, m8, m9, m10, m11, g, rs, ma, pa, al, he, un, re, ot, ln, lg, ce, hM, hS, hTp, hRs, hEn, hLe, hMa, hPa, hAl, hHe, hUn, hRe, hOt, hIk, hLa, hLn, hCe, hMR⟩ := id hc
  obtain ⟨hg, him, hrs, hun, hre, hsh⟩ := id hMR
  obtain ⟨hk0, hnow⟩ := id hk
  have hv := hk0.hv
  obtain ⟨hn, hvr⟩ := id hv
  obtain ⟨hgn, hgf⟩ := id hg
  have ho := hk0.ho
  have htb := hk0.htb
  obtain ⟨htl, -⟩ := id htb
  have hb := hk0.hb
  have hkp0 := hk0.hkp 0 (by omega) (by omega)
  have hkp1 := hk0.hkp 1 (by omega) (by omega)
  have hs0 : (s.th 0 = 0 → ln 0 = -4) ∧ (s.th 0 ≠ 0 → ln 0 = s.la 0 ∧ lg 0 = s.sn 0 ∧ ∀ j, 0 ≤ j → j < s.sn 0 → ce (40 * 0 + j) = s.sf 0 j) := hsh 0 (by omega) (by omega)
  have hss := hk0.hs 0 (by omega)
  have hl0 : -4 ≤ ln 0 ∧ ln 0 ≤ 2 := by
    by_cases h0 : s.th 0 = 0
    · have := hs0.1 h0; omega
    · have := (hs0.2 h0).1; have := hss.2.1; omega
  refine J_iconst (q := 1) X dX10_count_0 rfl ?_
  refine J_istore_n (q := 2) X dX10_count_1 (by decide) rfl rfl ?_
  refine J_iconst (q := 3) X dX10_count_2 rfl ?_
  refine J_istore_n (q := 4) X dX10_count_3 (by decide) rfl rfl ?_
  refine J_iconst (q := 5) X dX10_count_4 rfl ?_
  refine J_istore (q := 7) X dX10_count_5 (by decide) rfl rfl ?_
  have lp7 : ∀ (m : Nat) (t : Int) (ht : 0 ≤ t ∧ t ≤ s.n) (hm : s.n - t + 1 ≤ (m : Int)), J l Γ Ω 5 ad 95 0 0 E 7 [some (.ref (ad 78)), some (.int (jI w)), some (.int (jI (smI (fun j => bI (opn (s.f j % 128))) t))), some (.int (jI (smI (fun j => bI (clo (s.f j % 128))) t))), some (.int (jI t))] [] := by
    intro m
    induction m with
    | zero => intro t ht hm; exfalso; omega
    | succ m ih7 =>
      intro t ht hm
      refine J_iload (q := 9) X dX10_count_7 rfl rfl ?_
      refine J_aload_n (q := 10) X dX10_count_9 rfl rfl ?_
      refine J_callP (q := 13) (jrV X mX10_165 dX10_count_10 (c_X10_many hM hS hg hv) hM (by omega) rfl rfl rfl rfl (Nat.le_of_ble_eq_true rfl) (by decide)) rfl ?_
      refine J_icmp_ge (q := 16) (tgt := 62) X dX10_count_13 (by decide) rfl (by omega) (by omega) (fun cq13 => ?_) (fun cq13 => ?_)
      · refine J_iload_n (q := 63) X dX10_count_62 rfl rfl ?_
        rcases (show (w < 0 ∨ 4 < w) ∨ w = 0 ∨ w = 1 ∨ w = 2 ∨ w = 3 ∨ w = 4 by omega) with hsw | hsw | hsw | hsw | hsw | hsw
        · refine J_tableOut (tgt := 158) X dX10_count_63 (by omega) hsw (by decide) ?_
          refine J_iconst (q := 159) X dX10_count_158 rfl ?_
          refine J_iret X R dX10_count_159 ?_
          rw [hE0] at hF
          have hq : qCount s w = -1 := (by unfold qCount; repeat (first | (rw [if_pos (by omega)]; done) | (rw [if_neg (by omega)]; done) | rw [if_neg (by omega)]))
          exact ⟨_, rfl, Eq.trans (rfl) hq.symm, ⟨_, _, _, _, _, _, _, _, _, _, _, _, _, _, _, _, _, _, _, _, _, _, hM, hS, hTp, hRs, hEn, hLe, hMa, hPa, hAl, hHe, hUn, hRe, hOt, hIk, hLa, hLn, hCe, hMR⟩, hF⟩
        · refine J_tableIn (tgt := 96) (v := 0) (off := 33) X dX10_count_63 hsw (by decide) rfl (by decide) ?_
          refine J_aload_n (q := 97) X dX10_count_96 rfl rfl ?_
          refine J_get (q := 100) X dX10_count_97 fX10_46 hM (by omega) rfl rfl ?_
          refine J_iconst (q := 101) X dX10_count_100 rfl ?_
          refine J_zald (q := 102) X dX10_count_101 hIk (by omega) (by omega) (by decide) rfl ?_
          refine J_if_eq (q := 105) (tgt := 109) X dX10_count_102 (by decide) rfl (by omega) (fun cq102 => ?_) (fun cq102 => ?_)
          · refine J_iconst (q := 110) X dX10_count_109 rfl ?_
            refine J_aload_n (q := 111) X dX10_count_110 rfl rfl ?_
            refine J_get (q := 114) X dX10_count_111 fX10_46 hM (by omega) rfl rfl ?_
            refine J_iconst (q := 115) X dX10_count_114 rfl ?_
            refine J_zald (q := 116) X dX10_count_115 hIk (by omega) (by omega) (by decide) rfl ?_
            refine J_if_eq (q := 119) (tgt := 123) X dX10_count_116 (by decide) rfl (by omega) (fun cq116 => ?_) (fun cq116 => ?_)
            · refine J_iconst (q := 124) X dX10_count_123 rfl ?_
              refine J_iadd (q := 125) X dX10_count_124 rfl ?_
              refine J_iret X R dX10_count_125 ?_
              rw [hE0] at hF
              have hq : qCount s w = s.kp 0 + s.kp 1 := (by unfold qCount; repeat (first | (rw [if_pos (by omega)]; done) | (rw [if_neg (by omega)]; done) | rw [if_neg (by omega)]))
              exact ⟨_, rfl, Eq.trans (by omega) hq.symm, ⟨_, _, _, _, _, _, _, _, _, _, _, _, _, _, _, _, _, _, _, _, _, _, hM, hS, hTp, hRs, hEn, hLe, hMa, hPa, hAl, hHe, hUn, hRe, hOt, hIk, hLa, hLn, hCe, hMR⟩, hF⟩
            · refine J_iconst (q := 120) X dX10_count_119 rfl ?_
              refine J_goto (q := 124) X dX10_count_120 (by decide) ?_
              refine J_iadd (q := 125) X dX10_count_124 rfl ?_
              refine J_iret X R dX10_count_125 ?_
              rw [hE0] at hF
              have hq : qCount s w = s.kp 0 + s.kp 1 := (by unfold qCount; repeat (first | (rw [if_pos (by omega)]; done) | (rw [if_neg (by omega)]; done) | rw [if_neg (by omega)]))
              exact ⟨_, rfl, Eq.trans (by omega) hq.symm, ⟨_, _, _, _, _, _, _, _, _, _, _, _, _, _, _, _, _, _, _, _, _, _, hM, hS, hTp, hRs, hEn, hLe, hMa, hPa, hAl, hHe, hUn, hRe, hOt, hIk, hLa, hLn, hCe, hMR⟩, hF⟩
          · refine J_iconst (q := 106) X dX10_count_105 rfl ?_
            refine J_goto (q := 110) X dX10_count_106 (by decide) ?_
            refine J_aload_n (q := 111) X dX10_count_110 rfl rfl ?_
            refine J_get (q := 114) X dX10_count_111 fX10_46 hM (by omega) rfl rfl ?_
            refine J_iconst (q := 115) X dX10_count_114 rfl ?_
            refine J_zald (q := 116) X dX10_count_115 hIk (by omega) (by omega) (by decide) rfl ?_
            refine J_if_eq (q := 119) (tgt := 123) X dX10_count_116 (by decide) rfl (by omega) (fun cq116 => ?_) (fun cq116 => ?_)
            · refine J_iconst (q := 124) X dX10_count_123 rfl ?_
              refine J_iadd (q := 125) X dX10_count_124 rfl ?_
              refine J_iret X R dX10_count_125 ?_
              rw [hE0] at hF
              have hq : qCount s w = s.kp 0 + s.kp 1 := (by unfold qCount; repeat (first | (rw [if_pos (by omega)]; done) | (rw [if_neg (by omega)]; done) | rw [if_neg (by omega)]))
              exact ⟨_, rfl, Eq.trans (by omega) hq.symm, ⟨_, _, _, _, _, _, _, _, _, _, _, _, _, _, _, _, _, _, _, _, _, _, hM, hS, hTp, hRs, hEn, hLe, hMa, hPa, hAl, hHe, hUn, hRe, hOt, hIk, hLa, hLn, hCe, hMR⟩, hF⟩
            · refine J_iconst (q := 120) X dX10_count_119 rfl ?_
              refine J_goto (q := 124) X dX10_count_120 (by decide) ?_
              refine J_iadd (q := 125) X dX10_count_124 rfl ?_
              refine J_iret X R dX10_count_125 ?_
              rw [hE0] at hF
              have hq : qCount s w = s.kp 0 + s.kp 1 := (by unfold qCount; repeat (first | (rw [if_pos (by omega)]; done) | (rw [if_neg (by omega)]; done) | rw [if_neg (by omega)]))
              exact ⟨_, rfl, Eq.trans (by omega) hq.symm, ⟨_, _, _, _, _, _, _, _, _, _, _, _, _, _, _, _, _, _, _, _, _, _, hM, hS, hTp, hRs, hEn, hLe, hMa, hPa, hAl, hHe, hUn, hRe, hOt, hIk, hLa, hLn, hCe, hMR⟩, hF⟩
        · refine J_tableIn (tgt := 126) (v := 1) (off := 63) X dX10_count_63 hsw (by decide) rfl (by decide) ?_
          refine J_aload_n (q := 127) X dX10_count_126 rfl rfl ?_
          refine J_get (q := 130) X dX10_count_127 fX10_65 hM (by omega) rfl rfl ?_
          refine J_iret X R dX10_count_130 ?_
          rw [hE0] at hF
          have hq : qCount s w = s.tl := (by unfold qCount; repeat (first | (rw [if_pos (by omega)]; done) | (rw [if_neg (by omega)]; done) | rw [if_neg (by omega)]))
          exact ⟨_, rfl, Eq.trans (rfl) hq.symm, ⟨_, _, _, _, _, _, _, _, _, _, _, _, _, _, _, _, _, _, _, _, _, _, hM, hS, hTp, hRs, hEn, hLe, hMa, hPa, hAl, hHe, hUn, hRe, hOt, hIk, hLa, hLn, hCe, hMR⟩, hF⟩
        · refine J_tableIn (tgt := 131) (v := 2) (off := 68) X dX10_count_63 hsw (by decide) rfl (by decide) ?_
          refine J_aload_n (q := 132) X dX10_count_131 rfl rfl ?_
          refine J_get (q := 135) X dX10_count_132 fX10_50 hM (by omega) rfl rfl ?_
          refine J_iconst (q := 136) X dX10_count_135 rfl ?_
          refine J_iald (q := 137) X dX10_count_136 hLa (by omega) (by omega) (by decide) rfl ?_
          refine J_bipush (q := 139) X dX10_count_137 rfl (by decide) ?_
          refine J_icmp_ne (q := 142) (tgt := 147) X dX10_count_139 (by decide) rfl (by omega) (by omega) (fun cq139 => ?_) (fun cq139 => ?_)
          · refine J_aload_n (q := 148) X dX10_count_147 rfl rfl ?_
            refine J_get (q := 151) X dX10_count_148 fX10_53 hM (by omega) rfl rfl ?_
            refine J_iconst (q := 152) X dX10_count_151 rfl ?_
            refine J_iald (q := 153) X dX10_count_152 hLn (by omega) (by omega) (by decide) rfl ?_
            refine J_iret X R dX10_count_153 ?_
            rw [hE0] at hF
            by_cases h0 : s.th 0 = 0
            · have hx1 := hs0.1 h0
              have hq : qCount s w = -4 := (by unfold qCount; rw [if_neg (by omega), if_neg (by omega), if_pos (by omega), if_pos h0])
              first | (exfalso; omega) | exact ⟨_, rfl, hq.symm, ⟨_, _, _, _, _, _, _, _, _, _, _, _, _, _, _, _, _, _, _, _, _, _, hM, hS, hTp, hRs, hEn, hLe, hMa, hPa, hAl, hHe, hUn, hRe, hOt, hIk, hLa, hLn, hCe, hMR⟩, hF⟩
            · have hx2 := hs0.2 h0
              have hx3 := hx2.1
              have hx4 := hss.2.1
              have hq : qCount s w = s.sn 0 := (by unfold qCount; rw [if_neg (by omega), if_neg (by omega), if_pos (by omega), if_neg h0])
              first | (exfalso; omega) | exact ⟨_, rfl, hx2.2.1.trans hq.symm, ⟨_, _, _, _, _, _, _, _, _, _, _, _, _, _, _, _, _, _, _, _, _, _, hM, hS, hTp, hRs, hEn, hLe, hMa, hPa, hAl, hHe, hUn, hRe, hOt, hIk, hLa, hLn, hCe, hMR⟩, hF⟩
          · refine J_bipush (q := 144) X dX10_count_142 rfl (by decide) ?_
            refine J_goto (q := 153) X dX10_count_144 (by decide) ?_
            refine J_iret X R dX10_count_153 ?_
            rw [hE0] at hF
            by_cases h0 : s.th 0 = 0
            · have hx1 := hs0.1 h0
              have hq : qCount s w = -4 := (by unfold qCount; rw [if_neg (by omega), if_neg (by omega), if_pos (by omega), if_pos h0])
              first | (exfalso; omega) | exact ⟨_, rfl, hq.symm, ⟨_, _, _, _, _, _, _, _, _, _, _, _, _, _, _, _, _, _, _, _, _, _, hM, hS, hTp, hRs, hEn, hLe, hMa, hPa, hAl, hHe, hUn, hRe, hOt, hIk, hLa, hLn, hCe, hMR⟩, hF⟩
            · have hx2 := hs0.2 h0
              have hx3 := hx2.1
              have hx4 := hss.2.1
              have hq : qCount s w = s.sn 0 := (by unfold qCount; rw [if_neg (by omega), if_neg (by omega), if_pos (by omega), if_neg h0])
              first | (exfalso; omega) | exact ⟨_, rfl, hx2.2.1.trans hq.symm, ⟨_, _, _, _, _, _, _, _, _, _, _, _, _, _, _, _, _, _, _, _, _, _, hM, hS, hTp, hRs, hEn, hLe, hMa, hPa, hAl, hHe, hUn, hRe, hOt, hIk, hLa, hLn, hCe, hMR⟩, hF⟩
        · refine J_tableIn (tgt := 154) (v := 3) (off := 91) X dX10_count_63 hsw (by decide) rfl (by decide) ?_
          refine J_iload_n (q := 155) X dX10_count_154 rfl rfl ?_
          refine J_iret X R dX10_count_155 ?_
          rw [hE0] at hF
          have hq : qCount s w = smI (fun j => bI (opn (s.f j % 128))) s.n := (by unfold qCount; repeat (first | (rw [if_pos (by omega)]; done) | (rw [if_neg (by omega)]; done) | rw [if_neg (by omega)]))
          exact ⟨_, rfl, Eq.trans (by rw [show t = s.n by omega]) hq.symm, ⟨_, _, _, _, _, _, _, _, _, _, _, _, _, _, _, _, _, _, _, _, _, _, hM, hS, hTp, hRs, hEn, hLe, hMa, hPa, hAl, hHe, hUn, hRe, hOt, hIk, hLa, hLn, hCe, hMR⟩, hF⟩
        · refine J_tableIn (tgt := 156) (v := 4) (off := 93) X dX10_count_63 hsw (by decide) rfl (by decide) ?_
          refine J_iload_n (q := 157) X dX10_count_156 rfl rfl ?_
          refine J_iret X R dX10_count_157 ?_
          rw [hE0] at hF
          have hq : qCount s w = smI (fun j => bI (clo (s.f j % 128))) s.n := (by unfold qCount; repeat (first | (rw [if_pos (by omega)]; done) | (rw [if_neg (by omega)]; done) | rw [if_neg (by omega)]))
          exact ⟨_, rfl, Eq.trans (by rw [show t = s.n by omega]) hq.symm, ⟨_, _, _, _, _, _, _, _, _, _, _, _, _, _, _, _, _, _, _, _, _, _, hM, hS, hTp, hRs, hEn, hLe, hMa, hPa, hAl, hHe, hUn, hRe, hOt, hIk, hLa, hLn, hCe, hMR⟩, hF⟩
      · refine J_iload_n (q := 17) X dX10_count_16 rfl rfl ?_
        refine J_aload_n (q := 18) X dX10_count_17 rfl rfl ?_
        refine J_iload (q := 20) X dX10_count_18 rfl rfl ?_
        refine J_callP (q := 23) (jrV X mX10_170 dX10_count_20 (c_X10_signAt hM hS hg hv (by omega)) hM (by omega) rfl rfl rfl rfl (Nat.le_of_ble_eq_true rfl) (by decide)) rfl ?_
        refine J_callP (q := 26) (jrS X mX10_142 dX10_count_23 (c_X10_isOpen (by omega)) rfl rfl (Nat.le_of_ble_eq_true rfl) (by decide)) rfl ?_
        refine J_if_eqB (q := 29) (tgt := 33) X dX10_count_26 (by decide) rfl (fun cq26 => ?_) (fun cq26 => ?_)
        · refine J_iconst (q := 34) X dX10_count_33 rfl ?_
          refine J_iadd (q := 35) X dX10_count_34 rfl ?_
          refine J_istore_n (q := 36) X dX10_count_35 (by decide) rfl rfl ?_
          refine J_iload_n (q := 37) X dX10_count_36 rfl rfl ?_
          refine J_aload_n (q := 38) X dX10_count_37 rfl rfl ?_
          refine J_iload (q := 40) X dX10_count_38 rfl rfl ?_
          refine J_callP (q := 43) (jrV X mX10_170 dX10_count_40 (c_X10_signAt hM hS hg hv (by omega)) hM (by omega) rfl rfl rfl rfl (Nat.le_of_ble_eq_true rfl) (by decide)) rfl ?_
          refine J_callP (q := 46) (jrS X mX10_186 dX10_count_43 (c_X10_isClose (by omega)) rfl rfl (Nat.le_of_ble_eq_true rfl) (by decide)) rfl ?_
          refine J_if_eqB (q := 49) (tgt := 53) X dX10_count_46 (by decide) rfl (fun cq46 => ?_) (fun cq46 => ?_)
          · refine J_iconst (q := 54) X dX10_count_53 rfl ?_
            refine J_iadd (q := 55) X dX10_count_54 rfl ?_
            refine J_istore_n (q := 56) X dX10_count_55 (by decide) rfl rfl ?_
            refine J_iinc (q := 59) X dX10_count_56 rfl (by decide) rfl rfl ?_
            refine J_goto (q := 7) X dX10_count_59 (by decide) ?_
            have hx := ih7 (t + 1) (by omega) (by omega)
            rw [smI_succ (fun j => bI (opn (s.f j % 128))) ht.1, smI_succ (fun j => bI (clo (s.f j % 128))) ht.1] at hx
            first
              | (rw [bI_t cq26, bI_t cq46] at hx; exact hx)
              | (rw [bI_t cq26, bI_f cq46] at hx; exact hx)
              | (rw [bI_f cq26, bI_t cq46] at hx; exact hx)
              | (rw [bI_f cq26, bI_f cq46] at hx; exact hx)
          · refine J_iconst (q := 50) X dX10_count_49 rfl ?_
            refine J_goto (q := 54) X dX10_count_50 (by decide) ?_
            refine J_iadd (q := 55) X dX10_count_54 rfl ?_
            refine J_istore_n (q := 56) X dX10_count_55 (by decide) rfl rfl ?_
            refine J_iinc (q := 59) X dX10_count_56 rfl (by decide) rfl rfl ?_
            refine J_goto (q := 7) X dX10_count_59 (by decide) ?_
            have hx := ih7 (t + 1) (by omega) (by omega)
            rw [smI_succ (fun j => bI (opn (s.f j % 128))) ht.1, smI_succ (fun j => bI (clo (s.f j % 128))) ht.1] at hx
            first
              | (rw [bI_t cq26, bI_t cq46] at hx; exact hx)
              | (rw [bI_t cq26, bI_f cq46] at hx; exact hx)
              | (rw [bI_f cq26, bI_t cq46] at hx; exact hx)
              | (rw [bI_f cq26, bI_f cq46] at hx; exact hx)
        · refine J_iconst (q := 30) X dX10_count_29 rfl ?_
          refine J_goto (q := 34) X dX10_count_30 (by decide) ?_
          refine J_iadd (q := 35) X dX10_count_34 rfl ?_
          refine J_istore_n (q := 36) X dX10_count_35 (by decide) rfl rfl ?_
          refine J_iload_n (q := 37) X dX10_count_36 rfl rfl ?_
          refine J_aload_n (q := 38) X dX10_count_37 rfl rfl ?_
          refine J_iload (q := 40) X dX10_count_38 rfl rfl ?_
          refine J_callP (q := 43) (jrV X mX10_170 dX10_count_40 (c_X10_signAt hM hS hg hv (by omega)) hM (by omega) rfl rfl rfl rfl (Nat.le_of_ble_eq_true rfl) (by decide)) rfl ?_
          refine J_callP (q := 46) (jrS X mX10_186 dX10_count_43 (c_X10_isClose (by omega)) rfl rfl (Nat.le_of_ble_eq_true rfl) (by decide)) rfl ?_
          refine J_if_eqB (q := 49) (tgt := 53) X dX10_count_46 (by decide) rfl (fun cq46 => ?_) (fun cq46 => ?_)
          · refine J_iconst (q := 54) X dX10_count_53 rfl ?_
            refine J_iadd (q := 55) X dX10_count_54 rfl ?_
            refine J_istore_n (q := 56) X dX10_count_55 (by decide) rfl rfl ?_
            refine J_iinc (q := 59) X dX10_count_56 rfl (by decide) rfl rfl ?_
            refine J_goto (q := 7) X dX10_count_59 (by decide) ?_
            have hx := ih7 (t + 1) (by omega) (by omega)
            rw [smI_succ (fun j => bI (opn (s.f j % 128))) ht.1, smI_succ (fun j => bI (clo (s.f j % 128))) ht.1] at hx
            first
              | (rw [bI_t cq26, bI_t cq46] at hx; exact hx)
              | (rw [bI_t cq26, bI_f cq46] at hx; exact hx)
              | (rw [bI_f cq26, bI_t cq46] at hx; exact hx)
              | (rw [bI_f cq26, bI_f cq46] at hx; exact hx)
          · refine J_iconst (q := 50) X dX10_count_49 rfl ?_
            refine J_goto (q := 54) X dX10_count_50 (by decide) ?_
            refine J_iadd (q := 55) X dX10_count_54 rfl ?_
            refine J_istore_n (q := 56) X dX10_count_55 (by decide) rfl rfl ?_
            refine J_iinc (q := 59) X dX10_count_56 rfl (by decide) rfl rfl ?_
            refine J_goto (q := 7) X dX10_count_59 (by decide) ?_
            have hx := ih7 (t + 1) (by omega) (by omega)
            rw [smI_succ (fun j => bI (opn (s.f j % 128))) ht.1, smI_succ (fun j => bI (clo (s.f j % 128))) ht.1] at hx
            first
              | (rw [bI_t cq26, bI_t cq46] at hx; exact hx)
              | (rw [bI_t cq26, bI_f cq46] at hx; exact hx)
              | (rw [bI_f cq26, bI_t cq46] at hx; exact hx)
              | (rw [bI_f cq26, bI_f cq46] at hx; exact hx)
  exact lp7 100 0 (by omega) (by omega)

set_option maxRecDepth 100000 in
set_option maxHeartbeats 4000000 in
theorem c_X10_feed {l : Launch} {Γ : JG} {ad : Nat → Nat} {E : Nat → va_E} {s : KS} {c : Int} (hc : MI Γ ad E s) (hk : KV s) (hbc : -2147483648 ≤ c ∧ c < 2147483648) : JM l Γ yX10_feed cX10_feed 2 (some .int) 1 25 0 0 ad 95 E [.ref (ad 78), .int (jI c)] (pI (fun z E' => z = (qFeed s c).1 ∧ MI Γ ad E' (qFeed s c).2 ∧ ∀ j : Nat, j < 78 → E' j = E j)) := by
  refine JM_intro (own := RX10) [some (.ref (ad 78)), some (.int (jI c))] rfl rfl rfl (Nat.le_of_ble_eq_true rfl) ?_
  intro Ω X R hin
  obtain ⟨E0, hE0⟩ : ∃ E0 : Nat → va_E, E0 = E := ⟨_, rfl⟩
  have hF : ∀ j : Nat, j < 78 → E j = E0 j := fun _ _ => by rw [hE0]
  obtain ⟨m2, m3, m4, m5, m6, m7, m8, m9, m10, m11, g, rs, ma, pa, al, he, un, re, ot, ln, lg, ce, hM, hS, hTp, hRs, hEn, hLe, hMa, hPa, hAl, hHe, hUn, hRe, hOt, hIk, hLa, hLn, hCe, hMR⟩ := id hc
  obtain ⟨hg, him, hrs, hun, hre, hsh⟩ := id hMR
  obtain ⟨hk0, hnow⟩ := id hk
  have hv := hk0.hv
  obtain ⟨hn, hvr⟩ := id hv
  obtain ⟨hgn, hgf⟩ := id hg
  have ho := hk0.ho
  have htb := hk0.htb
  obtain ⟨htl, -⟩ := id htb
  have hb := hk0.hb
  refine J_iload_n (q := 1) X dX10_feed_0 rfl rfl ?_
  refine J_i2l (q := 2) X dX10_feed_1 rfl (by omega) ?_
  refine J_lconst (q := 3) (v := 0) X dX10_feed_2 (by decide) rfl ?_
  refine J_ldc2 (q := 6) X dX10_feed_3 kX10_59 rfl ?_
  refine J_callP (q := 9) (jrS X mX10_61 dX10_feed_6 (c_X10_in (by omega) (by omega) (by omega)) rfl rfl (Nat.le_of_ble_eq_true rfl) (by decide)) rfl ?_
  refine J_if_neB (q := 12) (tgt := 14) X dX10_feed_9 (by decide) rfl (fun cq9 => ?_) (fun cq9 => ?_)
  · refine J_aload_n (q := 15) X dX10_feed_14 rfl rfl ?_
    refine J_get (q := 18) X dX10_feed_15 fX10_65 hM (by omega) rfl rfl ?_
    refine J_sipush (q := 21) X dX10_feed_18 rfl (by decide) ?_
    refine J_icmp_ne (q := 24) (tgt := 27) X dX10_feed_21 (by decide) rfl (by omega) (by omega) (fun cq21 => ?_) (fun cq21 => ?_)
    · refine J_aload_n (q := 28) X dX10_feed_27 rfl rfl ?_
      refine J_get (q := 31) X dX10_feed_28 fX10_13 hM (by omega) rfl rfl ?_
      refine J_aload_n (q := 32) X dX10_feed_31 rfl rfl ?_
      refine J_get (q := 35) X dX10_feed_32 fX10_65 hM (by omega) rfl rfl ?_
      refine J_iload_n (q := 36) X dX10_feed_35 rfl rfl ?_
      refine J_iast (q := 37) X dX10_feed_36 hTp (by omega) (by omega) (by decide) rfl (fun Ew36 hkq36 hsq36 => ?_)
      replace hTp := hkq36
      replace hM := (hsq36 78 (by omega)).trans hM
      replace hS := (hsq36 79 (by omega)).trans hS
      replace hRs := (hsq36 81 (by omega)).trans hRs
      replace hEn := (hsq36 82 (by omega)).trans hEn
      replace hLe := (hsq36 83 (by omega)).trans hLe
      replace hMa := (hsq36 84 (by omega)).trans hMa
      replace hPa := (hsq36 85 (by omega)).trans hPa
      replace hAl := (hsq36 86 (by omega)).trans hAl
      replace hHe := (hsq36 87 (by omega)).trans hHe
      replace hUn := (hsq36 88 (by omega)).trans hUn
      replace hRe := (hsq36 89 (by omega)).trans hRe
      replace hOt := (hsq36 90 (by omega)).trans hOt
      replace hIk := (hsq36 91 (by omega)).trans hIk
      replace hLa := (hsq36 92 (by omega)).trans hLa
      replace hLn := (hsq36 93 (by omega)).trans hLn
      replace hCe := (hsq36 94 (by omega)).trans hCe
      replace hF : ∀ j : Nat, j < 78 → Ew36 j = E0 j := fun j hj => (hsq36 j (by omega)).trans (hF j hj)
      refine J_aload_n (q := 38) X dX10_feed_37 rfl rfl ?_
      refine J_dup (q := 39) X dX10_feed_38 rfl rfl ?_
      refine J_get (q := 42) X dX10_feed_39 fX10_65 hM (by omega) rfl rfl ?_
      refine J_iconst (q := 43) X dX10_feed_42 rfl ?_
      refine J_iadd (q := 44) X dX10_feed_43 rfl ?_
      refine J_put (q := 47) (ty := .int) X dX10_feed_44 fX10_65 rfl (by decide +kernel) rfl rfl hM (by omega) (Nat.le_of_ble_eq_true rfl) rfl (fun Ew44 hkq44 hsq44 => ?_)
      replace hM : Ew44 78 = .inr (9, [.ref (ad 79), .ref (ad 80), .int (jI _), .int (jI _), .int (jI _), .int (jI _), .int (jI _), .int (jI _), .int (jI _), .int (jI _), .int (jI _), .int (jI _), .int (jI _), .int (jI _), .ref (ad 81), .ref (ad 82), .ref (ad 83), .ref (ad 84), .ref (ad 85), .ref (ad 86), .ref (ad 87), .ref (ad 88), .ref (ad 89), .int (jI _), .int (jI _), .ref (ad 90), .ref (ad 91), .ref (ad 92), .ref (ad 93), .ref (ad 94), .int (jI _)]) := hkq44
      replace hS := (hsq44 79 (by omega)).trans hS
      replace hTp := (hsq44 80 (by omega)).trans hTp
      replace hRs := (hsq44 81 (by omega)).trans hRs
      replace hEn := (hsq44 82 (by omega)).trans hEn
      replace hLe := (hsq44 83 (by omega)).trans hLe
      replace hMa := (hsq44 84 (by omega)).trans hMa
      replace hPa := (hsq44 85 (by omega)).trans hPa
      replace hAl := (hsq44 86 (by omega)).trans hAl
      replace hHe := (hsq44 87 (by omega)).trans hHe
      replace hUn := (hsq44 88 (by omega)).trans hUn
      replace hRe := (hsq44 89 (by omega)).trans hRe
      replace hOt := (hsq44 90 (by omega)).trans hOt
      replace hIk := (hsq44 91 (by omega)).trans hIk
      replace hLa := (hsq44 92 (by omega)).trans hLa
      replace hLn := (hsq44 93 (by omega)).trans hLn
      replace hCe := (hsq44 94 (by omega)).trans hCe
      replace hF : ∀ j : Nat, j < 78 → Ew44 j = E0 j := fun j hj => (hsq44 j (by omega)).trans (hF j hj)
      refine J_aload_n (q := 48) X dX10_feed_47 rfl rfl ?_
      refine J_get (q := 51) X dX10_feed_48 fX10_65 hM (by omega) rfl rfl ?_
      refine J_iret X R dX10_feed_51 ?_
      rw [hE0] at hF
      have hq : qFeed s c = (s.tl + 1, s.tape (s.tl + 1) (iu s.tb s.tl c)) := (by unfold qFeed; rw [if_neg (by omega), if_neg (by omega)])
      rw [hq]
      exact ⟨_, rfl, rfl, ⟨_, _, _, _, _, _, _, _, _, _, _, _, _, _, _, _, _, _, _, _, _, _, hM, hS, hTp, hRs, hEn, hLe, hMa, hPa, hAl, hHe, hUn, hRe, hOt, hIk, hLa, hLn, hCe, hMR⟩, hF⟩
    · refine J_bipush (q := 26) X dX10_feed_24 rfl (by decide) ?_
      refine J_iret X R dX10_feed_26 ?_
      rw [hE0] at hF
      have hq : qFeed s c = (-3, s) := (by unfold qFeed; rw [if_neg (by omega), if_pos (by omega)])
      rw [hq]
      exact ⟨_, rfl, rfl, ⟨_, _, _, _, _, _, _, _, _, _, _, _, _, _, _, _, _, _, _, _, _, _, hM, hS, hTp, hRs, hEn, hLe, hMa, hPa, hAl, hHe, hUn, hRe, hOt, hIk, hLa, hLn, hCe, hMR⟩, hF⟩
  · refine J_iconst (q := 13) X dX10_feed_12 rfl ?_
    refine J_iret X R dX10_feed_13 ?_
    rw [hE0] at hF
    have hq : qFeed s c = (-1, s) := (by unfold qFeed; rw [if_pos (by omega)])
    rw [hq]
    exact ⟨_, rfl, rfl, ⟨_, _, _, _, _, _, _, _, _, _, _, _, _, _, _, _, _, _, _, _, _, _, hM, hS, hTp, hRs, hEn, hLe, hMa, hPa, hAl, hHe, hUn, hRe, hOt, hIk, hLa, hLn, hCe, hMR⟩, hF⟩

set_option maxRecDepth 100000 in
set_option maxHeartbeats 4000000 in
theorem c_X10_end {l : Launch} {Γ : JG} {ad : Nat → Nat} {E : Nat → va_E} {s : KS} {c : Int} (hc : MI Γ ad E s) (hk : KV s) (hbc : -2147483648 ≤ c ∧ c < 2147483648) : JM l Γ yX10_end cX10_end 3 (some .int) 1 25 0 0 ad 95 E [.ref (ad 78), .int (jI c)] (pI (fun z E' => z = (qEnd s c).1 ∧ MI Γ ad E' (qEnd s c).2 ∧ ∀ j : Nat, j < 78 → E' j = E j)) := by
  refine JM_intro (own := RX10) [some (.ref (ad 78)), some (.int (jI c)), none] rfl rfl rfl (Nat.le_of_ble_eq_true rfl) ?_
  intro Ω X R hin
  obtain ⟨E0, hE0⟩ : ∃ E0 : Nat → va_E, E0 = E := ⟨_, rfl⟩
  have hF : ∀ j : Nat, j < 78 → E j = E0 j := fun _ _ => by rw [hE0]
  obtain ⟨m2, m3, m4, m5, m6, m7, m8, m9, m10, m11, g, rs, ma, pa, al, he, un, re, ot, ln, lg, ce, hM, hS, hTp, hRs, hEn, hLe, hMa, hPa, hAl, hHe, hUn, hRe, hOt, hIk, hLa, hLn, hCe, hMR⟩ := id hc
  obtain ⟨hg, him, hrs, hun, hre, hsh⟩ := id hMR
  obtain ⟨hk0, hnow⟩ := id hk
  have hv := hk0.hv
  obtain ⟨hn, hvr⟩ := id hv
  obtain ⟨hgn, hgf⟩ := id hg
  have ho := hk0.ho
  have htb := hk0.htb
  obtain ⟨htl, -⟩ := id htb
  have hb := hk0.hb
  refine J_iload_n (q := 1) X dX10_end_0 rfl rfl ?_
  refine J_i2l (q := 2) X dX10_end_1 rfl (by omega) ?_
  refine J_lconst (q := 3) (v := 0) X dX10_end_2 (by decide) rfl ?_
  refine J_aload_n (q := 4) X dX10_end_3 rfl rfl ?_
  refine J_get (q := 7) X dX10_end_4 fX10_65 hM (by omega) rfl rfl ?_
  refine J_i2l (q := 8) X dX10_end_7 rfl (by omega) ?_
  refine J_callP (q := 11) (jrS X mX10_61 dX10_end_8 (c_X10_in (by omega) (by omega) (by omega)) rfl rfl (Nat.le_of_ble_eq_true rfl) (by decide)) rfl ?_
  refine J_if_neB (q := 14) (tgt := 16) X dX10_end_11 (by decide) rfl (fun cq11 => ?_) (fun cq11 => ?_)
  · refine J_aload_n (q := 17) X dX10_end_16 rfl rfl ?_
    refine J_get (q := 20) X dX10_end_17 fX10_65 hM (by omega) rfl rfl ?_
    refine J_istore_n (q := 21) X dX10_end_20 (by decide) rfl rfl ?_
    refine J_aload_n (q := 22) X dX10_end_21 rfl rfl ?_
    refine J_iload_n (q := 23) X dX10_end_22 rfl rfl ?_
    refine J_put (q := 26) (ty := .int) X dX10_end_23 fX10_65 rfl (by decide +kernel) rfl rfl hM (by omega) (Nat.le_of_ble_eq_true rfl) rfl (fun Ew23 hkq23 hsq23 => ?_)
    replace hM : Ew23 78 = .inr (9, [.ref (ad 79), .ref (ad 80), .int (jI _), .int (jI _), .int (jI _), .int (jI _), .int (jI _), .int (jI _), .int (jI _), .int (jI _), .int (jI _), .int (jI _), .int (jI _), .int (jI _), .ref (ad 81), .ref (ad 82), .ref (ad 83), .ref (ad 84), .ref (ad 85), .ref (ad 86), .ref (ad 87), .ref (ad 88), .ref (ad 89), .int (jI _), .int (jI _), .ref (ad 90), .ref (ad 91), .ref (ad 92), .ref (ad 93), .ref (ad 94), .int (jI _)]) := hkq23
    replace hS := (hsq23 79 (by omega)).trans hS
    replace hTp := (hsq23 80 (by omega)).trans hTp
    replace hRs := (hsq23 81 (by omega)).trans hRs
    replace hEn := (hsq23 82 (by omega)).trans hEn
    replace hLe := (hsq23 83 (by omega)).trans hLe
    replace hMa := (hsq23 84 (by omega)).trans hMa
    replace hPa := (hsq23 85 (by omega)).trans hPa
    replace hAl := (hsq23 86 (by omega)).trans hAl
    replace hHe := (hsq23 87 (by omega)).trans hHe
    replace hUn := (hsq23 88 (by omega)).trans hUn
    replace hRe := (hsq23 89 (by omega)).trans hRe
    replace hOt := (hsq23 90 (by omega)).trans hOt
    replace hIk := (hsq23 91 (by omega)).trans hIk
    replace hLa := (hsq23 92 (by omega)).trans hLa
    replace hLn := (hsq23 93 (by omega)).trans hLn
    replace hCe := (hsq23 94 (by omega)).trans hCe
    replace hF : ∀ j : Nat, j < 78 → Ew23 j = E0 j := fun j hj => (hsq23 j (by omega)).trans (hF j hj)
    refine J_iload_n (q := 27) X dX10_end_26 rfl rfl ?_
    refine J_iret X R dX10_end_27 ?_
    rw [hE0] at hF
    have hq : qEnd s c = (s.tl, s.tape c s.tb) := (by unfold qEnd; rw [if_neg (by omega)])
    rw [hq]
    exact ⟨_, rfl, rfl, ⟨_, _, _, _, _, _, _, _, _, _, _, _, _, _, _, _, _, _, _, _, _, _, hM, hS, hTp, hRs, hEn, hLe, hMa, hPa, hAl, hHe, hUn, hRe, hOt, hIk, hLa, hLn, hCe, hMR⟩, hF⟩
  · refine J_iconst (q := 15) X dX10_end_14 rfl ?_
    refine J_iret X R dX10_end_15 ?_
    rw [hE0] at hF
    have hq : qEnd s c = (-1, s) := (by unfold qEnd; rw [if_pos (by omega)])
    rw [hq]
    exact ⟨_, rfl, rfl, ⟨_, _, _, _, _, _, _, _, _, _, _, _, _, _, _, _, _, _, _, _, _, _, hM, hS, hTp, hRs, hEn, hLe, hMa, hPa, hAl, hHe, hUn, hRe, hOt, hIk, hLa, hLn, hCe, hMR⟩, hF⟩
