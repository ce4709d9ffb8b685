set_option maxRecDepth 100000 in
set_option maxHeartbeats 4000000 in
theorem c_X7_takeText {l : Launch} {Γ : JG} {ad : Nat → Nat} {E : Nat → va_E} {x mk ti k0 a b v n : Int} {f ma : Int → Int} {tl : Int} {tb : Int → Int} {b0 b1 b2 b3 b4 : Int} (hRd : E 1 = .inr (6, [.ref (ad 2), .ref (ad 3), .ref (ad 5), .ref (ad 6), .ref (ad 8), .int (jI x), .int (jI mk), .int (jI ti)])) (hK : E 2 = .inr (7, [.ref (ad 3), .ref (ad 5), .int (jI k0), .int (jI a), .int (jI b), .int (jI v)])) (hT : E 3 = .inr (5, [.ref (ad 4), .int (jI tl)])) (hY : E 4 = aI Γ 160 tb) (hB : E 5 = .inr (0, [.int (jI b0), .int (jI b1), .int (jI b2), .int (jI b3), .int (jI b4)])) (hD : E 6 = .inr (3, [.ref (ad 7), .int (jI n)])) (hDC : E 7 = aI Γ 60 f) (hMk : E 8 = aZ Γ 60 ma) (htb : TB tl tb) (hn : 0 ≤ n ∧ n ≤ 60) (hmk : mk = 0 ∨ mk = 1) : JM l Γ yX7_takeText cX7_takeText 2 (some .boolean) 8 168 0 0 ad 95 E [.ref (ad 1)] (pI (fun z E' => ∃ (r0 : RS) (p' x' m' t' k' f' i' v' n' : Int) (g ma' : Int → Int), r0 = run tb tl 161 0 1 mk ti 0 0 0 f (fun j => if 0 ≤ j ∧ j < 60 then 0 else ma j) ∧ z = bI (r0.1 = 0) ∧ E' 5 = .inr (0, [.int (jI r0.1), .int (jI p'), .int (jI r0.2.2.1), .int (jI r0.2.2.2.1), .int (jI r0.2.2.2.2.1)]) ∧ (r0.1 ≠ 0 → p' = r0.2.1) ∧ (r0.1 = 0 → n' = r0.2.2.2.2.2.1 ∧ ∀ j, g j = mkF r0.2.2.2.2.2.2.2 r0.2.2.2.2.2.2.1 j) ∧ E' 1 = .inr (6, [.ref (ad 2), .ref (ad 3), .ref (ad 5), .ref (ad 6), .ref (ad 8), .int (jI x'), .int (jI m'), .int (jI t')]) ∧ E' 2 = .inr (7, [.ref (ad 3), .ref (ad 5), .int (jI k'), .int (jI f'), .int (jI i'), .int (jI v')]) ∧ E' 6 = .inr (3, [.ref (ad 7), .int (jI n')]) ∧ E' 7 = aI Γ 60 g ∧ E' 8 = aZ Γ 60 ma' ∧ (0 ≤ n' ∧ n' ≤ 60) ∧ (m' = 0 ∨ m' = 1) ∧ ∀ j : Nat, ¬ (j = 1 ∨ j = 2 ∨ (5 ≤ j ∧ j ≤ 8)) → E' j = E j)) := by
  refine JM_intro (own := RX7) [some (.ref (ad 1)), none] rfl rfl rfl (Nat.le_of_ble_eq_true rfl) ?_
  intro Ω X R hin
  obtain ⟨E0, hE0⟩ : ∃ E0 : Nat → va_E, E0 = E := ⟨_, rfl⟩
  have hF : ∀ j : Nat, ¬ (j = 1 ∨ j = 2 ∨ (5 ≤ j ∧ j ≤ 8)) → E j = E0 j := fun _ _ => by rw [hE0]
  obtain ⟨htl, hbb⟩ := id htb
  obtain ⟨r0, hr0⟩ : ∃ r0 : RS, r0 = run tb tl 161 0 1 mk ti 0 0 0 f (fun j => if 0 ≤ j ∧ j < 60 then 0 else ma j) := ⟨_, rfl⟩
  refine J_aload_n (q := 1) X dX7_takeText_0 rfl rfl ?_
  refine J_callV (q := 4) (jrV X mX7_39 dX7_takeText_1 (c_X7_restart hRd hK hT hY hB hD hDC hMk (by omega)) hRd (by omega) rfl rfl rfl rfl (Nat.le_of_ble_eq_true rfl) (by decide)) rfl (fun Ew1 hpq1 => ?_)
  obtain ⟨kRd, kK, kB, kD, kMk, hsq1⟩ := hpq1
  replace hRd := kRd
  replace hK := kK
  replace hB := kB
  replace hD := kD
  replace hMk := kMk
  replace hT := (hsq1 3 (by omega)).trans hT
  replace hY := (hsq1 4 (by omega)).trans hY
  replace hDC := (hsq1 7 (by omega)).trans hDC
  replace hF : ∀ j : Nat, ¬ (j = 1 ∨ j = 2 ∨ (5 ≤ j ∧ j ≤ 8)) → Ew1 j = E0 j := fun j hj => (hsq1 j (by omega)).trans (hF j hj)
  refine J_iconst (q := 5) X dX7_takeText_4 rfl ?_
  refine J_istore_n (q := 6) X dX7_takeText_5 (by decide) rfl rfl ?_
  have lp6 : ∀ (m : Nat) (c i x mg te ln tk n k0 f0 v0 : Int) (f ma : Int → Int) (E : Nat → va_E) (hc : 0 ≤ c ∧ c ≤ 161) (hi : 0 ≤ i ∧ i ≤ tl) (hx : 1 ≤ x ∧ x ≤ 4) (hmg : mg = 0 ∨ mg = 1) (hte : x = 4 → 1 ≤ te ∧ te ≤ 9) (hn : 0 ≤ n ∧ n ≤ 60) (hma : ∀ j, 0 ≤ j → j < 60 → ma j = 0 ∨ ma j = 1) (hrun : run tb tl (161 - c).toNat i x mg te ln tk n f ma = r0) (hRd : E 1 = .inr (6, [.ref (ad 2), .ref (ad 3), .ref (ad 5), .ref (ad 6), .ref (ad 8), .int (jI x), .int (jI mg), .int (jI te)])) (hK : E 2 = .inr (7, [.ref (ad 3), .ref (ad 5), .int (jI k0), .int (jI f0), .int (jI i), .int (jI v0)])) (hT : E 3 = .inr (5, [.ref (ad 4), .int (jI tl)])) (hY : E 4 = aI Γ 160 tb) (hB : E 5 = .inr (0, [.int (jI 0), .int (jI 0), .int (jI ln), .int (jI tk), .int (jI (-4))])) (hD : E 6 = .inr (3, [.ref (ad 7), .int (jI n)])) (hDC : E 7 = aI Γ 60 f) (hMk : E 8 = aZ Γ 60 ma) (hF : ∀ j : Nat, ¬ (j = 1 ∨ j = 2 ∨ (5 ≤ j ∧ j ≤ 8)) → E j = E0 j) (hm : 161 - c + 1 ≤ (m : Int)), J l Γ Ω 2 ad 95 0 0 E 6 [some (.ref (ad 1)), some (.int (jI c))] [] := by
    intro m
    induction m with
    | zero => intro c i x mg te ln tk n k0 f0 v0 f ma E hc hi hx hmg hte hn hma hrun hRd hK hT hY hB hD hDC hMk hF hm; exfalso; omega
    | succ m ih6 =>
      intro c i x mg te ln tk n k0 f0 v0 f ma E hc hi hx hmg hte hn hma hrun hRd hK hT hY hB hD hDC hMk hF hm
      refine J_iload_n (q := 7) X dX7_takeText_6 rfl rfl ?_
      refine J_sipush (q := 10) X dX7_takeText_7 rfl (by decide) ?_
      refine J_icmp_gt (q := 13) (tgt := 93) X dX7_takeText_10 (by decide) rfl (by omega) (by omega) (fun cq10 => ?_) (fun cq10 => ?_)
      · refine J_aload_n (q := 94) X dX7_takeText_93 rfl rfl ?_
        refine J_get (q := 97) X dX7_takeText_94 fX7_27 hRd (by omega) rfl rfl ?_
        refine J_iconst (q := 98) X dX7_takeText_97 rfl ?_
        refine J_aload_n (q := 99) X dX7_takeText_98 rfl rfl ?_
        refine J_get (q := 102) X dX7_takeText_99 fX7_22 hRd (by omega) rfl rfl ?_
        refine J_get (q := 105) X dX7_takeText_102 fX7_68 hT (by omega) rfl rfl ?_
        refine J_callI (q := 108) (jrV X mX7_61 dX7_takeText_105 (c_X0_stopAt hB) hB (by omega) rfl rfl rfl rfl (Nat.le_of_ble_eq_true rfl) (by decide)) rfl (fun zq105 Ew105 hpq105 => ?_)
        obtain ⟨hzq105, kB, hsq105⟩ := hpq105
        replace hB := kB
        replace hRd := (hsq105 1 (by omega)).trans hRd
        replace hK := (hsq105 2 (by omega)).trans hK
        replace hT := (hsq105 3 (by omega)).trans hT
        replace hY := (hsq105 4 (by omega)).trans hY
        replace hD := (hsq105 6 (by omega)).trans hD
        replace hDC := (hsq105 7 (by omega)).trans hDC
        replace hMk := (hsq105 8 (by omega)).trans hMk
        replace hF : ∀ j : Nat, ¬ (j = 1 ∨ j = 2 ∨ (5 ≤ j ∧ j ≤ 8)) → Ew105 j = E0 j := fun j hj => (hsq105 j (by omega)).trans (hF j hj)
        refine J_zret X R dX7_takeText_108 (nrw_z (by first | omega | exact bI_bd _)) ?_
        rw [hE0] at hF
        rw [show (161 - c).toNat = 0 by omega, run] at hrun
        subst hrun
        exact ⟨zq105, rfl, _, _, x, mg, te, _, _, i, v0, n, f, ma, hr0, hzq105, hB, fun _ => rfl, fun z => absurd (show (2:Int) = 0 from z) (by decide), hRd, hK, hD, hDC, hMk, hn, hmg, hF⟩
      · refine J_aload_n (q := 14) X dX7_takeText_13 rfl rfl ?_
        refine J_get (q := 17) X dX7_takeText_14 fX7_12 hRd (by omega) rfl rfl ?_
        refine J_callI (q := 20) (jrV X mX7_42 dX7_takeText_17 (c_X8_advance hK hT hY hB htb (by omega)) hK (by omega) rfl rfl rfl rfl (Nat.le_of_ble_eq_true rfl) (by decide)) rfl (fun zq17 Ew17 hpq17 => ?_)
        obtain ⟨aq17, tq17, vq17, haq17, htq17, hzq17, kK, kB, hsq17⟩ := hpq17
        replace hK := kK
        replace hB := kB
        replace hRd := (hsq17 1 (by omega)).trans hRd
        replace hT := (hsq17 3 (by omega)).trans hT
        replace hY := (hsq17 4 (by omega)).trans hY
        replace hD := (hsq17 6 (by omega)).trans hD
        replace hDC := (hsq17 7 (by omega)).trans hDC
        replace hMk := (hsq17 8 (by omega)).trans hMk
        replace hF : ∀ j : Nat, ¬ (j = 1 ∨ j = 2 ∨ (5 ≤ j ∧ j ≤ 8)) → Ew17 j = E0 j := fun j hj => (hsq17 j (by omega)).trans (hF j hj)
        subst haq17
        have hab := tkA_bd (tb := tb) hi
        have hkb := tkK_bd tb tl (tkA tb tl i)
        refine J_if_ne (q := 23) (tgt := 25) X dX7_takeText_20 (by decide) rfl (by have := bI_bd (tkF tb tl (tkA tb tl i) = 0); omega) (fun cq20 => ?_) (fun cq20 => ?_)
        · have htk0 : tkF tb tl (tkA tb tl i) = 0 := by
            by_cases e : tkF tb tl (tkA tb tl i) = 0
            · exact e
            · rw [bI_f e] at hzq17; omega
          rw [if_pos htk0] at hB
          refine J_aload_n (q := 26) X dX7_takeText_25 rfl rfl ?_
          refine J_get (q := 29) X dX7_takeText_26 fX7_12 hRd (by omega) rfl rfl ?_
          refine J_get (q := 32) X dX7_takeText_29 fX7_46 hK (by omega) rfl rfl ?_
          refine J_if_ne (q := 35) (tgt := 48) X dX7_takeText_32 (by decide) rfl (by omega) (fun cq32 => ?_) (fun cq32 => ?_)
          · refine J_aload_n (q := 49) X dX7_takeText_48 rfl rfl ?_
            refine J_get (q := 52) X dX7_takeText_49 fX7_12 hRd (by omega) rfl rfl ?_
            refine J_get (q := 55) X dX7_takeText_52 fX7_46 hK (by omega) rfl rfl ?_
            refine J_aload_n (q := 56) X dX7_takeText_55 rfl rfl ?_
            refine J_get (q := 59) X dX7_takeText_56 fX7_50 hRd (by omega) rfl rfl ?_
            refine J_icmp_eq (q := 62) (tgt := 78) X dX7_takeText_59 (by decide) rfl (by omega) (by omega) (fun cq59 => ?_) (fun cq59 => ?_)
            · have htt := htq17 htk0
              have hkx : tkK tb tl (tkA tb tl i) ≠ 0 := by omega
              have hbb2 := tkB_bd (tb := tb) (tl := tl) (a := tkA tb tl i) (by omega) htk0 hkx
              have hvn : x = 2 → vq17 = nv tb (tkA tb tl i) (tkB tb tl (tkA tb tl i)) := fun z => htt.2 (by omega)
              rw [cq59] at hK
              refine J_aload_n (q := 79) X dX7_takeText_78 rfl rfl ?_
              refine J_callI (q := 82) (jrV X mX7_65 dX7_takeText_79 (c_X7_takeToken hRd hK hT hY hB hD hDC hMk htb (by omega) (by omega) (by omega) (fun z => by rw [hvn z]; exact nv_ok (by omega) htk0 (by omega)) (fun z => by have z1 := tkB_q (tb := tb) (tl := tl) (a := tkA tb tl i) (by omega) htk0 (by omega); have z2 := hte z; omega) (by omega)) hRd (by omega) rfl rfl rfl rfl (Nat.le_of_ble_eq_true rfl) (by decide)) rfl (fun zq79 Ew79 hpq79 => ?_)
              obtain ⟨hzq79, hgoq79, hbaq79, hsq79⟩ := hpq79
              replace hK := (hsq79 2 (by omega)).trans hK
              replace hT := (hsq79 3 (by omega)).trans hT
              replace hY := (hsq79 4 (by omega)).trans hY
              replace hF : ∀ j : Nat, ¬ (j = 1 ∨ j = 2 ∨ (5 ≤ j ∧ j ≤ 8)) → Ew79 j = E0 j := fun j hj => (hsq79 j (by omega)).trans (hF j hj)
              refine J_if_ne (q := 85) (tgt := 87) X dX7_takeText_82 (by decide) rfl (by have := bI_bd (fT tb (tkA tb tl i) tq17 vq17 x mg te n = 0); omega) (fun cq82 => ?_) (fun cq82 => ?_)
              · have f0t : fT tb (tkA tb tl i) tq17 vq17 x mg te n = 0 := by
                  by_cases e : fT tb (tkA tb tl i) tq17 vq17 x mg te n = 0
                  · exact e
                  · rw [bI_f e] at hzq79; omega
                obtain ⟨hRd, hB, hD, hDC, hMk⟩ := hgoq79 f0t
                refine J_iinc (q := 90) X dX7_takeText_87 rfl (by decide) rfl rfl ?_
                refine J_goto (q := 6) X dX7_takeText_90 (by decide) ?_
                refine ih6 _ _ _ _ _ _ _ _ _ _ _ _ _ _ (by omega) (by omega) (xT_bd _ _ _ _ _) (mkT_bd hmg) (fun z => te_ok hx f0t z) (nT_ok hn (fun z => by have z1 := tkB_q (tb := tb) (tl := tl) (a := tkA tb tl i) (by omega) htk0 (by omega); have z2 := hte z; omega) f0t) (maT_ok hma) ?_ hRd hK hT hY hB hD hDC hMk hF (by omega)
                rw [show (161 - (c + 1)).toNat = (160 - c).toNat by omega, tiT_v hvn, maT_v hvn, htt.1]
                rw [show (161 - c).toNat = (160 - c).toNat + 1 by omega, run_go htk0 cq59 (by omega) (by rw [← fT_v hvn, ← htt.1]; exact f0t)] at hrun
                exact hrun
              · refine J_iconst (q := 86) X dX7_takeText_85 rfl ?_
                refine J_zret X R dX7_takeText_86 (nrw_z (by first | omega | exact bI_bd _)) ?_
                rw [hE0] at hF
                have hne : fT tb (tkA tb tl i) tq17 vq17 x mg te n ≠ 0 := fun e => by rw [bI_t e] at hzq79; omega
                obtain ⟨hB, ⟨x9, m9, t9, hm9, hRd⟩, hD, hDC, hMk⟩ := hbaq79 hne
                have hne2 := hne
                rw [fT_v hvn, htt.1] at hne2
                rw [fT_v hvn, htt.1] at hB
                rw [show (161 - c).toNat = (160 - c).toNat + 1 by omega, run_bad htk0 cq59 (by omega) hne2] at hrun
                subst hrun
                exact ⟨0, rfl, _, _, x9, m9, t9, _, _, tq17, vq17, n, f, ma, hr0, (bI_f hne2).symm, hB, fun _ => rfl, fun z => absurd z hne2, hRd, hK, hD, hDC, hMk, hn, hm9, hF⟩
            · refine J_aload_n (q := 63) X dX7_takeText_62 rfl rfl ?_
              refine J_get (q := 66) X dX7_takeText_63 fX7_27 hRd (by omega) rfl rfl ?_
              refine J_iconst (q := 67) X dX7_takeText_66 rfl ?_
              refine J_aload_n (q := 68) X dX7_takeText_67 rfl rfl ?_
              refine J_get (q := 71) X dX7_takeText_68 fX7_12 hRd (by omega) rfl rfl ?_
              refine J_get (q := 74) X dX7_takeText_71 fX7_58 hK (by omega) rfl rfl ?_
              refine J_callI (q := 77) (jrV X mX7_61 dX7_takeText_74 (c_X0_stopAt hB) hB (by omega) rfl rfl rfl rfl (Nat.le_of_ble_eq_true rfl) (by decide)) rfl (fun zq74 Ew74 hpq74 => ?_)
              obtain ⟨hzq74, kB, hsq74⟩ := hpq74
              replace hB := kB
              replace hRd := (hsq74 1 (by omega)).trans hRd
              replace hK := (hsq74 2 (by omega)).trans hK
              replace hT := (hsq74 3 (by omega)).trans hT
              replace hY := (hsq74 4 (by omega)).trans hY
              replace hD := (hsq74 6 (by omega)).trans hD
              replace hDC := (hsq74 7 (by omega)).trans hDC
              replace hMk := (hsq74 8 (by omega)).trans hMk
              replace hF : ∀ j : Nat, ¬ (j = 1 ∨ j = 2 ∨ (5 ≤ j ∧ j ≤ 8)) → Ew74 j = E0 j := fun j hj => (hsq74 j (by omega)).trans (hF j hj)
              refine J_zret X R dX7_takeText_77 (nrw_z (by first | omega | exact bI_bd _)) ?_
              rw [hE0] at hF
              rw [show (161 - c).toNat = (160 - c).toNat + 1 by omega, run_ne htk0 cq59 (by omega)] at hrun
              subst hrun
              exact ⟨zq74, rfl, _, _, x, mg, te, _, _, tq17, vq17, n, f, ma, hr0, hzq74, hB, fun _ => rfl, fun z => absurd (show (2:Int) = 0 from z) (by decide), hRd, hK, hD, hDC, hMk, hn, hmg, hF⟩
          · refine J_aload_n (q := 36) X dX7_takeText_35 rfl rfl ?_
            refine J_get (q := 39) X dX7_takeText_36 fX7_50 hRd (by omega) rfl rfl ?_
            refine J_iconst (q := 40) X dX7_takeText_39 rfl ?_
            refine J_icmp_ne (q := 43) (tgt := 48) X dX7_takeText_40 (by decide) rfl (by omega) (by omega) (fun cq40 => ?_) (fun cq40 => ?_)
            · refine J_aload_n (q := 49) X dX7_takeText_48 rfl rfl ?_
              refine J_get (q := 52) X dX7_takeText_49 fX7_12 hRd (by omega) rfl rfl ?_
              refine J_get (q := 55) X dX7_takeText_52 fX7_46 hK (by omega) rfl rfl ?_
              refine J_aload_n (q := 56) X dX7_takeText_55 rfl rfl ?_
              refine J_get (q := 59) X dX7_takeText_56 fX7_50 hRd (by omega) rfl rfl ?_
              refine J_icmp_eq (q := 62) (tgt := 78) X dX7_takeText_59 (by decide) rfl (by omega) (by omega) (fun cq59 => ?_) (fun cq59 => ?_)
              · have htt := htq17 htk0
                have hkx : tkK tb tl (tkA tb tl i) ≠ 0 := by omega
                have hbb2 := tkB_bd (tb := tb) (tl := tl) (a := tkA tb tl i) (by omega) htk0 hkx
                have hvn : x = 2 → vq17 = nv tb (tkA tb tl i) (tkB tb tl (tkA tb tl i)) := fun z => htt.2 (by omega)
                rw [cq59] at hK
                refine J_aload_n (q := 79) X dX7_takeText_78 rfl rfl ?_
                refine J_callI (q := 82) (jrV X mX7_65 dX7_takeText_79 (c_X7_takeToken hRd hK hT hY hB hD hDC hMk htb (by omega) (by omega) (by omega) (fun z => by rw [hvn z]; exact nv_ok (by omega) htk0 (by omega)) (fun z => by have z1 := tkB_q (tb := tb) (tl := tl) (a := tkA tb tl i) (by omega) htk0 (by omega); have z2 := hte z; omega) (by omega)) hRd (by omega) rfl rfl rfl rfl (Nat.le_of_ble_eq_true rfl) (by decide)) rfl (fun zq79 Ew79 hpq79 => ?_)
                obtain ⟨hzq79, hgoq79, hbaq79, hsq79⟩ := hpq79
                replace hK := (hsq79 2 (by omega)).trans hK
                replace hT := (hsq79 3 (by omega)).trans hT
                replace hY := (hsq79 4 (by omega)).trans hY
                replace hF : ∀ j : Nat, ¬ (j = 1 ∨ j = 2 ∨ (5 ≤ j ∧ j ≤ 8)) → Ew79 j = E0 j := fun j hj => (hsq79 j (by omega)).trans (hF j hj)
                refine J_if_ne (q := 85) (tgt := 87) X dX7_takeText_82 (by decide) rfl (by have := bI_bd (fT tb (tkA tb tl i) tq17 vq17 x mg te n = 0); omega) (fun cq82 => ?_) (fun cq82 => ?_)
                · have f0t : fT tb (tkA tb tl i) tq17 vq17 x mg te n = 0 := by
                    by_cases e : fT tb (tkA tb tl i) tq17 vq17 x mg te n = 0
                    · exact e
                    · rw [bI_f e] at hzq79; omega
                  obtain ⟨hRd, hB, hD, hDC, hMk⟩ := hgoq79 f0t
                  refine J_iinc (q := 90) X dX7_takeText_87 rfl (by decide) rfl rfl ?_
                  refine J_goto (q := 6) X dX7_takeText_90 (by decide) ?_
                  refine ih6 _ _ _ _ _ _ _ _ _ _ _ _ _ _ (by omega) (by omega) (xT_bd _ _ _ _ _) (mkT_bd hmg) (fun z => te_ok hx f0t z) (nT_ok hn (fun z => by have z1 := tkB_q (tb := tb) (tl := tl) (a := tkA tb tl i) (by omega) htk0 (by omega); have z2 := hte z; omega) f0t) (maT_ok hma) ?_ hRd hK hT hY hB hD hDC hMk hF (by omega)
                  rw [show (161 - (c + 1)).toNat = (160 - c).toNat by omega, tiT_v hvn, maT_v hvn, htt.1]
                  rw [show (161 - c).toNat = (160 - c).toNat + 1 by omega, run_go htk0 cq59 (by omega) (by rw [← fT_v hvn, ← htt.1]; exact f0t)] at hrun
                  exact hrun
                · refine J_iconst (q := 86) X dX7_takeText_85 rfl ?_
                  refine J_zret X R dX7_takeText_86 (nrw_z (by first | omega | exact bI_bd _)) ?_
                  rw [hE0] at hF
                  have hne : fT tb (tkA tb tl i) tq17 vq17 x mg te n ≠ 0 := fun e => by rw [bI_t e] at hzq79; omega
                  obtain ⟨hB, ⟨x9, m9, t9, hm9, hRd⟩, hD, hDC, hMk⟩ := hbaq79 hne
                  have hne2 := hne
                  rw [fT_v hvn, htt.1] at hne2
                  rw [fT_v hvn, htt.1] at hB
                  rw [show (161 - c).toNat = (160 - c).toNat + 1 by omega, run_bad htk0 cq59 (by omega) hne2] at hrun
                  subst hrun
                  exact ⟨0, rfl, _, _, x9, m9, t9, _, _, tq17, vq17, n, f, ma, hr0, (bI_f hne2).symm, hB, fun _ => rfl, fun z => absurd z hne2, hRd, hK, hD, hDC, hMk, hn, hm9, hF⟩
              · refine J_aload_n (q := 63) X dX7_takeText_62 rfl rfl ?_
                refine J_get (q := 66) X dX7_takeText_63 fX7_27 hRd (by omega) rfl rfl ?_
                refine J_iconst (q := 67) X dX7_takeText_66 rfl ?_
                refine J_aload_n (q := 68) X dX7_takeText_67 rfl rfl ?_
                refine J_get (q := 71) X dX7_takeText_68 fX7_12 hRd (by omega) rfl rfl ?_
                refine J_get (q := 74) X dX7_takeText_71 fX7_58 hK (by omega) rfl rfl ?_
                refine J_callI (q := 77) (jrV X mX7_61 dX7_takeText_74 (c_X0_stopAt hB) hB (by omega) rfl rfl rfl rfl (Nat.le_of_ble_eq_true rfl) (by decide)) rfl (fun zq74 Ew74 hpq74 => ?_)
                obtain ⟨hzq74, kB, hsq74⟩ := hpq74
                replace hB := kB
                replace hRd := (hsq74 1 (by omega)).trans hRd
                replace hK := (hsq74 2 (by omega)).trans hK
                replace hT := (hsq74 3 (by omega)).trans hT
                replace hY := (hsq74 4 (by omega)).trans hY
                replace hD := (hsq74 6 (by omega)).trans hD
                replace hDC := (hsq74 7 (by omega)).trans hDC
                replace hMk := (hsq74 8 (by omega)).trans hMk
                replace hF : ∀ j : Nat, ¬ (j = 1 ∨ j = 2 ∨ (5 ≤ j ∧ j ≤ 8)) → Ew74 j = E0 j := fun j hj => (hsq74 j (by omega)).trans (hF j hj)
                refine J_zret X R dX7_takeText_77 (nrw_z (by first | omega | exact bI_bd _)) ?_
                rw [hE0] at hF
                rw [show (161 - c).toNat = (160 - c).toNat + 1 by omega, run_ne htk0 cq59 (by omega)] at hrun
                subst hrun
                exact ⟨zq74, rfl, _, _, x, mg, te, _, _, tq17, vq17, n, f, ma, hr0, hzq74, hB, fun _ => rfl, fun z => absurd (show (2:Int) = 0 from z) (by decide), hRd, hK, hD, hDC, hMk, hn, hmg, hF⟩
            · refine J_aload_n (q := 44) X dX7_takeText_43 rfl rfl ?_
              refine J_callI (q := 47) (jrV X mX7_53 dX7_takeText_44 (c_X7_takeMarks hRd hT hB hD hDC hMk (by omega) (by omega) hma) hRd (by omega) rfl rfl rfl rfl (Nat.le_of_ble_eq_true rfl) (by decide)) rfl (fun zq44 Ew44 hpq44 => ?_)
              obtain ⟨hzq44, kB, ⟨gq44, kDC, hgq44⟩, hsq44⟩ := hpq44
              replace hB := kB
              replace hDC := kDC
              replace hRd := (hsq44 1 (by omega)).trans hRd
              replace hK := (hsq44 2 (by omega)).trans hK
              replace hT := (hsq44 3 (by omega)).trans hT
              replace hY := (hsq44 4 (by omega)).trans hY
              replace hD := (hsq44 6 (by omega)).trans hD
              replace hMk := (hsq44 8 (by omega)).trans hMk
              replace hF : ∀ j : Nat, ¬ (j = 1 ∨ j = 2 ∨ (5 ≤ j ∧ j ≤ 8)) → Ew44 j = E0 j := fun j hj => (hsq44 j (by omega)).trans (hF j hj)
              refine J_zret X R dX7_takeText_47 (nrw_z (by rw [hzq44]; exact bI_bd _)) ?_
              rw [hE0] at hF
              rw [show (161 - c).toNat = (160 - c).toNat + 1 by omega, run_end htk0 cq32 cq40] at hrun
              subst hrun
              by_cases hok : okM ma f n
              · have e1 : (if okM ma f n then (0 : Int) else 6) = 0 := if_pos hok
                rw [if_pos hok] at hB
                refine ⟨zq44, rfl, _, 0, x, mg, te, _, _, tq17, vq17, n, gq44, ma, hr0, ?_, ?_, fun z => absurd e1 z, fun _ => ⟨rfl, hgq44 hok⟩, hRd, hK, hD, hDC, hMk, hn, hmg, hF⟩
                · rw [hzq44, bI_t hok]; exact (bI_t e1).symm
                · dsimp only; rw [e1]; exact hB
              · have e1 : (if okM ma f n then (0 : Int) else 6) = 6 := if_neg hok
                rw [if_neg hok] at hB
                refine ⟨zq44, rfl, _, tl, x, mg, te, _, _, tq17, vq17, n, gq44, ma, hr0, ?_, ?_, fun _ => rfl, fun z => ?_, hRd, hK, hD, hDC, hMk, hn, hmg, hF⟩
                · rw [hzq44, bI_f hok]; refine (bI_f ?_).symm; dsimp only; rw [e1]; decide
                · dsimp only; rw [e1]; exact hB
                · dsimp only at z; rw [e1] at z; exact absurd z (by decide)
        · refine J_iconst (q := 24) X dX7_takeText_23 rfl ?_
          refine J_zret X R dX7_takeText_24 (nrw_z (by first | omega | exact bI_bd _)) ?_
          rw [hE0] at hF
          have hne : tkF tb tl (tkA tb tl i) ≠ 0 := fun e => by rw [bI_t e] at hzq17; omega
          rw [if_neg hne] at hB
          rw [show (161 - c).toNat = (160 - c).toNat + 1 by omega, run_f1 hne] at hrun
          subst hrun
          exact ⟨0, rfl, _, _, _, _, _, _, _, _, _, n, f, ma, hr0, (bI_f hne).symm, hB, fun _ => rfl, fun z => absurd z hne, hRd, hK, hD, hDC, hMk, hn, hmg, hF⟩
  exact lp6 300 _ _ _ _ _ _ _ _ _ _ _ _ _ _ (by omega) (by omega) (by omega) hmk (by omega) (by omega) (fun j a b => Or.inl (by rw [if_pos ⟨a, b⟩])) hr0.symm hRd hK hT hY hB hD hDC hMk hF (by omega)
