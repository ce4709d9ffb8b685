set_option maxRecDepth 100000 in
set_option maxHeartbeats 4000000 in
theorem c_X1_nest {l : Launch} {Γ : JG} {ad : Nat → Nat} {E : Nat → va_E} {n : Int} {f pa sl le hi : Int → Int}  (hB : E 9 = .inr (1, [.ref (ad 10), .ref (ad 12), .ref (ad 13), .ref (ad 14), .ref (ad 15), .ref (ad 16), .ref (ad 17), .ref (ad 18)])) (hR : E 10 = .inr (3, [.ref (ad 11), .int (jI n)])) (hC : E 11 = aI Γ 60 f) (hP : E 12 = aI Γ 60 pa) (hS : E 16 = aI Γ 61 sl) (hV : E 17 = aI Γ 60 le) (hZ : E 18 = aZ Γ 60 hi) (hv : VR f n) (hpa : ∀ j, 0 ≤ j → j < n → pa j = prt 3 f n j) (hsl : ∀ j, 0 ≤ j → j ≤ n → sl j = lin f j) : JM l Γ yX1_nest cX1_nest 5 none 2 43 0 0 ad 95 E [.ref (ad 9)] (pV (fun E' => ∃ le' hi' : Int → Int, E' 17 = aI Γ 60 le' ∧ E' 18 = aZ Γ 60 hi' ∧ (∀ j, 0 ≤ j → j < n → le' j = lvl f n j) ∧ (∀ j, 0 ≤ j → j < n → hi' j = bI (hid f n j)) ∧ ∀ j : Nat, j ≠ 17 ∧ j ≠ 18 → E' j = E j)) := by
  refine JM_intro (own := RX1) [some (.ref (ad 9)), none, none, none, none] rfl rfl rfl (Nat.le_of_ble_eq_true rfl) ?_
  intro Ω X R hin
  obtain ⟨E0, hE0⟩ : ∃ E0 : Nat → va_E, E0 = E := ⟨_, rfl⟩
  have hF : ∀ j : Nat, j ≠ 17 ∧ j ≠ 18 → E j = E0 j := fun _ _ => by rw [hE0]
  obtain ⟨hn, hvr⟩ := id hv
  refine J_iconst (q := 1) X dX1_nest_0 rfl ?_
  refine J_istore_n (q := 2) X dX1_nest_1 (by decide) rfl rfl ?_
  refine J_iconst (q := 3) X dX1_nest_2 rfl ?_
  refine J_istore_n (q := 4) X dX1_nest_3 (by decide) rfl rfl ?_
  refine J_iconst (q := 5) X dX1_nest_4 rfl ?_
  refine J_istore_n (q := 6) X dX1_nest_5 (by decide) rfl rfl ?_
  have lp6 : ∀ (m : Nat) (i w fd : Int) (le hi : Int → Int) (E : Nat → va_E) (hij : 0 ≤ i ∧ i ≤ n) (hw : w = cA (prt 3 f n) (fun _ => True) i) (hfd : fd = cA (prt 3 f n) (fun k => fo f n k) i) (hle : ∀ j, 0 ≤ j → j < i → le j = lvl f n j) (hhi : ∀ j, 0 ≤ j → j < i → hi j = bI (hid f n j)) (hB : E 9 = .inr (1, [.ref (ad 10), .ref (ad 12), .ref (ad 13), .ref (ad 14), .ref (ad 15), .ref (ad 16), .ref (ad 17), .ref (ad 18)])) (hR : E 10 = .inr (3, [.ref (ad 11), .int (jI n)])) (hC : E 11 = aI Γ 60 f) (hP : E 12 = aI Γ 60 pa) (hS : E 16 = aI Γ 61 sl) (hV : E 17 = aI Γ 60 le) (hZ : E 18 = aZ Γ 60 hi) (hF : ∀ j : Nat, j ≠ 17 ∧ j ≠ 18 → E j = E0 j) (hm : n - i + 1 ≤ (m : Int)), J l Γ Ω 5 ad 95 0 0 E 6 [some (.ref (ad 9)), some (.int (jI w)), some (.int (jI fd)), some (.int (jI i)), none] [] := by
    intro m
    induction m with
    | zero => intro i w fd le hi E hij hw hfd hle hhi hB hR hC hP hS hV hZ hF hm; exfalso; omega
    | succ m ih6 =>
      intro i w fd le hi E hij hw hfd hle hhi hB hR hC hP hS hV hZ hF hm
      have hwb := (cAB_bd (prt 3 f n) (fun _ => True) hij.1).1
      have hfb := (cAB_bd (prt 3 f n) (fun k => fo f n k) hij.1).1
      have hwb2 := (cAB_bd (prt 3 f n) (fun _ => True) hij.1).2
      have hfb2 := (cAB_bd (prt 3 f n) (fun k => fo f n k) hij.1).2
      refine J_iload_n (q := 7) X dX1_nest_6 rfl rfl ?_
      refine J_aload_n (q := 8) X dX1_nest_7 rfl rfl ?_
      refine J_get (q := 11) X dX1_nest_8 fX1_12 hB (by omega) rfl rfl ?_
      refine J_get (q := 14) X dX1_nest_11 fX1_41 hR (by omega) rfl rfl ?_
      refine J_icmp_ge (q := 17) (tgt := 99) X dX1_nest_14 (by decide) rfl (by omega) (by omega) (fun cq14 => ?_) (fun cq14 => ?_)
      · refine J_vret X R dX1_nest_99 ?_
        rw [hE0] at hF
        obtain rfl : i = n := by omega
        exact ⟨rfl, le, hi, hV, hZ, hle, hhi, hF⟩
      · refine J_aload_n (q := 18) X dX1_nest_17 rfl rfl ?_
        refine J_get (q := 21) X dX1_nest_18 fX1_18 hB (by omega) rfl rfl ?_
        refine J_iload_n (q := 22) X dX1_nest_21 rfl rfl ?_
        refine J_iald (q := 23) X dX1_nest_22 hP (by omega) (by omega) (by decide) rfl ?_
        refine J_istore (q := 25) X dX1_nest_23 (by decide) rfl rfl ?_
        have hpi := hpa i hij.1 (by omega)
        have hpb := prt_bd (kd := 3) (f := f) (n := n) hn.1 i
        have jn51 : ∀ (w2 fd2 : Int) (hw2 : w2 = cB (prt 3 f n) (fun _ => True) i) (hfd2 : fd2 = cB (prt 3 f n) (fun k => fo f n k) i), J l Γ Ω 5 ad 95 0 0 E 51 [some (.ref (ad 9)), some (.int (jI w2)), some (.int (jI fd2)), some (.int (jI i)), some (.int (jI (pa i)))] [] := by
          intro w2 fd2 hw2 hfd2
          refine J_aload_n (q := 52) X dX1_nest_51 rfl rfl ?_
          refine J_get (q := 55) X dX1_nest_52 fX1_34 hB (by omega) rfl rfl ?_
          refine J_iload_n (q := 56) X dX1_nest_55 rfl rfl ?_
          refine J_iload_n (q := 57) X dX1_nest_56 rfl rfl ?_
          refine J_iast (q := 58) X dX1_nest_57 hV (by omega) (by omega) (by decide) rfl (fun Ew57 hkq57 hsq57 => ?_)
          replace hV := hkq57
          replace hB := (hsq57 9 (by omega)).trans hB
          replace hR := (hsq57 10 (by omega)).trans hR
          replace hC := (hsq57 11 (by omega)).trans hC
          replace hP := (hsq57 12 (by omega)).trans hP
          replace hS := (hsq57 16 (by omega)).trans hS
          replace hZ := (hsq57 18 (by omega)).trans hZ
          replace hF : ∀ j : Nat, j ≠ 17 ∧ j ≠ 18 → Ew57 j = E0 j := fun j hj => (hsq57 j (by omega)).trans (hF j hj)
          have hle2 : ∀ j, 0 ≤ j → j < i + 1 → iu le i w2 j = lvl f n j := fun j a b => by
            simp only [iu]
            by_cases hj : j = i
            · rw [if_pos hj, hj, hw2]; rfl
            · rw [if_neg hj]; exact hle j a (by omega)
          have jn73 : ∀ (z : Int → Int) (E : Nat → va_E) (hz : ∀ j, 0 ≤ j → j < i + 1 → z j = bI (hid f n j)) (hB : E 9 = .inr (1, [.ref (ad 10), .ref (ad 12), .ref (ad 13), .ref (ad 14), .ref (ad 15), .ref (ad 16), .ref (ad 17), .ref (ad 18)])) (hR : E 10 = .inr (3, [.ref (ad 11), .int (jI n)])) (hC : E 11 = aI Γ 60 f) (hP : E 12 = aI Γ 60 pa) (hS : E 16 = aI Γ 61 sl) (hV : E 17 = aI Γ 60 (iu le i w2)) (hZ : E 18 = aZ Γ 60 z) (hF : ∀ j : Nat, j ≠ 17 ∧ j ≠ 18 → E j = E0 j), J l Γ Ω 5 ad 95 0 0 E 73 [some (.ref (ad 9)), some (.int (jI w2)), some (.int (jI fd2)), some (.int (jI i)), some (.int (jI (pa i)))] [] := by
            intro z E hz hB hR hC hP hS hV hZ hF
            refine J_iload (q := 75) X dX1_nest_73 rfl rfl ?_
            refine J_iload_n (q := 76) X dX1_nest_75 rfl rfl ?_
            refine J_icmp_le (q := 79) (tgt := 93) X dX1_nest_76 (by decide) rfl (by omega) (by omega) (fun cq76 => ?_) (fun cq76 => ?_)
            · refine J_iinc (q := 96) X dX1_nest_93 rfl (by decide) rfl rfl ?_
              refine J_goto (q := 6) X dX1_nest_96 (by decide) ?_
              refine J_kill 4 ?_
              first
                | exact ih6 _ _ _ _ _ _ (by omega) (by rw [hw2, nx_no (prt 3 f n) (fun _ => True) hij.1 (by rw [← hpi]; omega)]) (by rw [hfd2, nx_no (prt 3 f n) (fun k => fo f n k) hij.1 (by rw [← hpi]; omega)]) hle2 hz hB hR hC hP hS hV hZ hF (by omega)
                | exact ih6 _ _ _ _ _ _ (by omega) (by rw [hw2, nx_yes (prt 3 f n) (fun _ => True) hij.1 (by rw [← hpi]; omega), bI_t trivial]) (by rw [hfd2, nx_yes (prt 3 f n) (fun k => fo f n k) hij.1 (by rw [← hpi]; omega)]) hle2 hz hB hR hC hP hS hV hZ hF (by omega)
            · refine J_iinc (q := 82) X dX1_nest_79 rfl (by decide) rfl rfl ?_
              refine J_iload_n (q := 83) X dX1_nest_82 rfl rfl ?_
              refine J_aload_n (q := 84) X dX1_nest_83 rfl rfl ?_
              refine J_iload_n (q := 85) X dX1_nest_84 rfl rfl ?_
              refine J_callP (q := 88) (jrV X mX1_82 dX1_nest_85 (c_X1_isFolded hB hR hC hP hS hv hpa hsl (by omega)) hB (by omega) rfl rfl rfl rfl (Nat.le_of_ble_eq_true rfl) (by decide)) rfl ?_
              refine J_callP (q := 91) (jrS X mX1_75 dX1_nest_88 (c_X9_oneIf (by first | omega | exact bI_bd _)) rfl rfl (Nat.le_of_ble_eq_true rfl) (by decide)) rfl ?_
              refine J_iadd (q := 92) X dX1_nest_91 rfl ?_
              refine J_istore_n (q := 93) X dX1_nest_92 (by decide) rfl rfl ?_
              refine J_iinc (q := 96) X dX1_nest_93 rfl (by decide) rfl rfl ?_
              refine J_goto (q := 6) X dX1_nest_96 (by decide) ?_
              refine J_kill 4 ?_
              first
                | exact ih6 _ _ _ _ _ _ (by omega) (by rw [hw2, nx_no (prt 3 f n) (fun _ => True) hij.1 (by rw [← hpi]; omega)]) (by rw [hfd2, nx_no (prt 3 f n) (fun k => fo f n k) hij.1 (by rw [← hpi]; omega)]) hle2 hz hB hR hC hP hS hV hZ hF (by omega)
                | exact ih6 _ _ _ _ _ _ (by omega) (by rw [hw2, nx_yes (prt 3 f n) (fun _ => True) hij.1 (by rw [← hpi]; omega), bI_t trivial]) (by rw [hfd2, nx_yes (prt 3 f n) (fun k => fo f n k) hij.1 (by rw [← hpi]; omega)]) hle2 hz hB hR hC hP hS hV hZ hF (by omega)
          refine J_aload_n (q := 59) X dX1_nest_58 rfl rfl ?_
          refine J_get (q := 62) X dX1_nest_59 fX1_37 hB (by omega) rfl rfl ?_
          refine J_iload_n (q := 63) X dX1_nest_62 rfl rfl ?_
          refine J_iload_n (q := 64) X dX1_nest_63 rfl rfl ?_
          refine J_if_le (q := 67) (tgt := 71) X dX1_nest_64 (by decide) rfl (by omega) (fun cq64 => ?_) (fun cq64 => ?_)
          · refine J_iconst (q := 72) X dX1_nest_71 rfl ?_
            refine J_zast (q := 73) X dX1_nest_72 hZ (by omega) (by omega) (by decide) (by omega) rfl (fun Ew72 hkq72 hsq72 => ?_)
            replace hZ := hkq72
            replace hB := (hsq72 9 (by omega)).trans hB
            replace hR := (hsq72 10 (by omega)).trans hR
            replace hC := (hsq72 11 (by omega)).trans hC
            replace hP := (hsq72 12 (by omega)).trans hP
            replace hS := (hsq72 16 (by omega)).trans hS
            replace hV := (hsq72 17 (by omega)).trans hV
            replace hF : ∀ j : Nat, j ≠ 17 ∧ j ≠ 18 → Ew72 j = E0 j := fun j hj => (hsq72 j (by omega)).trans (hF j hj)
            refine jn73 _ _ (fun j a b => ?_) hB hR hC hP hS hV hZ hF
            simp only [iu]
            by_cases hj : j = i
            · rw [if_pos hj, hj]
              have he : hidN f n i = fd2 := hfd2.symm
              first | (rw [bI_t (show 0 < hidN f n i by omega)]; done) | (rw [bI_f (show ¬ 0 < hidN f n i by omega)]; done)
            · rw [if_neg hj]; exact hhi j a (by omega)
          · refine J_iconst (q := 68) X dX1_nest_67 rfl ?_
            refine J_goto (q := 72) X dX1_nest_68 (by decide) ?_
            refine J_zast (q := 73) X dX1_nest_72 hZ (by omega) (by omega) (by decide) (by omega) rfl (fun Ew72 hkq72 hsq72 => ?_)
            replace hZ := hkq72
            replace hB := (hsq72 9 (by omega)).trans hB
            replace hR := (hsq72 10 (by omega)).trans hR
            replace hC := (hsq72 11 (by omega)).trans hC
            replace hP := (hsq72 12 (by omega)).trans hP
            replace hS := (hsq72 16 (by omega)).trans hS
            replace hV := (hsq72 17 (by omega)).trans hV
            replace hF : ∀ j : Nat, j ≠ 17 ∧ j ≠ 18 → Ew72 j = E0 j := fun j hj => (hsq72 j (by omega)).trans (hF j hj)
            refine jn73 _ _ (fun j a b => ?_) hB hR hC hP hS hV hZ hF
            simp only [iu]
            by_cases hj : j = i
            · rw [if_pos hj, hj]
              have he : hidN f n i = fd2 := hfd2.symm
              first | (rw [bI_t (show 0 < hidN f n i by omega)]; done) | (rw [bI_f (show ¬ 0 < hidN f n i by omega)]; done)
            · rw [if_neg hj]; exact hhi j a (by omega)
        refine J_iload (q := 27) X dX1_nest_25 rfl rfl ?_
        refine J_if_lt (q := 30) (tgt := 51) X dX1_nest_27 (by decide) rfl (by omega) (fun cq27 => ?_) (fun cq27 => ?_)
        · first
            | exact jn51 _ _ (by rw [hw, lv_out (fun _ => True) hn.1 hij.1 (by rw [← hpi]; omega)]) (by rw [hfd, lv_out (fun k => fo f n k) hn.1 hij.1 (by rw [← hpi]; omega)])
            | exact jn51 _ _ (by have hl := lv_in (fun _ => True) hn.1 hij.1 (f := f) (i := i) (by rw [← hpi]; omega); rw [bI_t trivial] at hl; omega) (by rw [hpi, hfd]; exact lv_in (fun k => fo f n k) hn.1 hij.1 (by rw [← hpi]; omega))
        · refine J_iload (q := 32) X dX1_nest_30 rfl rfl ?_
          refine J_iload_n (q := 33) X dX1_nest_32 rfl rfl ?_
          refine J_icmp_ge (q := 36) (tgt := 51) X dX1_nest_33 (by decide) rfl (by omega) (by omega) (fun cq33 => ?_) (fun cq33 => ?_)
          · first
              | exact jn51 _ _ (by rw [hw, lv_out (fun _ => True) hn.1 hij.1 (by rw [← hpi]; omega)]) (by rw [hfd, lv_out (fun k => fo f n k) hn.1 hij.1 (by rw [← hpi]; omega)])
              | exact jn51 _ _ (by have hl := lv_in (fun _ => True) hn.1 hij.1 (f := f) (i := i) (by rw [← hpi]; omega); rw [bI_t trivial] at hl; omega) (by rw [hpi, hfd]; exact lv_in (fun k => fo f n k) hn.1 hij.1 (by rw [← hpi]; omega))
          · refine J_iinc (q := 39) X dX1_nest_36 rfl (by decide) rfl rfl ?_
            refine J_iload_n (q := 40) X dX1_nest_39 rfl rfl ?_
            refine J_aload_n (q := 41) X dX1_nest_40 rfl rfl ?_
            refine J_iload (q := 43) X dX1_nest_41 rfl rfl ?_
            refine J_callP (q := 46) (jrV X mX1_82 dX1_nest_43 (c_X1_isFolded hB hR hC hP hS hv hpa hsl (by omega)) hB (by omega) rfl rfl rfl rfl (Nat.le_of_ble_eq_true rfl) (by decide)) rfl ?_
            refine J_callP (q := 49) (jrS X mX1_75 dX1_nest_46 (c_X9_oneIf (by first | omega | exact bI_bd _)) rfl rfl (Nat.le_of_ble_eq_true rfl) (by decide)) rfl ?_
            refine J_isub (q := 50) X dX1_nest_49 rfl ?_
            refine J_istore_n (q := 51) X dX1_nest_50 (by decide) rfl rfl ?_
            first
              | exact jn51 _ _ (by rw [hw, lv_out (fun _ => True) hn.1 hij.1 (by rw [← hpi]; omega)]) (by rw [hfd, lv_out (fun k => fo f n k) hn.1 hij.1 (by rw [← hpi]; omega)])
              | exact jn51 _ _ (by have hl := lv_in (fun _ => True) hn.1 hij.1 (f := f) (i := i) (by rw [← hpi]; omega); rw [bI_t trivial] at hl; omega) (by rw [hpi, hfd]; exact lv_in (fun k => fo f n k) hn.1 hij.1 (by rw [← hpi]; omega))
  exact lp6 100 _ _ _ _ _ _ (by omega) rfl rfl (fun j a b => by omega) (fun j a b => by omega) hB hR hC hP hS hV hZ hF (by omega)

set_option maxRecDepth 100000 in
set_option maxHeartbeats 4000000 in
theorem c_X1_survey {l : Launch} {Γ : JG} {ad : Nat → Nat} {E : Nat → va_E} {n : Int} {f pa al hp de sl le hi : Int → Int}  (hB : E 9 = .inr (1, [.ref (ad 10), .ref (ad 12), .ref (ad 13), .ref (ad 14), .ref (ad 15), .ref (ad 16), .ref (ad 17), .ref (ad 18)])) (hR : E 10 = .inr (3, [.ref (ad 11), .int (jI n)])) (hC : E 11 = aI Γ 60 f) (hP : E 12 = aI Γ 60 pa) (hA : E 13 = aI Γ 60 al) (hH : E 14 = aI Γ 60 hp) (hD : E 15 = aI Γ 61 de) (hS : E 16 = aI Γ 61 sl) (hV : E 17 = aI Γ 60 le) (hZ : E 18 = aZ Γ 60 hi) (hv : VR f n) (hd0 : de 0 = 0) (hs0 : sl 0 = 0) : JM l Γ yX1_survey cX1_survey 2 none 4 86 0 0 ad 95 E [.ref (ad 9)] (pV (fun E' => ∃ pa' al' hp' de' sl' le' hi' : Int → Int, E' 12 = aI Γ 60 pa' ∧ E' 13 = aI Γ 60 al' ∧ E' 14 = aI Γ 60 hp' ∧ E' 15 = aI Γ 61 de' ∧ E' 16 = aI Γ 61 sl' ∧ E' 17 = aI Γ 60 le' ∧ E' 18 = aZ Γ 60 hi' ∧ SV f n pa' al' de' sl' le' hi' ∧ ∀ j : Nat, ¬ (12 ≤ j ∧ j ≤ 18) → E' j = E j)) := by
  refine JM_intro (own := RX1) [some (.ref (ad 9)), none] rfl rfl rfl (Nat.le_of_ble_eq_true rfl) ?_
  intro Ω X R hin
  obtain ⟨E0, hE0⟩ : ∃ E0 : Nat → va_E, E0 = E := ⟨_, rfl⟩
  have hF : ∀ j : Nat, ¬ (12 ≤ j ∧ j ≤ 18) → E j = E0 j := fun _ _ => by rw [hE0]
  obtain ⟨hn, hvr⟩ := id hv
  refine J_iconst (q := 1) X dX1_survey_0 rfl ?_
  refine J_istore_n (q := 2) X dX1_survey_1 (by decide) rfl rfl ?_
  have lp2 : ∀ (m : Nat) (i : Int) (pa al : Int → Int) (E : Nat → va_E) (hij : 0 ≤ i ∧ i ≤ n) (hfil : ∀ j, 0 ≤ j → j < i → pa j = -4 ∧ al j = -4) (hB : E 9 = .inr (1, [.ref (ad 10), .ref (ad 12), .ref (ad 13), .ref (ad 14), .ref (ad 15), .ref (ad 16), .ref (ad 17), .ref (ad 18)])) (hR : E 10 = .inr (3, [.ref (ad 11), .int (jI n)])) (hC : E 11 = aI Γ 60 f) (hP : E 12 = aI Γ 60 pa) (hA : E 13 = aI Γ 60 al) (hH : E 14 = aI Γ 60 hp) (hD : E 15 = aI Γ 61 de) (hS : E 16 = aI Γ 61 sl) (hV : E 17 = aI Γ 60 le) (hZ : E 18 = aZ Γ 60 hi) (hF : ∀ j : Nat, ¬ (12 ≤ j ∧ j ≤ 18) → E j = E0 j) (hm : n - i + 1 ≤ (m : Int)), J l Γ Ω 2 ad 95 0 0 E 2 [some (.ref (ad 9)), some (.int (jI i))] [] := by
    intro m
    induction m with
    | zero => intro i pa al E hij hfil hB hR hC hP hA hH hD hS hV hZ hF hm; exfalso; omega
    | succ m ih2 =>
      intro i pa al E hij hfil hB hR hC hP hA hH hD hS hV hZ hF hm
      refine J_iload_n (q := 3) X dX1_survey_2 rfl rfl ?_
      refine J_aload_n (q := 4) X dX1_survey_3 rfl rfl ?_
      refine J_get (q := 7) X dX1_survey_4 fX1_12 hB (by omega) rfl rfl ?_
      refine J_get (q := 10) X dX1_survey_7 fX1_41 hR (by omega) rfl rfl ?_
      refine J_icmp_ge (q := 13) (tgt := 35) X dX1_survey_10 (by decide) rfl (by omega) (by omega) (fun cq10 => ?_) (fun cq10 => ?_)
      · refine J_aload_n (q := 36) X dX1_survey_35 rfl rfl ?_
        refine J_iconst (q := 37) X dX1_survey_36 rfl ?_
        refine J_aload_n (q := 38) X dX1_survey_37 rfl rfl ?_
        refine J_get (q := 41) X dX1_survey_38 fX1_18 hB (by omega) rfl rfl ?_
        refine J_callV (q := 44) (jrV X mX1_45 dX1_survey_41 (c_X1_pairUp hB hR hC hH hP hv (Or.inl rfl) (by omega) (fun j a b _ => (hfil j a (by omega)).1)) hB (by omega) rfl rfl rfl rfl (Nat.le_of_ble_eq_true rfl) (by decide)) rfl (fun Ew41 hpq41 => ?_)
        obtain ⟨hqq41, gq41, kH, kP, hgq41, hsq41⟩ := hpq41
        replace hH := kH
        replace hP := kP
        replace hB := (hsq41 9 (by omega)).trans hB
        replace hR := (hsq41 10 (by omega)).trans hR
        replace hC := (hsq41 11 (by omega)).trans hC
        replace hA := (hsq41 13 (by omega)).trans hA
        replace hD := (hsq41 15 (by omega)).trans hD
        replace hS := (hsq41 16 (by omega)).trans hS
        replace hV := (hsq41 17 (by omega)).trans hV
        replace hZ := (hsq41 18 (by omega)).trans hZ
        replace hF : ∀ j : Nat, ¬ (12 ≤ j ∧ j ≤ 18) → Ew41 j = E0 j := fun j hj => (hsq41 j (by omega)).trans (hF j hj)
        have hpa2 : ∀ j, 0 ≤ j → j < n → gq41 j = prt 3 f n j := fun j a b => by
          rw [hgq41 j a b]
          by_cases hk : isK (f j % 128) 3
          · rw [if_pos hk]
          · rw [if_neg hk, (hfil j a (by omega)).1, prt_not hn.1 hk]
        refine J_iconst (q := 45) X dX1_survey_44 rfl ?_
        refine J_istore_n (q := 46) X dX1_survey_45 (by decide) rfl rfl ?_
        have lp46 : ∀ (m : Nat) (kk : Int) (hp al : Int → Int) (E : Nat → va_E) (hkk : 0 ≤ kk ∧ kk ≤ 3) (hal : ∀ j, 0 ≤ j → j < n → al j = if brk (f j % 128) ∧ knd (f j % 128) < kk then prt (knd (f j % 128)) f n j else -4) (hB : E 9 = .inr (1, [.ref (ad 10), .ref (ad 12), .ref (ad 13), .ref (ad 14), .ref (ad 15), .ref (ad 16), .ref (ad 17), .ref (ad 18)])) (hR : E 10 = .inr (3, [.ref (ad 11), .int (jI n)])) (hC : E 11 = aI Γ 60 f) (hP : E 12 = aI Γ 60 gq41) (hA : E 13 = aI Γ 60 al) (hH : E 14 = aI Γ 60 hp) (hD : E 15 = aI Γ 61 de) (hS : E 16 = aI Γ 61 sl) (hV : E 17 = aI Γ 60 le) (hZ : E 18 = aZ Γ 60 hi) (hF : ∀ j : Nat, ¬ (12 ≤ j ∧ j ≤ 18) → E j = E0 j) (hm : 3 - kk + 1 ≤ (m : Int)), J l Γ Ω 2 ad 95 0 0 E 46 [some (.ref (ad 9)), some (.int (jI kk))] [] := by
          intro m
          induction m with
          | zero => intro kk hp al E hkk hal hB hR hC hP hA hH hD hS hV hZ hF hm; exfalso; omega
          | succ m ih46 =>
            intro kk hp al E hkk hal hB hR hC hP hA hH hD hS hV hZ hF hm
            refine J_iload_n (q := 47) X dX1_survey_46 rfl rfl ?_
            refine J_iconst (q := 48) X dX1_survey_47 rfl ?_
            refine J_icmp_ge (q := 51) (tgt := 66) X dX1_survey_48 (by decide) rfl (by omega) (by omega) (fun cq48 => ?_) (fun cq48 => ?_)
            · refine J_aload_n (q := 67) X dX1_survey_66 rfl rfl ?_
              refine J_callV (q := 70) (jrV X mX1_49 dX1_survey_67 (c_X1_countAlong hB hR hC hD hS hv hd0 hs0) hB (by omega) rfl rfl rfl rfl (Nat.le_of_ble_eq_true rfl) (by decide)) rfl (fun Ew67 hpq67 => ?_)
              obtain ⟨deq67, slq67, kD, kS, hdeq67, hslq67, hsq67⟩ := hpq67
              replace hD := kD
              replace hS := kS
              replace hB := (hsq67 9 (by omega)).trans hB
              replace hR := (hsq67 10 (by omega)).trans hR
              replace hC := (hsq67 11 (by omega)).trans hC
              replace hP := (hsq67 12 (by omega)).trans hP
              replace hA := (hsq67 13 (by omega)).trans hA
              replace hH := (hsq67 14 (by omega)).trans hH
              replace hV := (hsq67 17 (by omega)).trans hV
              replace hZ := (hsq67 18 (by omega)).trans hZ
              replace hF : ∀ j : Nat, ¬ (12 ≤ j ∧ j ≤ 18) → Ew67 j = E0 j := fun j hj => (hsq67 j (by omega)).trans (hF j hj)
              refine J_aload_n (q := 71) X dX1_survey_70 rfl rfl ?_
              refine J_callV (q := 74) (jrV X mX1_52 dX1_survey_71 (c_X1_nest hB hR hC hP hS hV hZ hv hpa2 hslq67) hB (by omega) rfl rfl rfl rfl (Nat.le_of_ble_eq_true rfl) (by decide)) rfl (fun Ew71 hpq71 => ?_)
              obtain ⟨leq71, hiq71, kV, kZ, hleq71, hhiq71, hsq71⟩ := hpq71
              replace hV := kV
              replace hZ := kZ
              replace hB := (hsq71 9 (by omega)).trans hB
              replace hR := (hsq71 10 (by omega)).trans hR
              replace hC := (hsq71 11 (by omega)).trans hC
              replace hP := (hsq71 12 (by omega)).trans hP
              replace hA := (hsq71 13 (by omega)).trans hA
              replace hH := (hsq71 14 (by omega)).trans hH
              replace hD := (hsq71 15 (by omega)).trans hD
              replace hS := (hsq71 16 (by omega)).trans hS
              replace hF : ∀ j : Nat, ¬ (12 ≤ j ∧ j ≤ 18) → Ew71 j = E0 j := fun j hj => (hsq71 j (by omega)).trans (hF j hj)
              refine J_vret X R dX1_survey_74 ?_
              rw [hE0] at hF
              refine ⟨rfl, _, _, _, _, _, _, _, hP, hA, hH, hD, hS, hV, hZ, ⟨hpa2, fun j a b => ?_, hdeq67, hslq67, hleq71, hhiq71⟩, hF⟩
              rw [hal j a b]
              unfold alF
              have hkb := knd_bd (f j % 128)
              by_cases hb : brk (f j % 128)
              · rw [if_pos hb, if_pos ⟨hb, by omega⟩]
              · rw [if_neg hb, if_neg (fun z => hb z.1)]
            · refine J_aload_n (q := 52) X dX1_survey_51 rfl rfl ?_
              refine J_iload_n (q := 53) X dX1_survey_52 rfl rfl ?_
              refine J_aload_n (q := 54) X dX1_survey_53 rfl rfl ?_
              refine J_get (q := 57) X dX1_survey_54 fX1_22 hB (by omega) rfl rfl ?_
              refine J_callV (q := 60) (jrV X mX1_45 dX1_survey_57 (c_X1_pairUp hB hR hC hH hA hv (Or.inr rfl) (by omega) (fun j a b hk => by rw [hal j a b, if_neg (by have := hk.2; omega)])) hB (by omega) rfl rfl rfl rfl (Nat.le_of_ble_eq_true rfl) (by decide)) rfl (fun Ew57 hpq57 => ?_)
              obtain ⟨hqq57, gq57, kH, kA, hgq57, hsq57⟩ := hpq57
              replace hH := kH
              replace hA := kA
              replace hB := (hsq57 9 (by omega)).trans hB
              replace hR := (hsq57 10 (by omega)).trans hR
              replace hC := (hsq57 11 (by omega)).trans hC
              replace hP := (hsq57 12 (by omega)).trans hP
              replace hD := (hsq57 15 (by omega)).trans hD
              replace hS := (hsq57 16 (by omega)).trans hS
              replace hV := (hsq57 17 (by omega)).trans hV
              replace hZ := (hsq57 18 (by omega)).trans hZ
              replace hF : ∀ j : Nat, ¬ (12 ≤ j ∧ j ≤ 18) → Ew57 j = E0 j := fun j hj => (hsq57 j (by omega)).trans (hF j hj)
              refine J_iinc (q := 63) X dX1_survey_60 rfl (by decide) rfl rfl ?_
              refine J_goto (q := 46) X dX1_survey_63 (by decide) ?_
              refine ih46 _ _ _ _ (by omega) (fun j a b => ?_) hB hR hC hP hA hH hD hS hV hZ hF (by omega)
              rw [hgq57 j a b]
              have hkb := knd_bd (f j % 128)
              by_cases hk : isK (f j % 128) kk
              · rw [if_pos hk, if_pos ⟨hk.1, by have := hk.2; omega⟩]
                rw [show knd (f j % 128) = kk by have := hk.2; omega]
              · rw [if_neg hk, hal j a b]
                by_cases hb : brk (f j % 128) ∧ knd (f j % 128) < kk
                · rw [if_pos hb, if_pos ⟨hb.1, by omega⟩]
                · rw [if_neg hb, if_neg (fun z => ?_)]
                  by_cases hq : knd (f j % 128) = kk
                  · exact hk ⟨z.1, Or.inr hq⟩
                  · exact hb ⟨z.1, by omega⟩
        exact lp46 100 _ _ _ _ (by omega) (fun j a b => by rw [if_neg (by have := knd_brk (f j % 128); have := knd_bd (f j % 128); omega)]; exact (hfil j a (by omega)).2) hB hR hC hP hA hH hD hS hV hZ hF (by omega)
      · refine J_aload_n (q := 14) X dX1_survey_13 rfl rfl ?_
        refine J_get (q := 17) X dX1_survey_14 fX1_18 hB (by omega) rfl rfl ?_
        refine J_iload_n (q := 18) X dX1_survey_17 rfl rfl ?_
        refine J_bipush (q := 20) X dX1_survey_18 rfl (by decide) ?_
        refine J_iast (q := 21) X dX1_survey_20 hP (by omega) (by omega) (by decide) rfl (fun Ew20 hkq20 hsq20 => ?_)
        replace hP := hkq20
        replace hB := (hsq20 9 (by omega)).trans hB
        replace hR := (hsq20 10 (by omega)).trans hR
        replace hC := (hsq20 11 (by omega)).trans hC
        replace hA := (hsq20 13 (by omega)).trans hA
        replace hH := (hsq20 14 (by omega)).trans hH
        replace hD := (hsq20 15 (by omega)).trans hD
        replace hS := (hsq20 16 (by omega)).trans hS
        replace hV := (hsq20 17 (by omega)).trans hV
        replace hZ := (hsq20 18 (by omega)).trans hZ
        replace hF : ∀ j : Nat, ¬ (12 ≤ j ∧ j ≤ 18) → Ew20 j = E0 j := fun j hj => (hsq20 j (by omega)).trans (hF j hj)
        refine J_aload_n (q := 22) X dX1_survey_21 rfl rfl ?_
        refine J_get (q := 25) X dX1_survey_22 fX1_22 hB (by omega) rfl rfl ?_
        refine J_iload_n (q := 26) X dX1_survey_25 rfl rfl ?_
        refine J_bipush (q := 28) X dX1_survey_26 rfl (by decide) ?_
        refine J_iast (q := 29) X dX1_survey_28 hA (by omega) (by omega) (by decide) rfl (fun Ew28 hkq28 hsq28 => ?_)
        replace hA := hkq28
        replace hB := (hsq28 9 (by omega)).trans hB
        replace hR := (hsq28 10 (by omega)).trans hR
        replace hC := (hsq28 11 (by omega)).trans hC
        replace hP := (hsq28 12 (by omega)).trans hP
        replace hH := (hsq28 14 (by omega)).trans hH
        replace hD := (hsq28 15 (by omega)).trans hD
        replace hS := (hsq28 16 (by omega)).trans hS
        replace hV := (hsq28 17 (by omega)).trans hV
        replace hZ := (hsq28 18 (by omega)).trans hZ
        replace hF : ∀ j : Nat, ¬ (12 ≤ j ∧ j ≤ 18) → Ew28 j = E0 j := fun j hj => (hsq28 j (by omega)).trans (hF j hj)
        refine J_iinc (q := 32) X dX1_survey_29 rfl (by decide) rfl rfl ?_
        refine J_goto (q := 2) X dX1_survey_32 (by decide) ?_
        refine ih2 _ _ _ _ (by omega) (fun j a b => ?_) hB hR hC hP hA hH hD hS hV hZ hF (by omega)
        simp only [iu]
        by_cases hj : j = i
        · rw [if_pos hj, if_pos hj]; exact ⟨rfl, rfl⟩
        · rw [if_neg hj, if_neg hj]; exact hfil j a (by omega)
  exact lp2 100 _ _ _ _ (by omega) (fun j a b => by omega) hB hR hC hP hA hH hD hS hV hZ hF (by omega)
