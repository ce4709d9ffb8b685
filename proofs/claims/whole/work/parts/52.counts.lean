set_option maxRecDepth 100000 in
set_option maxHeartbeats 4000000 in
theorem c_X10_isFolded {l : Launch} {Γ : JG} {ad : Nat → Nat} {E : Nat → va_E} {m0 m1 m2 m3 m4 m5 m6 m7 m8 m9 m10 m11 m12 m13 m14 : Int} {g pa : Int → Int} {n i : Int} {f : Int → Int}  (hM : E 78 = .inr (9, [.ref (ad 79), .ref (ad 80), .int (jI m0), .int (jI m1), .int (jI m2), .int (jI m3), .int (jI m4), .int (jI m5), .int (jI m6), .int (jI m7), .int (jI m8), .int (jI m9), .int (jI m10), .int (jI m11), .ref (ad 81), .ref (ad 82), .ref (ad 83), .ref (ad 84), .ref (ad 85), .ref (ad 86), .ref (ad 87), .ref (ad 88), .ref (ad 89), .int (jI m12), .int (jI m13), .ref (ad 90), .ref (ad 91), .ref (ad 92), .ref (ad 93), .ref (ad 94), .int (jI m14)])) (hS : E 79 = aI Γ 305 g) (hPa : E 85 = aI Γ 60 pa) (hg : MS g n f) (hv : VR f n) (hpa : ∀ j, 0 ≤ j → j < n → pa j = prt 3 f n j) (hi : 0 ≤ i ∧ i < n) : JM l Γ yX10_isFolded cX10_isFolded 4 (some .boolean) 1 21 0 0 ad 95 E [.ref (ad 78), .int (jI i)] (pP (bI (fo f n i)) E) := by
  refine JM_intro (own := RX10) [some (.ref (ad 78)), some (.int (jI i)), none, none] rfl rfl rfl (Nat.le_of_ble_eq_true rfl) ?_
  intro Ω X R hin
  obtain ⟨hgn, hgf⟩ := id hg
  obtain ⟨hn, hvr⟩ := id hv
  have egi := hgf i hi.1 hi.2
  obtain ⟨hfi, hsgi, -⟩ := hvr i hi.1 hi.2
  have epi := hpa i hi.1 hi.2
  have hpb := prt_bd (kd := 3) (f := f) (n := n) hn.1 i
  refine J_iconst (q := 1) X dX10_isFolded_0 rfl ?_
  refine J_istore_n (q := 2) X dX10_isFolded_1 (by decide) rfl rfl ?_
  refine J_iload_n (q := 3) X dX10_isFolded_2 rfl rfl ?_
  refine J_iconst (q := 4) X dX10_isFolded_3 rfl ?_
  refine J_iadd (q := 5) X dX10_isFolded_4 rfl ?_
  refine J_istore_n (q := 6) X dX10_isFolded_5 (by decide) rfl rfl ?_
  have lp6 : ∀ (m : Nat) (t : Int) (ht1 : i + 1 ≤ t ∧ t ≤ 60) (ht2 : i < prt 3 f n i → t ≤ prt 3 f n i) (ht3 : ¬ i < prt 3 f n i → t = i + 1) (hm : 61 - t + 1 ≤ (m : Int)), J l Γ Ω 4 ad 95 0 0 E 6 [some (.ref (ad 78)), some (.int (jI i)), some (.int (jI (bI (lin f (i + 1) < lin f t)))), some (.int (jI t))] [] := by
    intro m
    induction m with
    | zero => intro t ht1 ht2 ht3 hm; exfalso; omega
    | succ m ih6 =>
      intro t ht1 ht2 ht3 hm
      have hbl := bI_bd (lin f (i + 1) < lin f t)
      refine J_aload_n (q := 7) X dX10_isFolded_6 rfl rfl ?_
      refine J_iload_n (q := 8) X dX10_isFolded_7 rfl rfl ?_
      refine J_callP (q := 11) (jrV X mX10_177 dX10_isFolded_8 (c_X10_isFirst hM hS hPa hg hv hpa (by omega)) hM (by omega) rfl rfl rfl rfl (Nat.le_of_ble_eq_true rfl) (by decide)) rfl ?_
      refine J_if_eqB (q := 14) (tgt := 50) X dX10_isFolded_11 (by decide) rfl (fun cq11 => ?_) (fun cq11 => ?_)
      · have hlast : (lin f (i + 1) < lin f t) ↔ (i < prt 3 f n i ∧ lin f i < lin f (prt 3 f n i)) := by
          by_cases hfst : i < prt 3 f n i
          · have hbr := (prt_of (kd := 3) (f := f) (j := i) hn.1 (by omega)).2.2.2.2.2.2.1.1
            have hl := lin_succ f (a := i) hi.1
            rw [bI_f (show ¬ f i % 128 = 47 by omega)] at hl
            have e : t = prt 3 f n i := by have := ht2 hfst; omega
            rw [hl, e, Int.add_zero]; exact ⟨fun z => ⟨hfst, z⟩, fun z => z.2⟩
          · rw [ht3 hfst]; exact ⟨fun z => by omega, fun z => absurd z.1 hfst⟩
        refine J_iload_n (q := 51) X dX10_isFolded_50 rfl rfl ?_
        refine J_if_eq (q := 54) (tgt := 66) X dX10_isFolded_51 (by decide) rfl (by omega) (fun cq51 => ?_) (fun cq51 => ?_)
        · refine J_iconst (q := 67) X dX10_isFolded_66 rfl ?_
          refine J_zret X R dX10_isFolded_67 (nrw_z (by first | omega | exact bI_bd _)) ?_
          refine ⟨?_, rfl⟩
          by_cases hq : lin f (i + 1) < lin f t
          · have h3 := hlast.1 hq
            rw [bI_t hq] at cq51
            first | (exfalso; omega) | (rw [bI_t (show fo f n i from ⟨h3.1, cq59, h3.2⟩)]; done) | (rw [bI_f (show ¬ fo f n i from fun z => cq59 z.2.1)]; done)
          · rw [bI_f hq] at cq51
            first | (exfalso; omega) | (rw [bI_f (show ¬ fo f n i from fun z => hq (hlast.2 ⟨z.1, z.2.2⟩))]; done)
        · refine J_aload_n (q := 55) X dX10_isFolded_54 rfl rfl ?_
          refine J_iload_n (q := 56) X dX10_isFolded_55 rfl rfl ?_
          refine J_callP (q := 59) (jrV X mX10_180 dX10_isFolded_56 (c_X10_isMarked hM hS hg hv (by omega)) hM (by omega) rfl rfl rfl rfl (Nat.le_of_ble_eq_true rfl) (by decide)) rfl ?_
          refine J_if_eqB (q := 62) (tgt := 66) X dX10_isFolded_59 (by decide) rfl (fun cq59 => ?_) (fun cq59 => ?_)
          · refine J_iconst (q := 67) X dX10_isFolded_66 rfl ?_
            refine J_zret X R dX10_isFolded_67 (nrw_z (by first | omega | exact bI_bd _)) ?_
            refine ⟨?_, rfl⟩
            by_cases hq : lin f (i + 1) < lin f t
            · have h3 := hlast.1 hq
              rw [bI_t hq] at cq51
              first | (exfalso; omega) | (rw [bI_t (show fo f n i from ⟨h3.1, cq59, h3.2⟩)]; done) | (rw [bI_f (show ¬ fo f n i from fun z => cq59 z.2.1)]; done)
            · rw [bI_f hq] at cq51
              first | (exfalso; omega) | (rw [bI_f (show ¬ fo f n i from fun z => hq (hlast.2 ⟨z.1, z.2.2⟩))]; done)
          · refine J_iconst (q := 63) X dX10_isFolded_62 rfl ?_
            refine J_goto (q := 67) X dX10_isFolded_63 (by decide) ?_
            refine J_zret X R dX10_isFolded_67 (nrw_z (by first | omega | exact bI_bd _)) ?_
            refine ⟨?_, rfl⟩
            by_cases hq : lin f (i + 1) < lin f t
            · have h3 := hlast.1 hq
              rw [bI_t hq] at cq51
              first | (exfalso; omega) | (rw [bI_t (show fo f n i from ⟨h3.1, cq59, h3.2⟩)]; done) | (rw [bI_f (show ¬ fo f n i from fun z => cq59 z.2.1)]; done)
            · rw [bI_f hq] at cq51
              first | (exfalso; omega) | (rw [bI_f (show ¬ fo f n i from fun z => hq (hlast.2 ⟨z.1, z.2.2⟩))]; done)
      · refine J_iload_n (q := 15) X dX10_isFolded_14 rfl rfl ?_
        refine J_aload_n (q := 16) X dX10_isFolded_15 rfl rfl ?_
        refine J_get (q := 19) X dX10_isFolded_16 fX10_28 hM (by omega) rfl rfl ?_
        refine J_iload_n (q := 20) X dX10_isFolded_19 rfl rfl ?_
        refine J_iald (q := 21) X dX10_isFolded_20 hPa (by omega) (by omega) (by decide) rfl ?_
        refine J_icmp_ge (q := 24) (tgt := 50) X dX10_isFolded_21 (by decide) rfl (by omega) (by omega) (fun cq21 => ?_) (fun cq21 => ?_)
        · have hlast : (lin f (i + 1) < lin f t) ↔ (i < prt 3 f n i ∧ lin f i < lin f (prt 3 f n i)) := by
            by_cases hfst : i < prt 3 f n i
            · have hbr := (prt_of (kd := 3) (f := f) (j := i) hn.1 (by omega)).2.2.2.2.2.2.1.1
              have hl := lin_succ f (a := i) hi.1
              rw [bI_f (show ¬ f i % 128 = 47 by omega)] at hl
              have e : t = prt 3 f n i := by have := ht2 hfst; omega
              rw [hl, e, Int.add_zero]; exact ⟨fun z => ⟨hfst, z⟩, fun z => z.2⟩
            · rw [ht3 hfst]; exact ⟨fun z => by omega, fun z => absurd z.1 hfst⟩
          refine J_iload_n (q := 51) X dX10_isFolded_50 rfl rfl ?_
          refine J_if_eq (q := 54) (tgt := 66) X dX10_isFolded_51 (by decide) rfl (by omega) (fun cq51 => ?_) (fun cq51 => ?_)
          · refine J_iconst (q := 67) X dX10_isFolded_66 rfl ?_
            refine J_zret X R dX10_isFolded_67 (nrw_z (by first | omega | exact bI_bd _)) ?_
            refine ⟨?_, rfl⟩
            by_cases hq : lin f (i + 1) < lin f t
            · have h3 := hlast.1 hq
              rw [bI_t hq] at cq51
              first | (exfalso; omega) | (rw [bI_t (show fo f n i from ⟨h3.1, cq59, h3.2⟩)]; done) | (rw [bI_f (show ¬ fo f n i from fun z => cq59 z.2.1)]; done)
            · rw [bI_f hq] at cq51
              first | (exfalso; omega) | (rw [bI_f (show ¬ fo f n i from fun z => hq (hlast.2 ⟨z.1, z.2.2⟩))]; done)
          · refine J_aload_n (q := 55) X dX10_isFolded_54 rfl rfl ?_
            refine J_iload_n (q := 56) X dX10_isFolded_55 rfl rfl ?_
            refine J_callP (q := 59) (jrV X mX10_180 dX10_isFolded_56 (c_X10_isMarked hM hS hg hv (by omega)) hM (by omega) rfl rfl rfl rfl (Nat.le_of_ble_eq_true rfl) (by decide)) rfl ?_
            refine J_if_eqB (q := 62) (tgt := 66) X dX10_isFolded_59 (by decide) rfl (fun cq59 => ?_) (fun cq59 => ?_)
            · refine J_iconst (q := 67) X dX10_isFolded_66 rfl ?_
              refine J_zret X R dX10_isFolded_67 (nrw_z (by first | omega | exact bI_bd _)) ?_
              refine ⟨?_, rfl⟩
              by_cases hq : lin f (i + 1) < lin f t
              · have h3 := hlast.1 hq
                rw [bI_t hq] at cq51
                first | (exfalso; omega) | (rw [bI_t (show fo f n i from ⟨h3.1, cq59, h3.2⟩)]; done) | (rw [bI_f (show ¬ fo f n i from fun z => cq59 z.2.1)]; done)
              · rw [bI_f hq] at cq51
                first | (exfalso; omega) | (rw [bI_f (show ¬ fo f n i from fun z => hq (hlast.2 ⟨z.1, z.2.2⟩))]; done)
            · refine J_iconst (q := 63) X dX10_isFolded_62 rfl ?_
              refine J_goto (q := 67) X dX10_isFolded_63 (by decide) ?_
              refine J_zret X R dX10_isFolded_67 (nrw_z (by first | omega | exact bI_bd _)) ?_
              refine ⟨?_, rfl⟩
              by_cases hq : lin f (i + 1) < lin f t
              · have h3 := hlast.1 hq
                rw [bI_t hq] at cq51
                first | (exfalso; omega) | (rw [bI_t (show fo f n i from ⟨h3.1, cq59, h3.2⟩)]; done) | (rw [bI_f (show ¬ fo f n i from fun z => cq59 z.2.1)]; done)
              · rw [bI_f hq] at cq51
                first | (exfalso; omega) | (rw [bI_f (show ¬ fo f n i from fun z => hq (hlast.2 ⟨z.1, z.2.2⟩))]; done)
        · refine J_iload_n (q := 25) X dX10_isFolded_24 rfl rfl ?_
          refine J_if_ne (q := 28) (tgt := 38) X dX10_isFolded_25 (by decide) rfl (by omega) (fun cq25 => ?_) (fun cq25 => ?_)
          · refine J_iconst (q := 39) X dX10_isFolded_38 rfl ?_
            refine J_goto (q := 43) X dX10_isFolded_39 (by decide) ?_
            refine J_istore_n (q := 44) X dX10_isFolded_43 (by decide) rfl rfl ?_
            refine J_iinc (q := 47) X dX10_isFolded_44 rfl (by decide) rfl rfl ?_
            refine J_goto (q := 6) X dX10_isFolded_47 (by decide) ?_
            have hl := lin_succ f (a := t) (by omega)
            have hmo := lin_mono f (a := i + 1) (b := t) (by omega) (by omega)
            have hx := ih6 (t + 1) (by omega) (by omega) (fun z => absurd cq11 z) (by omega)
            by_cases h1 : lin f (i + 1) < lin f t
            · have hbb := bI_bd (f t % 128 = 47)
              rw [bI_t (show lin f (i + 1) < lin f (t + 1) by omega)] at hx
              rw [bI_t h1] at cq25
              first | exact hx | (exfalso; omega)
            · rw [bI_f h1] at cq25
              by_cases h2 : f t % 128 = 47
              · rw [bI_t h2] at hl
                rw [bI_t (show lin f (i + 1) < lin f (t + 1) by omega)] at hx
                first | exact hx | (exfalso; omega)
              · rw [bI_f h2] at hl
                rw [bI_f (show ¬ lin f (i + 1) < lin f (t + 1) by omega)] at hx
                first | exact hx | (exfalso; omega)
          · refine J_aload_n (q := 29) X dX10_isFolded_28 rfl rfl ?_
            refine J_iload_n (q := 30) X dX10_isFolded_29 rfl rfl ?_
            refine J_callP (q := 33) (jrV X mX10_170 dX10_isFolded_30 (c_X10_signAt hM hS hg hv (by omega)) hM (by omega) rfl rfl rfl rfl (Nat.le_of_ble_eq_true rfl) (by decide)) rfl ?_
            refine J_bipush (q := 35) X dX10_isFolded_33 rfl (by decide) ?_
            refine J_icmp_ne (q := 38) (tgt := 42) X dX10_isFolded_35 (by decide) rfl (by omega) (by omega) (fun cq35 => ?_) (fun cq35 => ?_)
            · refine J_iconst (q := 43) X dX10_isFolded_42 rfl ?_
              refine J_istore_n (q := 44) X dX10_isFolded_43 (by decide) rfl rfl ?_
              refine J_iinc (q := 47) X dX10_isFolded_44 rfl (by decide) rfl rfl ?_
              refine J_goto (q := 6) X dX10_isFolded_47 (by decide) ?_
              have hl := lin_succ f (a := t) (by omega)
              have hmo := lin_mono f (a := i + 1) (b := t) (by omega) (by omega)
              have hx := ih6 (t + 1) (by omega) (by omega) (fun z => absurd cq11 z) (by omega)
              by_cases h1 : lin f (i + 1) < lin f t
              · have hbb := bI_bd (f t % 128 = 47)
                rw [bI_t (show lin f (i + 1) < lin f (t + 1) by omega)] at hx
                rw [bI_t h1] at cq25
                first | exact hx | (exfalso; omega)
              · rw [bI_f h1] at cq25
                by_cases h2 : f t % 128 = 47
                · rw [bI_t h2] at hl
                  rw [bI_t (show lin f (i + 1) < lin f (t + 1) by omega)] at hx
                  first | exact hx | (exfalso; omega)
                · rw [bI_f h2] at hl
                  rw [bI_f (show ¬ lin f (i + 1) < lin f (t + 1) by omega)] at hx
                  first | exact hx | (exfalso; omega)
            · refine J_iconst (q := 39) X dX10_isFolded_38 rfl ?_
              refine J_goto (q := 43) X dX10_isFolded_39 (by decide) ?_
              refine J_istore_n (q := 44) X dX10_isFolded_43 (by decide) rfl rfl ?_
              refine J_iinc (q := 47) X dX10_isFolded_44 rfl (by decide) rfl rfl ?_
              refine J_goto (q := 6) X dX10_isFolded_47 (by decide) ?_
              have hl := lin_succ f (a := t) (by omega)
              have hmo := lin_mono f (a := i + 1) (b := t) (by omega) (by omega)
              have hx := ih6 (t + 1) (by omega) (by omega) (fun z => absurd cq11 z) (by omega)
              by_cases h1 : lin f (i + 1) < lin f t
              · have hbb := bI_bd (f t % 128 = 47)
                rw [bI_t (show lin f (i + 1) < lin f (t + 1) by omega)] at hx
                rw [bI_t h1] at cq25
                first | exact hx | (exfalso; omega)
              · rw [bI_f h1] at cq25
                by_cases h2 : f t % 128 = 47
                · rw [bI_t h2] at hl
                  rw [bI_t (show lin f (i + 1) < lin f (t + 1) by omega)] at hx
                  first | exact hx | (exfalso; omega)
                · rw [bI_f h2] at hl
                  rw [bI_f (show ¬ lin f (i + 1) < lin f (t + 1) by omega)] at hx
                  first | exact hx | (exfalso; omega)
  rw [show (0 : Int) = bI (lin f (i + 1) < lin f (i + 1)) by rw [bI_f (by omega)]]
  exact lp6 100 _ (by omega) (by omega) (fun _ => rfl) (by omega)

set_option maxRecDepth 100000 in
set_option maxHeartbeats 4000000 in
theorem c_X10_isHidden {l : Launch} {Γ : JG} {ad : Nat → Nat} {E : Nat → va_E} {m0 m1 m2 m3 m4 m5 m6 m7 m8 m9 m10 m11 m12 m13 m14 : Int} {g pa : Int → Int} {n i : Int} {f : Int → Int}  (hM : E 78 = .inr (9, [.ref (ad 79), .ref (ad 80), .int (jI m0), .int (jI m1), .int (jI m2), .int (jI m3), .int (jI m4), .int (jI m5), .int (jI m6), .int (jI m7), .int (jI m8), .int (jI m9), .int (jI m10), .int (jI m11), .ref (ad 81), .ref (ad 82), .ref (ad 83), .ref (ad 84), .ref (ad 85), .ref (ad 86), .ref (ad 87), .ref (ad 88), .ref (ad 89), .int (jI m12), .int (jI m13), .ref (ad 90), .ref (ad 91), .ref (ad 92), .ref (ad 93), .ref (ad 94), .int (jI m14)])) (hS : E 79 = aI Γ 305 g) (hPa : E 85 = aI Γ 60 pa) (hg : MS g n f) (hv : VR f n) (hpa : ∀ j, 0 ≤ j → j < n → pa j = prt 3 f n j) (hi : 0 ≤ i ∧ i < n) : JM l Γ yX10_isHidden cX10_isHidden 4 (some .boolean) 2 44 0 0 ad 95 E [.ref (ad 78), .int (jI i)] (pP (bI (hid f n i)) E) := by
  refine JM_intro (own := RX10) [some (.ref (ad 78)), some (.int (jI i)), none, none] rfl rfl rfl (Nat.le_of_ble_eq_true rfl) ?_
  intro Ω X R hin
  obtain ⟨hgn, hgf⟩ := id hg
  obtain ⟨hn, hvr⟩ := id hv
  refine J_iconst (q := 1) X dX10_isHidden_0 rfl ?_
  refine J_istore_n (q := 2) X dX10_isHidden_1 (by decide) rfl rfl ?_
  refine J_iconst (q := 3) X dX10_isHidden_2 rfl ?_
  refine J_istore_n (q := 4) X dX10_isHidden_3 (by decide) rfl rfl ?_
  have lp4 : ∀ (m : Nat) (t : Int) (ht : 0 ≤ t ∧ t ≤ i) (hm : i - t + 1 ≤ (m : Int)), J l Γ Ω 4 ad 95 0 0 E 4 [some (.ref (ad 78)), some (.int (jI i)), some (.int (jI (bI (0 < smI (fun k => bI (i < prt 3 f n k ∧ fo f n k)) t)))), some (.int (jI t))] [] := by
    intro m
    induction m with
    | zero => intro t ht hm; exfalso; omega
    | succ m ih4 =>
      intro t ht hm
      have hbl := bI_bd (0 < smI (fun k => bI (i < prt 3 f n k ∧ fo f n k)) t)
      refine J_iload_n (q := 5) X dX10_isHidden_4 rfl rfl ?_
      refine J_iload_n (q := 6) X dX10_isHidden_5 rfl rfl ?_
      refine J_icmp_ge (q := 9) (tgt := 43) X dX10_isHidden_6 (by decide) rfl (by omega) (by omega) (fun cq6 => ?_) (fun cq6 => ?_)
      · refine J_iload_n (q := 44) X dX10_isHidden_43 rfl rfl ?_
        refine J_zret X R dX10_isHidden_44 (nrw_z (by first | omega | exact bI_bd _)) ?_
        exact ⟨by rw [show t = i by omega]; rfl, rfl⟩
      · refine J_iload_n (q := 10) X dX10_isHidden_9 rfl rfl ?_
        refine J_if_ne (q := 13) (tgt := 31) X dX10_isHidden_10 (by decide) rfl (by omega) (fun cq10 => ?_) (fun cq10 => ?_)
        · refine J_iconst (q := 32) X dX10_isHidden_31 rfl ?_
          refine J_goto (q := 36) X dX10_isHidden_32 (by decide) ?_
          refine J_istore_n (q := 37) X dX10_isHidden_36 (by decide) rfl rfl ?_
          refine J_iinc (q := 40) X dX10_isHidden_37 rfl (by decide) rfl rfl ?_
          refine J_goto (q := 4) X dX10_isHidden_40 (by decide) ?_
          have hsb := smB_bd (g := fun k => bI (i < prt 3 f n k ∧ fo f n k)) (fun _ => bI_bd _) ht.1
          have hpt := hpa t ht.1 (by omega)
          have hx := ih4 (t + 1) (by omega) (by omega)
          rw [smI_succ (fun k => bI (i < prt 3 f n k ∧ fo f n k)) ht.1] at hx
          by_cases h1 : 0 < smI (fun k => bI (i < prt 3 f n k ∧ fo f n k)) t
          · have hp1 : 0 < smI (fun k => bI (i < prt 3 f n k ∧ fo f n k)) t + bI (i < prt 3 f n t ∧ fo f n t) := by have := bI_bd (i < prt 3 f n t ∧ fo f n t); omega
            rw [bI_t hp1] at hx
            rw [bI_t h1] at cq10
            first | exact hx | (exfalso; omega)
          · rw [bI_f h1] at cq10
            by_cases h2 : i < prt 3 f n t ∧ fo f n t
            · rw [bI_t h2, bI_t (show 0 < smI (fun k => bI (i < prt 3 f n k ∧ fo f n k)) t + 1 by omega)] at hx
              have h21 := h2.1
              first | exact hx | (exfalso; omega) | exact absurd h2.2 cq28
            · rw [bI_f h2, bI_f (show ¬ 0 < smI (fun k => bI (i < prt 3 f n k ∧ fo f n k)) t + 0 by omega)] at hx
              first | exact hx | (exfalso; omega) | exact absurd ⟨by omega, cq28⟩ h2
        · refine J_aload_n (q := 14) X dX10_isHidden_13 rfl rfl ?_
          refine J_get (q := 17) X dX10_isHidden_14 fX10_28 hM (by omega) rfl rfl ?_
          refine J_iload_n (q := 18) X dX10_isHidden_17 rfl rfl ?_
          refine J_iald (q := 19) X dX10_isHidden_18 hPa (by omega) (by omega) (by decide) rfl ?_
          refine J_iload_n (q := 20) X dX10_isHidden_19 rfl rfl ?_
          refine J_icmp_le (q := 23) (tgt := 35) X dX10_isHidden_20 (by decide) rfl (by have := hpa t ht.1 (by omega); have := prt_bd (kd := 3) (f := f) (n := n) hn.1 t; omega) (by omega) (fun cq20 => ?_) (fun cq20 => ?_)
          · refine J_iconst (q := 36) X dX10_isHidden_35 rfl ?_
            refine J_istore_n (q := 37) X dX10_isHidden_36 (by decide) rfl rfl ?_
            refine J_iinc (q := 40) X dX10_isHidden_37 rfl (by decide) rfl rfl ?_
            refine J_goto (q := 4) X dX10_isHidden_40 (by decide) ?_
            have hsb := smB_bd (g := fun k => bI (i < prt 3 f n k ∧ fo f n k)) (fun _ => bI_bd _) ht.1
            have hpt := hpa t ht.1 (by omega)
            have hx := ih4 (t + 1) (by omega) (by omega)
            rw [smI_succ (fun k => bI (i < prt 3 f n k ∧ fo f n k)) ht.1] at hx
            by_cases h1 : 0 < smI (fun k => bI (i < prt 3 f n k ∧ fo f n k)) t
            · have hp1 : 0 < smI (fun k => bI (i < prt 3 f n k ∧ fo f n k)) t + bI (i < prt 3 f n t ∧ fo f n t) := by have := bI_bd (i < prt 3 f n t ∧ fo f n t); omega
              rw [bI_t hp1] at hx
              rw [bI_t h1] at cq10
              first | exact hx | (exfalso; omega)
            · rw [bI_f h1] at cq10
              by_cases h2 : i < prt 3 f n t ∧ fo f n t
              · rw [bI_t h2, bI_t (show 0 < smI (fun k => bI (i < prt 3 f n k ∧ fo f n k)) t + 1 by omega)] at hx
                have h21 := h2.1
                first | exact hx | (exfalso; omega) | exact absurd h2.2 cq28
              · rw [bI_f h2, bI_f (show ¬ 0 < smI (fun k => bI (i < prt 3 f n k ∧ fo f n k)) t + 0 by omega)] at hx
                first | exact hx | (exfalso; omega) | exact absurd ⟨by omega, cq28⟩ h2
          · refine J_aload_n (q := 24) X dX10_isHidden_23 rfl rfl ?_
            refine J_iload_n (q := 25) X dX10_isHidden_24 rfl rfl ?_
            refine J_callP (q := 28) (jrV X mX10_183 dX10_isHidden_25 (c_X10_isFolded hM hS hPa hg hv hpa (by omega)) hM (by omega) rfl rfl rfl rfl (Nat.le_of_ble_eq_true rfl) (by decide)) rfl ?_
            refine J_if_eqB (q := 31) (tgt := 35) X dX10_isHidden_28 (by decide) rfl (fun cq28 => ?_) (fun cq28 => ?_)
            · refine J_iconst (q := 36) X dX10_isHidden_35 rfl ?_
              refine J_istore_n (q := 37) X dX10_isHidden_36 (by decide) rfl rfl ?_
              refine J_iinc (q := 40) X dX10_isHidden_37 rfl (by decide) rfl rfl ?_
              refine J_goto (q := 4) X dX10_isHidden_40 (by decide) ?_
              have hsb := smB_bd (g := fun k => bI (i < prt 3 f n k ∧ fo f n k)) (fun _ => bI_bd _) ht.1
              have hpt := hpa t ht.1 (by omega)
              have hx := ih4 (t + 1) (by omega) (by omega)
              rw [smI_succ (fun k => bI (i < prt 3 f n k ∧ fo f n k)) ht.1] at hx
              by_cases h1 : 0 < smI (fun k => bI (i < prt 3 f n k ∧ fo f n k)) t
              · have hp1 : 0 < smI (fun k => bI (i < prt 3 f n k ∧ fo f n k)) t + bI (i < prt 3 f n t ∧ fo f n t) := by have := bI_bd (i < prt 3 f n t ∧ fo f n t); omega
                rw [bI_t hp1] at hx
                rw [bI_t h1] at cq10
                first | exact hx | (exfalso; omega)
              · rw [bI_f h1] at cq10
                by_cases h2 : i < prt 3 f n t ∧ fo f n t
                · rw [bI_t h2, bI_t (show 0 < smI (fun k => bI (i < prt 3 f n k ∧ fo f n k)) t + 1 by omega)] at hx
                  have h21 := h2.1
                  first | exact hx | (exfalso; omega) | exact absurd h2.2 cq28
                · rw [bI_f h2, bI_f (show ¬ 0 < smI (fun k => bI (i < prt 3 f n k ∧ fo f n k)) t + 0 by omega)] at hx
                  first | exact hx | (exfalso; omega) | exact absurd ⟨by omega, cq28⟩ h2
            · refine J_iconst (q := 32) X dX10_isHidden_31 rfl ?_
              refine J_goto (q := 36) X dX10_isHidden_32 (by decide) ?_
              refine J_istore_n (q := 37) X dX10_isHidden_36 (by decide) rfl rfl ?_
              refine J_iinc (q := 40) X dX10_isHidden_37 rfl (by decide) rfl rfl ?_
              refine J_goto (q := 4) X dX10_isHidden_40 (by decide) ?_
              have hsb := smB_bd (g := fun k => bI (i < prt 3 f n k ∧ fo f n k)) (fun _ => bI_bd _) ht.1
              have hpt := hpa t ht.1 (by omega)
              have hx := ih4 (t + 1) (by omega) (by omega)
              rw [smI_succ (fun k => bI (i < prt 3 f n k ∧ fo f n k)) ht.1] at hx
              by_cases h1 : 0 < smI (fun k => bI (i < prt 3 f n k ∧ fo f n k)) t
              · have hp1 : 0 < smI (fun k => bI (i < prt 3 f n k ∧ fo f n k)) t + bI (i < prt 3 f n t ∧ fo f n t) := by have := bI_bd (i < prt 3 f n t ∧ fo f n t); omega
                rw [bI_t hp1] at hx
                rw [bI_t h1] at cq10
                first | exact hx | (exfalso; omega)
              · rw [bI_f h1] at cq10
                by_cases h2 : i < prt 3 f n t ∧ fo f n t
                · rw [bI_t h2, bI_t (show 0 < smI (fun k => bI (i < prt 3 f n k ∧ fo f n k)) t + 1 by omega)] at hx
                  have h21 := h2.1
                  first | exact hx | (exfalso; omega) | exact absurd h2.2 cq28
                · rw [bI_f h2, bI_f (show ¬ 0 < smI (fun k => bI (i < prt 3 f n k ∧ fo f n k)) t + 0 by omega)] at hx
                  first | exact hx | (exfalso; omega) | exact absurd ⟨by omega, cq28⟩ h2
  rw [show (0 : Int) = bI (0 < smI (fun k => bI (i < prt 3 f n k ∧ fo f n k)) 0) by rfl]
  exact lp4 100 0 (by omega) (by omega)

set_option maxRecDepth 100000 in
set_option maxHeartbeats 4000000 in
theorem c_X10_isCounted {l : Launch} {Γ : JG} {ad : Nat → Nat} {E : Nat → va_E} {m0 m1 m2 m3 m4 m5 m6 m7 m8 m9 m10 m11 m12 m13 m14 : Int} {g pa : Int → Int} {n w i : Int} {f : Int → Int}  (hM : E 78 = .inr (9, [.ref (ad 79), .ref (ad 80), .int (jI m0), .int (jI m1), .int (jI m2), .int (jI m3), .int (jI m4), .int (jI m5), .int (jI m6), .int (jI m7), .int (jI m8), .int (jI m9), .int (jI m10), .int (jI m11), .ref (ad 81), .ref (ad 82), .ref (ad 83), .ref (ad 84), .ref (ad 85), .ref (ad 86), .ref (ad 87), .ref (ad 88), .ref (ad 89), .int (jI m12), .int (jI m13), .ref (ad 90), .ref (ad 91), .ref (ad 92), .ref (ad 93), .ref (ad 94), .int (jI m14)])) (hS : E 79 = aI Γ 305 g) (hPa : E 85 = aI Γ 60 pa) (hg : MS g n f) (hv : VR f n) (hpa : ∀ j, 0 ≤ j → j < n → pa j = prt 3 f n j) (hi : 0 ≤ i ∧ i < n) (hw : 2 ≤ w ∧ w ≤ 7) : JM l Γ yX10_isCounted cX10_isCounted 3 (some .boolean) 3 67 0 0 ad 95 E [.ref (ad 78), .int (jI w), .int (jI i)] (pP (bI (bel f n w i)) E) := by
  refine JM_intro (own := RX10) [some (.ref (ad 78)), some (.int (jI w)), some (.int (jI i))] rfl rfl rfl (Nat.le_of_ble_eq_true rfl) ?_
  intro Ω X R hin
  obtain ⟨hgn, hgf⟩ := id hg
  obtain ⟨hn, hvr⟩ := id hv
  have egi := hgf i hi.1 hi.2
  obtain ⟨hfi, hsgi, -⟩ := hvr i hi.1 hi.2
  have epi := hpa i hi.1 hi.2
  have hpb := prt_bd (kd := 3) (f := f) (n := n) hn.1 i
  refine J_iload_n (q := 1) X dX10_isCounted_0 rfl rfl ?_
  rcases (show (w < 2 ∨ 6 < w) ∨ w = 2 ∨ w = 3 ∨ w = 4 ∨ w = 5 ∨ w = 6 by omega) with hsw | hsw | hsw | hsw | hsw | hsw
  · refine J_tableOut (tgt := 82) X dX10_isCounted_1 (by omega) hsw (by decide) ?_
    refine J_aload_n (q := 83) X dX10_isCounted_82 rfl rfl ?_
    refine J_iload_n (q := 84) X dX10_isCounted_83 rfl rfl ?_
    refine J_callP (q := 87) (jrV X mX10_180 dX10_isCounted_84 (c_X10_isMarked hM hS hg hv (by omega)) hM (by omega) rfl rfl rfl rfl (Nat.le_of_ble_eq_true rfl) (by decide)) rfl ?_
    refine J_zret X R dX10_isCounted_87 (nrw_z (by first | omega | exact bI_bd _)) ?_
    refine ⟨?_, rfl⟩
    first
      | (rw [bI_f (show ¬ bel f n w i by rintro (z | z | z | z | z | z) <;> first | (exfalso; omega) | exact cq61 z.2.2)]; done)
      | (rw [bI_t (show bel f n w i from Or.inr (Or.inr (Or.inl ⟨hsw, cq53, cq61⟩)))]; done)
      | (rw [bI_iff (show i < prt 3 f n i ↔ bel f n w i from ⟨fun z => Or.inl ⟨hsw, z⟩, fun z => by rcases z with z | z | z | z | z | z <;> first | exact z.2 | (exfalso; omega)⟩)]; done)
      | (rw [bI_iff (show bre f n i ↔ bel f n w i from ⟨fun z => Or.inr (Or.inl ⟨hsw, z⟩), fun z => by rcases z with z | z | z | z | z | z <;> first | exact z.2 | (exfalso; omega)⟩)]; done)
      | (rw [bI_iff (show fo f n i ↔ bel f n w i from ⟨fun z => Or.inr (Or.inr (Or.inr (Or.inl ⟨hsw, z⟩))), fun z => by rcases z with z | z | z | z | z | z <;> first | exact z.2 | (exfalso; omega)⟩)]; done)
      | (rw [bI_iff (show hid f n i ↔ bel f n w i from ⟨fun z => Or.inr (Or.inr (Or.inr (Or.inr (Or.inl ⟨hsw, z⟩)))), fun z => by rcases z with z | z | z | z | z | z <;> first | exact z.2 | (exfalso; omega)⟩)]; done)
      | (rw [bI_iff (show 128 ≤ f i ↔ bel f n w i from ⟨fun z => Or.inr (Or.inr (Or.inr (Or.inr (Or.inr ⟨by omega, z⟩)))), fun z => by rcases z with z | z | z | z | z | z <;> first | exact z.2 | (exfalso; omega)⟩)]; done)
  · refine J_tableIn (tgt := 36) (v := 2) (off := 35) X dX10_isCounted_1 hsw (by decide) rfl (by decide) ?_
    refine J_aload_n (q := 37) X dX10_isCounted_36 rfl rfl ?_
    refine J_iload_n (q := 38) X dX10_isCounted_37 rfl rfl ?_
    refine J_callP (q := 41) (jrV X mX10_177 dX10_isCounted_38 (c_X10_isFirst hM hS hPa hg hv hpa (by omega)) hM (by omega) rfl rfl rfl rfl (Nat.le_of_ble_eq_true rfl) (by decide)) rfl ?_
    refine J_zret X R dX10_isCounted_41 (nrw_z (by first | omega | exact bI_bd _)) ?_
    refine ⟨?_, rfl⟩
    first
      | (rw [bI_f (show ¬ bel f n w i by rintro (z | z | z | z | z | z) <;> first | (exfalso; omega) | exact cq61 z.2.2)]; done)
      | (rw [bI_t (show bel f n w i from Or.inr (Or.inr (Or.inl ⟨hsw, cq53, cq61⟩)))]; done)
      | (rw [bI_iff (show i < prt 3 f n i ↔ bel f n w i from ⟨fun z => Or.inl ⟨hsw, z⟩, fun z => by rcases z with z | z | z | z | z | z <;> first | exact z.2 | (exfalso; omega)⟩)]; done)
      | (rw [bI_iff (show bre f n i ↔ bel f n w i from ⟨fun z => Or.inr (Or.inl ⟨hsw, z⟩), fun z => by rcases z with z | z | z | z | z | z <;> first | exact z.2 | (exfalso; omega)⟩)]; done)
      | (rw [bI_iff (show fo f n i ↔ bel f n w i from ⟨fun z => Or.inr (Or.inr (Or.inr (Or.inl ⟨hsw, z⟩))), fun z => by rcases z with z | z | z | z | z | z <;> first | exact z.2 | (exfalso; omega)⟩)]; done)
      | (rw [bI_iff (show hid f n i ↔ bel f n w i from ⟨fun z => Or.inr (Or.inr (Or.inr (Or.inr (Or.inl ⟨hsw, z⟩)))), fun z => by rcases z with z | z | z | z | z | z <;> first | exact z.2 | (exfalso; omega)⟩)]; done)
      | (rw [bI_iff (show 128 ≤ f i ↔ bel f n w i from ⟨fun z => Or.inr (Or.inr (Or.inr (Or.inr (Or.inr ⟨by omega, z⟩)))), fun z => by rcases z with z | z | z | z | z | z <;> first | exact z.2 | (exfalso; omega)⟩)]; done)
  · refine J_tableIn (tgt := 42) (v := 3) (off := 41) X dX10_isCounted_1 hsw (by decide) rfl (by decide) ?_
    refine J_aload_n (q := 43) X dX10_isCounted_42 rfl rfl ?_
    refine J_iload_n (q := 44) X dX10_isCounted_43 rfl rfl ?_
    refine J_callP (q := 47) (jrV X mX10_189 dX10_isCounted_44 (c_X10_isBare hM hS hPa hg hv hpa (by omega)) hM (by omega) rfl rfl rfl rfl (Nat.le_of_ble_eq_true rfl) (by decide)) rfl ?_
    refine J_zret X R dX10_isCounted_47 (nrw_z (by first | omega | exact bI_bd _)) ?_
    refine ⟨?_, rfl⟩
    first
      | (rw [bI_f (show ¬ bel f n w i by rintro (z | z | z | z | z | z) <;> first | (exfalso; omega) | exact cq61 z.2.2)]; done)
      | (rw [bI_t (show bel f n w i from Or.inr (Or.inr (Or.inl ⟨hsw, cq53, cq61⟩)))]; done)
      | (rw [bI_iff (show i < prt 3 f n i ↔ bel f n w i from ⟨fun z => Or.inl ⟨hsw, z⟩, fun z => by rcases z with z | z | z | z | z | z <;> first | exact z.2 | (exfalso; omega)⟩)]; done)
      | (rw [bI_iff (show bre f n i ↔ bel f n w i from ⟨fun z => Or.inr (Or.inl ⟨hsw, z⟩), fun z => by rcases z with z | z | z | z | z | z <;> first | exact z.2 | (exfalso; omega)⟩)]; done)
      | (rw [bI_iff (show fo f n i ↔ bel f n w i from ⟨fun z => Or.inr (Or.inr (Or.inr (Or.inl ⟨hsw, z⟩))), fun z => by rcases z with z | z | z | z | z | z <;> first | exact z.2 | (exfalso; omega)⟩)]; done)
      | (rw [bI_iff (show hid f n i ↔ bel f n w i from ⟨fun z => Or.inr (Or.inr (Or.inr (Or.inr (Or.inl ⟨hsw, z⟩)))), fun z => by rcases z with z | z | z | z | z | z <;> first | exact z.2 | (exfalso; omega)⟩)]; done)
      | (rw [bI_iff (show 128 ≤ f i ↔ bel f n w i from ⟨fun z => Or.inr (Or.inr (Or.inr (Or.inr (Or.inr ⟨by omega, z⟩)))), fun z => by rcases z with z | z | z | z | z | z <;> first | exact z.2 | (exfalso; omega)⟩)]; done)
  · refine J_tableIn (tgt := 48) (v := 4) (off := 47) X dX10_isCounted_1 hsw (by decide) rfl (by decide) ?_
    refine J_aload_n (q := 49) X dX10_isCounted_48 rfl rfl ?_
    refine J_iload_n (q := 50) X dX10_isCounted_49 rfl rfl ?_
    refine J_callP (q := 53) (jrV X mX10_177 dX10_isCounted_50 (c_X10_isFirst hM hS hPa hg hv hpa (by omega)) hM (by omega) rfl rfl rfl rfl (Nat.le_of_ble_eq_true rfl) (by decide)) rfl ?_
    refine J_if_eqB (q := 56) (tgt := 68) X dX10_isCounted_53 (by decide) rfl (fun cq53 => ?_) (fun cq53 => ?_)
    · refine J_iconst (q := 69) X dX10_isCounted_68 rfl ?_
      refine J_zret X R dX10_isCounted_69 (nrw_z (by first | omega | exact bI_bd _)) ?_
      refine ⟨?_, rfl⟩
      first
        | (rw [bI_f (show ¬ bel f n w i by rintro (z | z | z | z | z | z) <;> first | (exfalso; omega) | exact cq61 z.2.2)]; done)
        | (rw [bI_t (show bel f n w i from Or.inr (Or.inr (Or.inl ⟨hsw, cq53, cq61⟩)))]; done)
        | (rw [bI_iff (show i < prt 3 f n i ↔ bel f n w i from ⟨fun z => Or.inl ⟨hsw, z⟩, fun z => by rcases z with z | z | z | z | z | z <;> first | exact z.2 | (exfalso; omega)⟩)]; done)
        | (rw [bI_iff (show bre f n i ↔ bel f n w i from ⟨fun z => Or.inr (Or.inl ⟨hsw, z⟩), fun z => by rcases z with z | z | z | z | z | z <;> first | exact z.2 | (exfalso; omega)⟩)]; done)
        | (rw [bI_iff (show fo f n i ↔ bel f n w i from ⟨fun z => Or.inr (Or.inr (Or.inr (Or.inl ⟨hsw, z⟩))), fun z => by rcases z with z | z | z | z | z | z <;> first | exact z.2 | (exfalso; omega)⟩)]; done)
        | (rw [bI_iff (show hid f n i ↔ bel f n w i from ⟨fun z => Or.inr (Or.inr (Or.inr (Or.inr (Or.inl ⟨hsw, z⟩)))), fun z => by rcases z with z | z | z | z | z | z <;> first | exact z.2 | (exfalso; omega)⟩)]; done)
        | (rw [bI_iff (show 128 ≤ f i ↔ bel f n w i from ⟨fun z => Or.inr (Or.inr (Or.inr (Or.inr (Or.inr ⟨by omega, z⟩)))), fun z => by rcases z with z | z | z | z | z | z <;> first | exact z.2 | (exfalso; omega)⟩)]; done)
    · refine J_aload_n (q := 57) X dX10_isCounted_56 rfl rfl ?_
      refine J_iload_n (q := 58) X dX10_isCounted_57 rfl rfl ?_
      refine J_callP (q := 61) (jrV X mX10_192 dX10_isCounted_58 (c_X10_isClashing hM hS hPa hg hv hpa (by omega)) hM (by omega) rfl rfl rfl rfl (Nat.le_of_ble_eq_true rfl) (by decide)) rfl ?_
      refine J_if_eqB (q := 64) (tgt := 68) X dX10_isCounted_61 (by decide) rfl (fun cq61 => ?_) (fun cq61 => ?_)
      · refine J_iconst (q := 69) X dX10_isCounted_68 rfl ?_
        refine J_zret X R dX10_isCounted_69 (nrw_z (by first | omega | exact bI_bd _)) ?_
        refine ⟨?_, rfl⟩
        first
          | (rw [bI_f (show ¬ bel f n w i by rintro (z | z | z | z | z | z) <;> first | (exfalso; omega) | exact cq61 z.2.2)]; done)
          | (rw [bI_t (show bel f n w i from Or.inr (Or.inr (Or.inl ⟨hsw, cq53, cq61⟩)))]; done)
          | (rw [bI_iff (show i < prt 3 f n i ↔ bel f n w i from ⟨fun z => Or.inl ⟨hsw, z⟩, fun z => by rcases z with z | z | z | z | z | z <;> first | exact z.2 | (exfalso; omega)⟩)]; done)
          | (rw [bI_iff (show bre f n i ↔ bel f n w i from ⟨fun z => Or.inr (Or.inl ⟨hsw, z⟩), fun z => by rcases z with z | z | z | z | z | z <;> first | exact z.2 | (exfalso; omega)⟩)]; done)
          | (rw [bI_iff (show fo f n i ↔ bel f n w i from ⟨fun z => Or.inr (Or.inr (Or.inr (Or.inl ⟨hsw, z⟩))), fun z => by rcases z with z | z | z | z | z | z <;> first | exact z.2 | (exfalso; omega)⟩)]; done)
          | (rw [bI_iff (show hid f n i ↔ bel f n w i from ⟨fun z => Or.inr (Or.inr (Or.inr (Or.inr (Or.inl ⟨hsw, z⟩)))), fun z => by rcases z with z | z | z | z | z | z <;> first | exact z.2 | (exfalso; omega)⟩)]; done)
          | (rw [bI_iff (show 128 ≤ f i ↔ bel f n w i from ⟨fun z => Or.inr (Or.inr (Or.inr (Or.inr (Or.inr ⟨by omega, z⟩)))), fun z => by rcases z with z | z | z | z | z | z <;> first | exact z.2 | (exfalso; omega)⟩)]; done)
      · refine J_iconst (q := 65) X dX10_isCounted_64 rfl ?_
        refine J_goto (q := 69) X dX10_isCounted_65 (by decide) ?_
        refine J_zret X R dX10_isCounted_69 (nrw_z (by first | omega | exact bI_bd _)) ?_
        refine ⟨?_, rfl⟩
        first
          | (rw [bI_f (show ¬ bel f n w i by rintro (z | z | z | z | z | z) <;> first | (exfalso; omega) | exact cq61 z.2.2)]; done)
          | (rw [bI_t (show bel f n w i from Or.inr (Or.inr (Or.inl ⟨hsw, cq53, cq61⟩)))]; done)
          | (rw [bI_iff (show i < prt 3 f n i ↔ bel f n w i from ⟨fun z => Or.inl ⟨hsw, z⟩, fun z => by rcases z with z | z | z | z | z | z <;> first | exact z.2 | (exfalso; omega)⟩)]; done)
          | (rw [bI_iff (show bre f n i ↔ bel f n w i from ⟨fun z => Or.inr (Or.inl ⟨hsw, z⟩), fun z => by rcases z with z | z | z | z | z | z <;> first | exact z.2 | (exfalso; omega)⟩)]; done)
          | (rw [bI_iff (show fo f n i ↔ bel f n w i from ⟨fun z => Or.inr (Or.inr (Or.inr (Or.inl ⟨hsw, z⟩))), fun z => by rcases z with z | z | z | z | z | z <;> first | exact z.2 | (exfalso; omega)⟩)]; done)
          | (rw [bI_iff (show hid f n i ↔ bel f n w i from ⟨fun z => Or.inr (Or.inr (Or.inr (Or.inr (Or.inl ⟨hsw, z⟩)))), fun z => by rcases z with z | z | z | z | z | z <;> first | exact z.2 | (exfalso; omega)⟩)]; done)
          | (rw [bI_iff (show 128 ≤ f i ↔ bel f n w i from ⟨fun z => Or.inr (Or.inr (Or.inr (Or.inr (Or.inr ⟨by omega, z⟩)))), fun z => by rcases z with z | z | z | z | z | z <;> first | exact z.2 | (exfalso; omega)⟩)]; done)
  · refine J_tableIn (tgt := 70) (v := 5) (off := 69) X dX10_isCounted_1 hsw (by decide) rfl (by decide) ?_
    refine J_aload_n (q := 71) X dX10_isCounted_70 rfl rfl ?_
    refine J_iload_n (q := 72) X dX10_isCounted_71 rfl rfl ?_
    refine J_callP (q := 75) (jrV X mX10_183 dX10_isCounted_72 (c_X10_isFolded hM hS hPa hg hv hpa (by omega)) hM (by omega) rfl rfl rfl rfl (Nat.le_of_ble_eq_true rfl) (by decide)) rfl ?_
    refine J_zret X R dX10_isCounted_75 (nrw_z (by first | omega | exact bI_bd _)) ?_
    refine ⟨?_, rfl⟩
    first
      | (rw [bI_f (show ¬ bel f n w i by rintro (z | z | z | z | z | z) <;> first | (exfalso; omega) | exact cq61 z.2.2)]; done)
      | (rw [bI_t (show bel f n w i from Or.inr (Or.inr (Or.inl ⟨hsw, cq53, cq61⟩)))]; done)
      | (rw [bI_iff (show i < prt 3 f n i ↔ bel f n w i from ⟨fun z => Or.inl ⟨hsw, z⟩, fun z => by rcases z with z | z | z | z | z | z <;> first | exact z.2 | (exfalso; omega)⟩)]; done)
      | (rw [bI_iff (show bre f n i ↔ bel f n w i from ⟨fun z => Or.inr (Or.inl ⟨hsw, z⟩), fun z => by rcases z with z | z | z | z | z | z <;> first | exact z.2 | (exfalso; omega)⟩)]; done)
      | (rw [bI_iff (show fo f n i ↔ bel f n w i from ⟨fun z => Or.inr (Or.inr (Or.inr (Or.inl ⟨hsw, z⟩))), fun z => by rcases z with z | z | z | z | z | z <;> first | exact z.2 | (exfalso; omega)⟩)]; done)
      | (rw [bI_iff (show hid f n i ↔ bel f n w i from ⟨fun z => Or.inr (Or.inr (Or.inr (Or.inr (Or.inl ⟨hsw, z⟩)))), fun z => by rcases z with z | z | z | z | z | z <;> first | exact z.2 | (exfalso; omega)⟩)]; done)
      | (rw [bI_iff (show 128 ≤ f i ↔ bel f n w i from ⟨fun z => Or.inr (Or.inr (Or.inr (Or.inr (Or.inr ⟨by omega, z⟩)))), fun z => by rcases z with z | z | z | z | z | z <;> first | exact z.2 | (exfalso; omega)⟩)]; done)
  · refine J_tableIn (tgt := 76) (v := 6) (off := 75) X dX10_isCounted_1 hsw (by decide) rfl (by decide) ?_
    refine J_aload_n (q := 77) X dX10_isCounted_76 rfl rfl ?_
    refine J_iload_n (q := 78) X dX10_isCounted_77 rfl rfl ?_
    refine J_callP (q := 81) (jrV X mX10_195 dX10_isCounted_78 (c_X10_isHidden hM hS hPa hg hv hpa (by omega)) hM (by omega) rfl rfl rfl rfl (Nat.le_of_ble_eq_true rfl) (by decide)) rfl ?_
    refine J_zret X R dX10_isCounted_81 (nrw_z (by first | omega | exact bI_bd _)) ?_
    refine ⟨?_, rfl⟩
    first
      | (rw [bI_f (show ¬ bel f n w i by rintro (z | z | z | z | z | z) <;> first | (exfalso; omega) | exact cq61 z.2.2)]; done)
      | (rw [bI_t (show bel f n w i from Or.inr (Or.inr (Or.inl ⟨hsw, cq53, cq61⟩)))]; done)
      | (rw [bI_iff (show i < prt 3 f n i ↔ bel f n w i from ⟨fun z => Or.inl ⟨hsw, z⟩, fun z => by rcases z with z | z | z | z | z | z <;> first | exact z.2 | (exfalso; omega)⟩)]; done)
      | (rw [bI_iff (show bre f n i ↔ bel f n w i from ⟨fun z => Or.inr (Or.inl ⟨hsw, z⟩), fun z => by rcases z with z | z | z | z | z | z <;> first | exact z.2 | (exfalso; omega)⟩)]; done)
      | (rw [bI_iff (show fo f n i ↔ bel f n w i from ⟨fun z => Or.inr (Or.inr (Or.inr (Or.inl ⟨hsw, z⟩))), fun z => by rcases z with z | z | z | z | z | z <;> first | exact z.2 | (exfalso; omega)⟩)]; done)
      | (rw [bI_iff (show hid f n i ↔ bel f n w i from ⟨fun z => Or.inr (Or.inr (Or.inr (Or.inr (Or.inl ⟨hsw, z⟩)))), fun z => by rcases z with z | z | z | z | z | z <;> first | exact z.2 | (exfalso; omega)⟩)]; done)
      | (rw [bI_iff (show 128 ≤ f i ↔ bel f n w i from ⟨fun z => Or.inr (Or.inr (Or.inr (Or.inr (Or.inr ⟨by omega, z⟩)))), fun z => by rcases z with z | z | z | z | z | z <;> first | exact z.2 | (exfalso; omega)⟩)]; done)

set_option maxRecDepth 100000 in
set_option maxHeartbeats 4000000 in
theorem c_X10_counted {l : Launch} {Γ : JG} {ad : Nat → Nat} {E : Nat → va_E} {m0 m1 m2 m3 m4 m5 m6 m7 m8 m9 m10 m11 m12 m13 m14 : Int} {g pa al he : Int → Int} {n w : Int} {f : Int → Int}  (hM : E 78 = .inr (9, [.ref (ad 79), .ref (ad 80), .int (jI m0), .int (jI m1), .int (jI m2), .int (jI m3), .int (jI m4), .int (jI m5), .int (jI m6), .int (jI m7), .int (jI m8), .int (jI m9), .int (jI m10), .int (jI m11), .ref (ad 81), .ref (ad 82), .ref (ad 83), .ref (ad 84), .ref (ad 85), .ref (ad 86), .ref (ad 87), .ref (ad 88), .ref (ad 89), .int (jI m12), .int (jI m13), .ref (ad 90), .ref (ad 91), .ref (ad 92), .ref (ad 93), .ref (ad 94), .int (jI m14)])) (hS : E 79 = aI Γ 305 g) (hPa : E 85 = aI Γ 60 pa) (hAl : E 86 = aI Γ 60 al) (hHe : E 87 = aI Γ 60 he) (hg : MS g n f) (hv : VR f n) (hw : 2 ≤ w ∧ w ≤ 7) : JM l Γ yX10_counted cX10_counted 4 (some .int) 4 89 0 0 ad 95 E [.ref (ad 78), .int (jI w)] (pI (fun z E' => z = smI (fun j => bI (bel f n w j)) n ∧ (∃ pa' al' he' : Int → Int, E' 85 = aI Γ 60 pa' ∧ E' 86 = aI Γ 60 al' ∧ E' 87 = aI Γ 60 he') ∧ ∀ j : Nat, ¬ (85 ≤ j ∧ j ≤ 87) → E' j = E j)) := by
  refine JM_intro (own := RX10) [some (.ref (ad 78)), some (.int (jI w)), none, none] rfl rfl rfl (Nat.le_of_ble_eq_true rfl) ?_
  intro Ω X R hin
  obtain ⟨E0, hE0⟩ : ∃ E0 : Nat → va_E, E0 = E := ⟨_, rfl⟩
  have hF : ∀ j : Nat, ¬ (85 ≤ j ∧ j ≤ 87) → E j = E0 j := fun _ _ => by rw [hE0]
  obtain ⟨hgn, hgf⟩ := id hg
  obtain ⟨hn, hvr⟩ := id hv
  refine J_aload_n (q := 1) X dX10_counted_0 rfl rfl ?_
  refine J_callV (q := 4) (jrV X mX10_198 dX10_counted_1 (c_X10_findsAll hM hS hPa hAl hHe hg hv) hM (by omega) rfl rfl rfl rfl (Nat.le_of_ble_eq_true rfl) (by decide)) rfl (fun Ew1 hpq1 => ?_)
  obtain ⟨paq1, alq1, heq1, kPa, kAl, kHe, hpaq1, halq1, hsq1⟩ := hpq1
  replace hPa := kPa
  replace hAl := kAl
  replace hHe := kHe
  have hpa := hpaq1
  have hal := halq1
  replace hM := (hsq1 78 (by omega)).trans hM
  replace hS := (hsq1 79 (by omega)).trans hS
  replace hF : ∀ j : Nat, ¬ (85 ≤ j ∧ j ≤ 87) → Ew1 j = E0 j := fun j hj => (hsq1 j (by omega)).trans (hF j hj)
  refine J_iconst (q := 5) X dX10_counted_4 rfl ?_
  refine J_istore_n (q := 6) X dX10_counted_5 (by decide) rfl rfl ?_
  refine J_iconst (q := 7) X dX10_counted_6 rfl ?_
  refine J_istore_n (q := 8) X dX10_counted_7 (by decide) rfl rfl ?_
  have lp8 : ∀ (m : Nat) (t : Int) (ht : 0 ≤ t ∧ t ≤ n) (hm : n - t + 1 ≤ (m : Int)), J l Γ Ω 4 ad 95 0 0 Ew1 8 [some (.ref (ad 78)), some (.int (jI w)), some (.int (jI (smI (fun j => bI (bel f n w j)) t))), some (.int (jI t))] [] := by
    intro m
    induction m with
    | zero => intro t ht hm; exfalso; omega
    | succ m ih8 =>
      intro t ht hm
      refine J_iload_n (q := 9) X dX10_counted_8 rfl rfl ?_
      refine J_aload_n (q := 10) X dX10_counted_9 rfl rfl ?_
      refine J_callP (q := 13) (jrV X mX10_165 dX10_counted_10 (c_X10_many hM hS hg hv) hM (by omega) rfl rfl rfl rfl (Nat.le_of_ble_eq_true rfl) (by decide)) rfl ?_
      refine J_icmp_ge (q := 16) (tgt := 39) X dX10_counted_13 (by decide) rfl (by omega) (by omega) (fun cq13 => ?_) (fun cq13 => ?_)
      · refine J_iload_n (q := 40) X dX10_counted_39 rfl rfl ?_
        refine J_iret X R dX10_counted_40 ?_
        rw [hE0] at hF
        exact ⟨_, rfl, by rw [show t = n by omega], ⟨_, _, _, hPa, hAl, hHe⟩, hF⟩
      · refine J_iload_n (q := 17) X dX10_counted_16 rfl rfl ?_
        refine J_aload_n (q := 18) X dX10_counted_17 rfl rfl ?_
        refine J_iload_n (q := 19) X dX10_counted_18 rfl rfl ?_
        refine J_iload_n (q := 20) X dX10_counted_19 rfl rfl ?_
        refine J_callP (q := 23) (jrV X mX10_201 dX10_counted_20 (c_X10_isCounted hM hS hPa hg hv hpa (by omega) (by omega)) hM (by omega) rfl rfl rfl rfl (Nat.le_of_ble_eq_true rfl) (by decide)) rfl ?_
        refine J_if_eqB (q := 26) (tgt := 30) X dX10_counted_23 (by decide) rfl (fun cq23 => ?_) (fun cq23 => ?_)
        · refine J_iconst (q := 31) X dX10_counted_30 rfl ?_
          refine J_iadd (q := 32) X dX10_counted_31 rfl ?_
          refine J_istore_n (q := 33) X dX10_counted_32 (by decide) rfl rfl ?_
          refine J_iinc (q := 36) X dX10_counted_33 rfl (by decide) rfl rfl ?_
          refine J_goto (q := 8) X dX10_counted_36 (by decide) ?_
          have hx := ih8 (t + 1) (by omega) (by omega)
          rw [smI_succ (fun j => bI (bel f n w j)) ht.1] at hx
          first
            | (rw [bI_t cq23] at hx; exact hx)
            | (rw [bI_f cq23] at hx; exact hx)
        · refine J_iconst (q := 27) X dX10_counted_26 rfl ?_
          refine J_goto (q := 31) X dX10_counted_27 (by decide) ?_
          refine J_iadd (q := 32) X dX10_counted_31 rfl ?_
          refine J_istore_n (q := 33) X dX10_counted_32 (by decide) rfl rfl ?_
          refine J_iinc (q := 36) X dX10_counted_33 rfl (by decide) rfl rfl ?_
          refine J_goto (q := 8) X dX10_counted_36 (by decide) ?_
          have hx := ih8 (t + 1) (by omega) (by omega)
          rw [smI_succ (fun j => bI (bel f n w j)) ht.1] at hx
          first
            | (rw [bI_t cq23] at hx; exact hx)
            | (rw [bI_f cq23] at hx; exact hx)
  exact lp8 100 0 (by omega) (by omega)

set_option maxRecDepth 100000 in
set_option maxHeartbeats 4000000 in
theorem c_X10_greatestLevel {l : Launch} {Γ : JG} {ad : Nat → Nat} {E : Nat → va_E} {m0 m1 m2 m3 m4 m5 m6 m7 m8 m9 m10 m11 m12 m13 m14 : Int} {g pa al he : Int → Int} {n : Int} {f : Int → Int}  (hM : E 78 = .inr (9, [.ref (ad 79), .ref (ad 80), .int (jI m0), .int (jI m1), .int (jI m2), .int (jI m3), .int (jI m4), .int (jI m5), .int (jI m6), .int (jI m7), .int (jI m8), .int (jI m9), .int (jI m10), .int (jI m11), .ref (ad 81), .ref (ad 82), .ref (ad 83), .ref (ad 84), .ref (ad 85), .ref (ad 86), .ref (ad 87), .ref (ad 88), .ref (ad 89), .int (jI m12), .int (jI m13), .ref (ad 90), .ref (ad 91), .ref (ad 92), .ref (ad 93), .ref (ad 94), .int (jI m14)])) (hS : E 79 = aI Γ 305 g) (hPa : E 85 = aI Γ 60 pa) (hAl : E 86 = aI Γ 60 al) (hHe : E 87 = aI Γ 60 he) (hg : MS g n f) (hv : VR f n) : JM l Γ yX10_greatestLevel cX10_greatestLevel 3 (some .int) 3 68 0 0 ad 95 E [.ref (ad 78)] (pI (fun z E' => z = mx (lvl f n) n.toNat ∧ (∃ pa' al' he' : Int → Int, E' 85 = aI Γ 60 pa' ∧ E' 86 = aI Γ 60 al' ∧ E' 87 = aI Γ 60 he') ∧ ∀ j : Nat, ¬ (85 ≤ j ∧ j ≤ 87) → E' j = E j)) := by
  refine JM_intro (own := RX10) [some (.ref (ad 78)), none, none] rfl rfl rfl (Nat.le_of_ble_eq_true rfl) ?_
  intro Ω X R hin
  obtain ⟨E0, hE0⟩ : ∃ E0 : Nat → va_E, E0 = E := ⟨_, rfl⟩
  have hF : ∀ j : Nat, ¬ (85 ≤ j ∧ j ≤ 87) → E j = E0 j := fun _ _ => by rw [hE0]
  obtain ⟨hgn, hgf⟩ := id hg
  obtain ⟨hn, hvr⟩ := id hv
  have hlb : ∀ j : Int, 0 ≤ j → j < n → 0 ≤ lvl f n j ∧ lvl f n j ≤ 60 := fun j a b => by have := (cAB_bd (prt 3 f n) (fun _ => True) a).2; unfold lvl; omega
  refine J_aload_n (q := 1) X dX10_greatestLevel_0 rfl rfl ?_
  refine J_callV (q := 4) (jrV X mX10_198 dX10_greatestLevel_1 (c_X10_findsAll hM hS hPa hAl hHe hg hv) hM (by omega) rfl rfl rfl rfl (Nat.le_of_ble_eq_true rfl) (by decide)) rfl (fun Ew1 hpq1 => ?_)
  obtain ⟨paq1, alq1, heq1, kPa, kAl, kHe, hpaq1, halq1, hsq1⟩ := hpq1
  replace hPa := kPa
  replace hAl := kAl
  replace hHe := kHe
  have hpa := hpaq1
  have hal := halq1
  replace hM := (hsq1 78 (by omega)).trans hM
  replace hS := (hsq1 79 (by omega)).trans hS
  replace hF : ∀ j : Nat, ¬ (85 ≤ j ∧ j ≤ 87) → Ew1 j = E0 j := fun j hj => (hsq1 j (by omega)).trans (hF j hj)
  refine J_iconst (q := 5) X dX10_greatestLevel_4 rfl ?_
  refine J_istore_n (q := 6) X dX10_greatestLevel_5 (by decide) rfl rfl ?_
  refine J_iconst (q := 7) X dX10_greatestLevel_6 rfl ?_
  refine J_istore_n (q := 8) X dX10_greatestLevel_7 (by decide) rfl rfl ?_
  have lp8 : ∀ (m : Nat) (t : Int) (ht : 0 ≤ t ∧ t ≤ n) (hm : n - t + 1 ≤ (m : Int)), J l Γ Ω 3 ad 95 0 0 Ew1 8 [some (.ref (ad 78)), some (.int (jI (mx (lvl f n) t.toNat))), some (.int (jI t))] [] := by
    intro m
    induction m with
    | zero => intro t ht hm; exfalso; omega
    | succ m ih8 =>
      intro t ht hm
      have hmb := mx_bd (g := lvl f n) (b := 60) (by omega) t.toNat (fun j a b => (hlb j a (by omega)).2)
      refine J_iload_n (q := 9) X dX10_greatestLevel_8 rfl rfl ?_
      refine J_aload_n (q := 10) X dX10_greatestLevel_9 rfl rfl ?_
      refine J_callP (q := 13) (jrV X mX10_165 dX10_greatestLevel_10 (c_X10_many hM hS hg hv) hM (by omega) rfl rfl rfl rfl (Nat.le_of_ble_eq_true rfl) (by decide)) rfl ?_
      refine J_icmp_ge (q := 16) (tgt := 41) X dX10_greatestLevel_13 (by decide) rfl (by omega) (by omega) (fun cq13 => ?_) (fun cq13 => ?_)
      · refine J_iload_n (q := 42) X dX10_greatestLevel_41 rfl rfl ?_
        refine J_iret X R dX10_greatestLevel_42 ?_
        rw [hE0] at hF
        exact ⟨_, rfl, by rw [show t = n by omega], ⟨_, _, _, hPa, hAl, hHe⟩, hF⟩
      · refine J_aload_n (q := 17) X dX10_greatestLevel_16 rfl rfl ?_
        refine J_iload_n (q := 18) X dX10_greatestLevel_17 rfl rfl ?_
        refine J_callP (q := 21) (jrV X mX10_205 dX10_greatestLevel_18 (c_X10_levelOf hM hS hPa hg hv hpa (by omega)) hM (by omega) rfl rfl rfl rfl (Nat.le_of_ble_eq_true rfl) (by decide)) rfl ?_
        refine J_iload_n (q := 22) X dX10_greatestLevel_21 rfl rfl ?_
        refine J_icmp_le (q := 25) (tgt := 33) X dX10_greatestLevel_22 (by decide) rfl (by have := hlb t ht.1 (by omega); omega) (by omega) (fun cq22 => ?_) (fun cq22 => ?_)
        · refine J_iload_n (q := 34) X dX10_greatestLevel_33 rfl rfl ?_
          refine J_istore_n (q := 35) X dX10_greatestLevel_34 (by decide) rfl rfl ?_
          refine J_iinc (q := 38) X dX10_greatestLevel_35 rfl (by decide) rfl rfl ?_
          refine J_goto (q := 8) X dX10_greatestLevel_38 (by decide) ?_
          have hx := ih8 (t + 1) (by omega) (by omega)
          rw [mxI_succ (lvl f n) ht.1] at hx
          first
            | (rw [if_pos (by omega)] at hx; exact hx)
            | (rw [if_neg (by omega)] at hx; exact hx)
        · refine J_aload_n (q := 26) X dX10_greatestLevel_25 rfl rfl ?_
          refine J_iload_n (q := 27) X dX10_greatestLevel_26 rfl rfl ?_
          refine J_callP (q := 30) (jrV X mX10_205 dX10_greatestLevel_27 (c_X10_levelOf hM hS hPa hg hv hpa (by omega)) hM (by omega) rfl rfl rfl rfl (Nat.le_of_ble_eq_true rfl) (by decide)) rfl ?_
          refine J_goto (q := 34) X dX10_greatestLevel_30 (by decide) ?_
          refine J_istore_n (q := 35) X dX10_greatestLevel_34 (by decide) rfl rfl ?_
          refine J_iinc (q := 38) X dX10_greatestLevel_35 rfl (by decide) rfl rfl ?_
          refine J_goto (q := 8) X dX10_greatestLevel_38 (by decide) ?_
          have hx := ih8 (t + 1) (by omega) (by omega)
          rw [mxI_succ (lvl f n) ht.1] at hx
          first
            | (rw [if_pos (by omega)] at hx; exact hx)
            | (rw [if_neg (by omega)] at hx; exact hx)
  exact lp8 100 0 (by omega) (by omega)

set_option maxRecDepth 100000 in
set_option maxHeartbeats 4000000 in
theorem c_X10_wholeFrom {l : Launch} {Γ : JG} {ad : Nat → Nat} {E : Nat → va_E} {m0 m1 m2 m3 m4 m5 m6 m7 m8 m9 m10 m11 m12 m13 m14 : Int} {g pa : Int → Int} {n i : Int} {f : Int → Int}  (hM : E 78 = .inr (9, [.ref (ad 79), .ref (ad 80), .int (jI m0), .int (jI m1), .int (jI m2), .int (jI m3), .int (jI m4), .int (jI m5), .int (jI m6), .int (jI m7), .int (jI m8), .int (jI m9), .int (jI m10), .int (jI m11), .ref (ad 81), .ref (ad 82), .ref (ad 83), .ref (ad 84), .ref (ad 85), .ref (ad 86), .ref (ad 87), .ref (ad 88), .ref (ad 89), .int (jI m12), .int (jI m13), .ref (ad 90), .ref (ad 91), .ref (ad 92), .ref (ad 93), .ref (ad 94), .int (jI m14)])) (hS : E 79 = aI Γ 305 g) (hPa : E 85 = aI Γ 60 pa) (hg : MS g n f) (hv : VR f n) (hpa : ∀ j, 0 ≤ j → j < n → pa j = prt 3 f n j) (hi : 0 ≤ i ∧ i ≤ n) : JM l Γ yX10_wholeFrom cX10_wholeFrom 5 (some .int) 1 21 0 0 ad 95 E [.ref (ad 78), .int (jI i)] (pP (wt f n i) E) := by
  refine JM_intro (own := RX10) [some (.ref (ad 78)), some (.int (jI i)), none, none, none] rfl rfl rfl (Nat.le_of_ble_eq_true rfl) ?_
  intro Ω X R hin
  obtain ⟨hgn, hgf⟩ := id hg
  obtain ⟨hn, hvr⟩ := id hv
  refine J_iload_n (q := 1) X dX10_wholeFrom_0 rfl rfl ?_
  refine J_istore_n (q := 2) X dX10_wholeFrom_1 (by decide) rfl rfl ?_
  refine J_iload_n (q := 3) X dX10_wholeFrom_2 rfl rfl ?_
  refine J_istore_n (q := 4) X dX10_wholeFrom_3 (by decide) rfl rfl ?_
  refine J_iload_n (q := 5) X dX10_wholeFrom_4 rfl rfl ?_
  refine J_istore (q := 7) X dX10_wholeFrom_5 (by decide) rfl rfl ?_
  have lp7 : ∀ (m : Nat) (far due k : Int) (hk : i ≤ k ∧ k ≤ n) (hd : due = i ∨ ∃ j, i ≤ j ∧ j < k ∧ prt 3 f n j = due) (hfar : (due < k ∨ k = i) → far = k) (hsc : sc (fun k => ¬ (brk (f k % 128) ∧ prt 3 f n k < i)) n k = wt f n i) (hm : n - k + 1 ≤ (m : Int)), J l Γ Ω 5 ad 95 0 0 E 7 [some (.ref (ad 78)), some (.int (jI i)), some (.int (jI far)), some (.int (jI due)), some (.int (jI k))] [] := by
    intro m
    induction m with
    | zero => intro far due k hk hd hfar hsc hm; exfalso; omega
    | succ m ih7 =>
      intro far due k hk hd hfar hsc hm
      have hkb := knd_brk (f k % 128)
      have hkd := knd_bd (f k % 128)
      have hpb := prt_bd (kd := 3) (f := f) (n := n) hn.1 k
      have hdb : -4 ≤ due ∧ due ≤ 60 := by
        rcases hd with z | ⟨j, _, _, z⟩
        · omega
        · have := prt_bd (kd := 3) (f := f) (n := n) hn.1 j; omega
      refine J_iload (q := 9) X dX10_wholeFrom_7 rfl rfl ?_
      refine J_aload_n (q := 10) X dX10_wholeFrom_9 rfl rfl ?_
      refine J_callP (q := 13) (jrV X mX10_165 dX10_wholeFrom_10 (c_X10_many hM hS hg hv) hM (by omega) rfl rfl rfl rfl (Nat.le_of_ble_eq_true rfl) (by decide)) rfl ?_
      refine J_icmp_ge (q := 16) (tgt := 99) X dX10_wholeFrom_13 (by decide) rfl (by omega) (by omega) (fun cq13 => ?_) (fun cq13 => ?_)
      · refine J_iload_n (q := 100) X dX10_wholeFrom_99 rfl rfl ?_
        refine J_iret X R dX10_wholeFrom_100 ?_
        have hfk : far = k := by
          refine hfar ?_
          by_cases hki : k = i
          · exact Or.inr hki
          · left
            rcases hd with z | ⟨j, j1, j2, j3⟩
            · omega
            · have := prt_bd (kd := 3) (f := f) (n := n) hn.1 j; omega
        rw [sc_stop (P := (fun k => ¬ (brk (f k % 128) ∧ prt 3 f n k < i))) (by omega)] at hsc
        exact ⟨by rw [← hsc, hfk], rfl⟩
      · have epk := hpa k (by omega) (by omega)
        have jn78 : ∀ (d2 : Int) (hd2 : d2 = i ∨ ∃ j, i ≤ j ∧ j < k + 1 ∧ prt 3 f n j = d2) (hsc2 : sc (fun k => ¬ (brk (f k % 128) ∧ prt 3 f n k < i)) n (k + 1) = wt f n i), J l Γ Ω 5 ad 95 0 0 E 78 [some (.ref (ad 78)), some (.int (jI i)), some (.int (jI far)), some (.int (jI d2)), some (.int (jI k))] [] := by
          intro d2 hd2 hsc2
          have hd2b : -4 ≤ d2 ∧ d2 ≤ 60 := by
            rcases hd2 with z | ⟨j, _, _, z⟩
            · omega
            · have := prt_bd (kd := 3) (f := f) (n := n) hn.1 j; omega
          refine J_iload_n (q := 79) X dX10_wholeFrom_78 rfl rfl ?_
          refine J_iload (q := 81) X dX10_wholeFrom_79 rfl rfl ?_
          refine J_icmp_gt (q := 84) (tgt := 91) X dX10_wholeFrom_81 (by decide) rfl (by omega) (by omega) (fun cq81 => ?_) (fun cq81 => ?_)
          · refine J_iload_n (q := 92) X dX10_wholeFrom_91 rfl rfl ?_
            refine J_istore_n (q := 93) X dX10_wholeFrom_92 (by decide) rfl rfl ?_
            refine J_iinc (q := 96) X dX10_wholeFrom_93 rfl (by decide) rfl rfl ?_
            refine J_goto (q := 7) X dX10_wholeFrom_96 (by decide) ?_
            first
              | exact ih7 _ _ _ (by omega) hd2 (fun _ => rfl) hsc2 (by omega)
              | exact ih7 _ _ _ (by omega) hd2 (fun z => by omega) hsc2 (by omega)
          · refine J_iload (q := 86) X dX10_wholeFrom_84 rfl rfl ?_
            refine J_iconst (q := 87) X dX10_wholeFrom_86 rfl ?_
            refine J_iadd (q := 88) X dX10_wholeFrom_87 rfl ?_
            refine J_goto (q := 92) X dX10_wholeFrom_88 (by decide) ?_
            refine J_istore_n (q := 93) X dX10_wholeFrom_92 (by decide) rfl rfl ?_
            refine J_iinc (q := 96) X dX10_wholeFrom_93 rfl (by decide) rfl rfl ?_
            refine J_goto (q := 7) X dX10_wholeFrom_96 (by decide) ?_
            first
              | exact ih7 _ _ _ (by omega) hd2 (fun _ => rfl) hsc2 (by omega)
              | exact ih7 _ _ _ (by omega) hd2 (fun z => by omega) hsc2 (by omega)
        refine J_aload_n (q := 17) X dX10_wholeFrom_16 rfl rfl ?_
        refine J_iload (q := 19) X dX10_wholeFrom_17 rfl rfl ?_
        refine J_callP (q := 22) (jrV X mX10_170 dX10_wholeFrom_19 (c_X10_signAt hM hS hg hv (by omega)) hM (by omega) rfl rfl rfl rfl (Nat.le_of_ble_eq_true rfl) (by decide)) rfl ?_
        refine J_callP (q := 25) (jrS X mX10_78 dX10_wholeFrom_22 (c_X10_kindOf (by omega)) rfl rfl (Nat.le_of_ble_eq_true rfl) (by decide)) rfl ?_
        refine J_bipush (q := 27) X dX10_wholeFrom_25 rfl (by decide) ?_
        refine J_icmp_eq (q := 30) (tgt := 78) X dX10_wholeFrom_27 (by decide) rfl (by omega) (by omega) (fun cq27 => ?_) (fun cq27 => ?_)
        · have hdk : due = i ∨ ∃ j, i ≤ j ∧ j < k + 1 ∧ prt 3 f n j = due := by
            rcases hd with z | ⟨j, j1, j2, j3⟩
            · exact Or.inl z
            · exact Or.inr ⟨j, j1, by omega, j3⟩
          have hsg : sc (fun k => ¬ (brk (f k % 128) ∧ prt 3 f n k < i)) n (k + 1) = wt f n i := by clear hdk hd; rw [sc_go (P := (fun k => ¬ (brk (f k % 128) ∧ prt 3 f n k < i))) (by omega) (fun z => by have z1 := z.1; have z2 := z.2; omega)]; exact hsc
          first
            | exact jn78 _ hdk hsg
            | exact jn78 _ (Or.inr ⟨k, by omega, by omega, by omega⟩) hsg
        · refine J_aload_n (q := 31) X dX10_wholeFrom_30 rfl rfl ?_
          refine J_get (q := 34) X dX10_wholeFrom_31 fX10_28 hM (by omega) rfl rfl ?_
          refine J_iload (q := 36) X dX10_wholeFrom_34 rfl rfl ?_
          refine J_iald (q := 37) X dX10_wholeFrom_36 hPa (by omega) (by omega) (by decide) rfl ?_
          refine J_bipush (q := 39) X dX10_wholeFrom_37 rfl (by decide) ?_
          refine J_icmp_eq (q := 42) (tgt := 53) X dX10_wholeFrom_39 (by decide) rfl (by omega) (by omega) (fun cq39 => ?_) (fun cq39 => ?_)
          · refine J_iload_n (q := 54) X dX10_wholeFrom_53 rfl rfl ?_
            refine J_iret X R dX10_wholeFrom_54 ?_
            have hfk : far = k := by
              by_cases hki : k = i
              · exact hfar (Or.inr hki)
              · refine hfar (Or.inl ?_)
                rcases hd with z | ⟨j, j1, j2, j3⟩
                · omega
                · have hjb := prt_bd (kd := 3) (f := f) (n := n) hn.1 j
                  by_cases hlt : due < k
                  · exact hlt
                  · exfalso
                    have hj4 : prt 3 f n j ≠ -4 := by omega
                    by_cases he : prt 3 f n j = k
                    · have := (prt_of hn.1 hj4).2.2.2.2.2.1
                      rw [he] at this
                      omega
                    · have := prt_nest (k := k) hn.1 hj4 j2 (by omega) ⟨by omega, Or.inl rfl⟩
                      omega
            rw [sc_stop (P := (fun k => ¬ (brk (f k % 128) ∧ prt 3 f n k < i))) (fun z => z.2 ⟨by omega, by omega⟩)] at hsc
            exact ⟨by rw [← hsc, hfk], rfl⟩
          · refine J_aload_n (q := 43) X dX10_wholeFrom_42 rfl rfl ?_
            refine J_get (q := 46) X dX10_wholeFrom_43 fX10_28 hM (by omega) rfl rfl ?_
            refine J_iload (q := 48) X dX10_wholeFrom_46 rfl rfl ?_
            refine J_iald (q := 49) X dX10_wholeFrom_48 hPa (by omega) (by omega) (by decide) rfl ?_
            refine J_iload_n (q := 50) X dX10_wholeFrom_49 rfl rfl ?_
            refine J_icmp_ge (q := 53) (tgt := 55) X dX10_wholeFrom_50 (by decide) rfl (by omega) (by omega) (fun cq50 => ?_) (fun cq50 => ?_)
            · refine J_aload_n (q := 56) X dX10_wholeFrom_55 rfl rfl ?_
              refine J_get (q := 59) X dX10_wholeFrom_56 fX10_28 hM (by omega) rfl rfl ?_
              refine J_iload (q := 61) X dX10_wholeFrom_59 rfl rfl ?_
              refine J_iald (q := 62) X dX10_wholeFrom_61 hPa (by omega) (by omega) (by decide) rfl ?_
              refine J_iload_n (q := 63) X dX10_wholeFrom_62 rfl rfl ?_
              refine J_icmp_le (q := 66) (tgt := 76) X dX10_wholeFrom_63 (by decide) rfl (by omega) (by omega) (fun cq63 => ?_) (fun cq63 => ?_)
              · refine J_iload_n (q := 77) X dX10_wholeFrom_76 rfl rfl ?_
                refine J_istore_n (q := 78) X dX10_wholeFrom_77 (by decide) rfl rfl ?_
                have hdk : due = i ∨ ∃ j, i ≤ j ∧ j < k + 1 ∧ prt 3 f n j = due := by
                  rcases hd with z | ⟨j, j1, j2, j3⟩
                  · exact Or.inl z
                  · exact Or.inr ⟨j, j1, by omega, j3⟩
                have hsg : sc (fun k => ¬ (brk (f k % 128) ∧ prt 3 f n k < i)) n (k + 1) = wt f n i := by clear hdk hd; rw [sc_go (P := (fun k => ¬ (brk (f k % 128) ∧ prt 3 f n k < i))) (by omega) (fun z => by have z1 := z.1; have z2 := z.2; omega)]; exact hsc
                first
                  | exact jn78 _ hdk hsg
                  | exact jn78 _ (Or.inr ⟨k, by omega, by omega, by omega⟩) hsg
              · refine J_aload_n (q := 67) X dX10_wholeFrom_66 rfl rfl ?_
                refine J_get (q := 70) X dX10_wholeFrom_67 fX10_28 hM (by omega) rfl rfl ?_
                refine J_iload (q := 72) X dX10_wholeFrom_70 rfl rfl ?_
                refine J_iald (q := 73) X dX10_wholeFrom_72 hPa (by omega) (by omega) (by decide) rfl ?_
                refine J_goto (q := 77) X dX10_wholeFrom_73 (by decide) ?_
                refine J_istore_n (q := 78) X dX10_wholeFrom_77 (by decide) rfl rfl ?_
                have hdk : due = i ∨ ∃ j, i ≤ j ∧ j < k + 1 ∧ prt 3 f n j = due := by
                  rcases hd with z | ⟨j, j1, j2, j3⟩
                  · exact Or.inl z
                  · exact Or.inr ⟨j, j1, by omega, j3⟩
                have hsg : sc (fun k => ¬ (brk (f k % 128) ∧ prt 3 f n k < i)) n (k + 1) = wt f n i := by clear hdk hd; rw [sc_go (P := (fun k => ¬ (brk (f k % 128) ∧ prt 3 f n k < i))) (by omega) (fun z => by have z1 := z.1; have z2 := z.2; omega)]; exact hsc
                first
                  | exact jn78 _ hdk hsg
                  | exact jn78 _ (Or.inr ⟨k, by omega, by omega, by omega⟩) hsg
            · refine J_iload_n (q := 54) X dX10_wholeFrom_53 rfl rfl ?_
              refine J_iret X R dX10_wholeFrom_54 ?_
              have hfk : far = k := by
                by_cases hki : k = i
                · exact hfar (Or.inr hki)
                · refine hfar (Or.inl ?_)
                  rcases hd with z | ⟨j, j1, j2, j3⟩
                  · omega
                  · have hjb := prt_bd (kd := 3) (f := f) (n := n) hn.1 j
                    by_cases hlt : due < k
                    · exact hlt
                    · exfalso
                      have hj4 : prt 3 f n j ≠ -4 := by omega
                      by_cases he : prt 3 f n j = k
                      · have := (prt_of hn.1 hj4).2.2.2.2.2.1
                        rw [he] at this
                        omega
                      · have := prt_nest (k := k) hn.1 hj4 j2 (by omega) ⟨by omega, Or.inl rfl⟩
                        omega
              rw [sc_stop (P := (fun k => ¬ (brk (f k % 128) ∧ prt 3 f n k < i))) (fun z => z.2 ⟨by omega, by omega⟩)] at hsc
              exact ⟨by rw [← hsc, hfk], rfl⟩
  exact lp7 100 _ _ _ (by omega) (Or.inl rfl) (fun _ => rfl) rfl (by omega)
