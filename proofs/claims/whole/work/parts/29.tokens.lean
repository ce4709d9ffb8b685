theorem jch_bd (w : Nat) (hw : w < 3) (j : Int) : 0 ≤ jch w j ∧ jch w j ≤ 127 := by
  have key : ∀ w, w < 3 → ∀ k, k < 5 → (0 ≤ (jchr.getD w []).getD k 0 ∧ (jchr.getD w []).getD k 0 ≤ 127) := by decide +kernel
  have big : ∀ w, w < 3 → (jchr.getD w []).length ≤ 4 := by decide +kernel
  by_cases hk : j.toNat < 5
  · exact key w hw _ hk
  · have : (jchr.getD w []).getD j.toNat 0 = 0 := by
      rw [List.getD_eq_getElem?_getD, List.getElem?_eq_none (by have := big w hw; omega)]; rfl
    show 0 ≤ (jchr.getD w []).getD j.toNat 0 ∧ (jchr.getD w []).getD j.toNat 0 ≤ 127
    rw [this]; omega
set_option maxRecDepth 100000 in
set_option maxHeartbeats 4000000 in
theorem c_X8_restart {l : Launch} {Γ : JG} {ad : Nat → Nat} {E : Nat → va_E} {k0 f0 t0 v0 : Int} {tl : Int} {tb : Int → Int} {b0 b1 b2 b3 b4 : Int} (hK : E 2 = .inr (7, [.ref (ad 3), .ref (ad 5), .int (jI k0), .int (jI f0), .int (jI t0), .int (jI v0)])) (hT : E 3 = .inr (5, [.ref (ad 4), .int (jI tl)])) (hY : E 4 = aI Γ 160 tb) (hB : E 5 = .inr (0, [.int (jI b0), .int (jI b1), .int (jI b2), .int (jI b3), .int (jI b4)])) : JM l Γ yX8_restart cX8_restart 1 none 0 0 0 0 ad 95 E [.ref (ad 2)] (pV (fun E' => E' 2 = .inr (7, [.ref (ad 3), .ref (ad 5), .int (jI k0), .int (jI f0), .int (jI 0), .int (jI v0)]) ∧ ∀ j : Nat, j ≠ 2 → E' j = E j)) := by
  refine JM_intro (own := RX8) [some (.ref (ad 2))] rfl rfl rfl (Nat.le_of_ble_eq_true rfl) ?_
  intro Ω X R hin
  obtain ⟨E0, hE0⟩ : ∃ E0 : Nat → va_E, E0 = E := ⟨_, rfl⟩
  have hF : ∀ j : Nat, j ≠ 2 → E j = E0 j := fun _ _ => by rw [hE0]
  refine J_aload_n (q := 1) X dX8_restart_0 rfl rfl ?_
  refine J_iconst (q := 2) X dX8_restart_1 rfl ?_
  refine J_put (q := 5) (ty := .int) X dX8_restart_2 fX8_23 rfl (by decide +kernel) rfl rfl hK (by omega) (Nat.le_of_ble_eq_true rfl) rfl (fun Ew2 hkq2 hsq2 => ?_)
  replace hK : Ew2 2 = .inr (7, [.ref (ad 3), .ref (ad 5), .int (jI _), .int (jI _), .int (jI _), .int (jI _)]) := hkq2
  replace hT := (hsq2 3 (by omega)).trans hT
  replace hY := (hsq2 4 (by omega)).trans hY
  replace hB := (hsq2 5 (by omega)).trans hB
  replace hF : ∀ j : Nat, j ≠ 2 → Ew2 j = E0 j := fun j hj => (hsq2 j (by omega)).trans (hF j hj)
  refine J_vret X R dX8_restart_5 ?_
  rw [hE0] at hF
  exact ⟨rfl, hK, hF⟩

set_option maxRecDepth 100000 in
set_option maxHeartbeats 4000000 in
theorem c_X8_passName {l : Launch} {Γ : JG} {ad : Nat → Nat} {E : Nat → va_E} {k0 v0 : Int} {tl : Int} {tb : Int → Int} {b0 b1 b2 b3 b4 : Int} {a : Int} (hK : E 2 = .inr (7, [.ref (ad 3), .ref (ad 5), .int (jI k0), .int (jI a), .int (jI a), .int (jI v0)])) (hT : E 3 = .inr (5, [.ref (ad 4), .int (jI tl)])) (hY : E 4 = aI Γ 160 tb) (hB : E 5 = .inr (0, [.int (jI b0), .int (jI b1), .int (jI b2), .int (jI b3), .int (jI b4)])) (htb : TB tl tb) (ha : 0 ≤ a ∧ a < tl) : JM l Γ yX8_passName cX8_passName 1 (some .boolean) 1 20 0 0 ad 95 E [.ref (ad 2)] (pI (fun z E' => z = 1 ∧ E' 2 = .inr (7, [.ref (ad 3), .ref (ad 5), .int (jI 1), .int (jI a), .int (jI (tkL tb tl a)), .int (jI v0)]) ∧ E' 5 = .inr (0, [.int (jI b0), .int (jI b1), .int (jI b2), .int (jI b3), .int (jI b4)]) ∧ ∀ j : Nat, j ≠ 2 ∧ j ≠ 5 → E' j = E j)) := by
  refine JM_intro (own := RX8) [some (.ref (ad 2))] rfl rfl rfl (Nat.le_of_ble_eq_true rfl) ?_
  intro Ω X R hin
  obtain ⟨E0, hE0⟩ : ∃ E0 : Nat → va_E, E0 = E := ⟨_, rfl⟩
  have hF : ∀ j : Nat, j ≠ 2 ∧ j ≠ 5 → E j = E0 j := fun _ _ => by rw [hE0]
  obtain ⟨htl, hbb⟩ := id htb
  refine J_aload_n (q := 1) X dX8_passName_0 rfl rfl ?_
  refine J_iconst (q := 2) X dX8_passName_1 rfl ?_
  refine J_put (q := 5) (ty := .int) X dX8_passName_2 fX8_37 rfl (by decide +kernel) rfl rfl hK (by omega) (Nat.le_of_ble_eq_true rfl) rfl (fun Ew2 hkq2 hsq2 => ?_)
  replace hK : Ew2 2 = .inr (7, [.ref (ad 3), .ref (ad 5), .int (jI _), .int (jI _), .int (jI _), .int (jI _)]) := hkq2
  replace hT := (hsq2 3 (by omega)).trans hT
  replace hY := (hsq2 4 (by omega)).trans hY
  replace hB := (hsq2 5 (by omega)).trans hB
  replace hF : ∀ j : Nat, j ≠ 2 ∧ j ≠ 5 → Ew2 j = E0 j := fun j hj => (hsq2 j (by omega)).trans (hF j hj)
  have lp5 : ∀ (m : Nat) (t : Int) (E : Nat → va_E) (ht : a ≤ t ∧ t ≤ tl) (hsc : sc (fun j => ltr (tb j)) tl t = tkL tb tl a) (hK : E 2 = .inr (7, [.ref (ad 3), .ref (ad 5), .int (jI 1), .int (jI a), .int (jI t), .int (jI v0)])) (hT : E 3 = .inr (5, [.ref (ad 4), .int (jI tl)])) (hY : E 4 = aI Γ 160 tb) (hB : E 5 = .inr (0, [.int (jI b0), .int (jI b1), .int (jI b2), .int (jI b3), .int (jI b4)])) (hF : ∀ j : Nat, j ≠ 2 ∧ j ≠ 5 → E j = E0 j) (hm : tl - t + 1 ≤ (m : Int)), J l Γ Ω 1 ad 95 0 0 E 5 [some (.ref (ad 2))] [] := by
    intro m
    induction m with
    | zero => intro t E ht hsc hK hT hY hB hF hm; exfalso; omega
    | succ m ih5 =>
      intro t E ht hsc hK hT hY hB hF hm
      refine J_aload_n (q := 6) X dX8_passName_5 rfl rfl ?_
      refine J_get (q := 9) X dX8_passName_6 fX8_23 hK (by omega) rfl rfl ?_
      refine J_aload_n (q := 10) X dX8_passName_9 rfl rfl ?_
      refine J_get (q := 13) X dX8_passName_10 fX8_10 hK (by omega) rfl rfl ?_
      refine J_get (q := 16) X dX8_passName_13 fX8_27 hT (by omega) rfl rfl ?_
      refine J_icmp_ge (q := 19) (tgt := 50) X dX8_passName_16 (by decide) rfl (by omega) (by omega) (fun cq16 => ?_) (fun cq16 => ?_)
      · refine J_iconst (q := 51) X dX8_passName_50 rfl ?_
        refine J_zret X R dX8_passName_51 (nrw_z (by first | omega | exact bI_bd _)) ?_
        rw [hE0] at hF
        rw [sc_stop (P := (fun j => ltr (tb j))) (by first | omega | exact fun z => cq34 z.2)] at hsc
        rw [← hsc]
        exact ⟨1, rfl, rfl, hK, hB, hF⟩
      · refine J_aload_n (q := 20) X dX8_passName_19 rfl rfl ?_
        refine J_get (q := 23) X dX8_passName_20 fX8_10 hK (by omega) rfl rfl ?_
        refine J_get (q := 26) X dX8_passName_23 fX8_30 hT (by omega) rfl rfl ?_
        refine J_aload_n (q := 27) X dX8_passName_26 rfl rfl ?_
        refine J_get (q := 30) X dX8_passName_27 fX8_23 hK (by omega) rfl rfl ?_
        refine J_iald (q := 31) X dX8_passName_30 hY (by omega) (by omega) (by decide) rfl ?_
        refine J_callP (q := 34) (jrS X mX8_40 dX8_passName_31 (c_X5_isLetter (by have := hbb t (by omega) (by omega); omega)) rfl rfl (Nat.le_of_ble_eq_true rfl) (by decide)) rfl ?_
        refine J_if_eqB (q := 37) (tgt := 50) X dX8_passName_34 (by decide) rfl (fun cq34 => ?_) (fun cq34 => ?_)
        · refine J_iconst (q := 51) X dX8_passName_50 rfl ?_
          refine J_zret X R dX8_passName_51 (nrw_z (by first | omega | exact bI_bd _)) ?_
          rw [hE0] at hF
          rw [sc_stop (P := (fun j => ltr (tb j))) (by first | omega | exact fun z => cq34 z.2)] at hsc
          rw [← hsc]
          exact ⟨1, rfl, rfl, hK, hB, hF⟩
        · refine J_aload_n (q := 38) X dX8_passName_37 rfl rfl ?_
          refine J_dup (q := 39) X dX8_passName_38 rfl rfl ?_
          refine J_get (q := 42) X dX8_passName_39 fX8_23 hK (by omega) rfl rfl ?_
          refine J_iconst (q := 43) X dX8_passName_42 rfl ?_
          refine J_iadd (q := 44) X dX8_passName_43 rfl ?_
          refine J_put (q := 47) (ty := .int) X dX8_passName_44 fX8_23 rfl (by decide +kernel) rfl rfl hK (by omega) (Nat.le_of_ble_eq_true rfl) rfl (fun Ew44 hkq44 hsq44 => ?_)
          replace hK : Ew44 2 = .inr (7, [.ref (ad 3), .ref (ad 5), .int (jI _), .int (jI _), .int (jI _), .int (jI _)]) := hkq44
          replace hT := (hsq44 3 (by omega)).trans hT
          replace hY := (hsq44 4 (by omega)).trans hY
          replace hB := (hsq44 5 (by omega)).trans hB
          replace hF : ∀ j : Nat, j ≠ 2 ∧ j ≠ 5 → Ew44 j = E0 j := fun j hj => (hsq44 j (by omega)).trans (hF j hj)
          refine J_goto (q := 5) X dX8_passName_47 (by decide) ?_
          exact ih5 _ _ (by omega) (by rw [sc_go (P := (fun j => ltr (tb j))) (by omega) cq34]; exact hsc) hK hT hY hB hF (by omega)
  exact lp5 300 _ _ (by omega) rfl hK hT hY hB hF (by omega)

set_option maxRecDepth 100000 in
set_option maxHeartbeats 4000000 in
theorem c_X8_passNumber {l : Launch} {Γ : JG} {ad : Nat → Nat} {E : Nat → va_E} {k0 v0 : Int} {tl : Int} {tb : Int → Int} {b0 b1 b2 b3 b4 : Int} {a : Int} (hK : E 2 = .inr (7, [.ref (ad 3), .ref (ad 5), .int (jI k0), .int (jI a), .int (jI a), .int (jI v0)])) (hT : E 3 = .inr (5, [.ref (ad 4), .int (jI tl)])) (hY : E 4 = aI Γ 160 tb) (hB : E 5 = .inr (0, [.int (jI b0), .int (jI b1), .int (jI b2), .int (jI b3), .int (jI b4)])) (htb : TB tl tb) (ha : 0 ≤ a ∧ a < tl) : JM l Γ yX8_passNumber cX8_passNumber 1 (some .boolean) 1 22 0 0 ad 95 E [.ref (ad 2)] (pI (fun z E' => ∃ v : Int, (tkN tb tl a - a ≤ 2 → v = nv tb a (tkN tb tl a)) ∧ z = bI (tkN tb tl a - a ≤ 2) ∧ E' 2 = .inr (7, [.ref (ad 3), .ref (ad 5), .int (jI 2), .int (jI a), .int (jI (tkN tb tl a)), .int (jI v)]) ∧ E' 5 = (if tkN tb tl a - a ≤ 2 then .inr (0, [.int (jI b0), .int (jI b1), .int (jI b2), .int (jI b3), .int (jI b4)]) else .inr (0, [.int (jI 1), .int (jI a), .int (jI b2), .int (jI b3), .int (jI b4)])) ∧ ∀ j : Nat, j ≠ 2 ∧ j ≠ 5 → E' j = E j)) := by
  refine JM_intro (own := RX8) [some (.ref (ad 2))] rfl rfl rfl (Nat.le_of_ble_eq_true rfl) ?_
  intro Ω X R hin
  obtain ⟨E0, hE0⟩ : ∃ E0 : Nat → va_E, E0 = E := ⟨_, rfl⟩
  have hF : ∀ j : Nat, j ≠ 2 ∧ j ≠ 5 → E j = E0 j := fun _ _ => by rw [hE0]
  obtain ⟨htl, hbb⟩ := id htb
  refine J_aload_n (q := 1) X dX8_passNumber_0 rfl rfl ?_
  refine J_iconst (q := 2) X dX8_passNumber_1 rfl ?_
  refine J_put (q := 5) (ty := .int) X dX8_passNumber_2 fX8_37 rfl (by decide +kernel) rfl rfl hK (by omega) (Nat.le_of_ble_eq_true rfl) rfl (fun Ew2 hkq2 hsq2 => ?_)
  replace hK : Ew2 2 = .inr (7, [.ref (ad 3), .ref (ad 5), .int (jI _), .int (jI _), .int (jI _), .int (jI _)]) := hkq2
  replace hT := (hsq2 3 (by omega)).trans hT
  replace hY := (hsq2 4 (by omega)).trans hY
  replace hB := (hsq2 5 (by omega)).trans hB
  replace hF : ∀ j : Nat, j ≠ 2 ∧ j ≠ 5 → Ew2 j = E0 j := fun j hj => (hsq2 j (by omega)).trans (hF j hj)
  refine J_aload_n (q := 6) X dX8_passNumber_5 rfl rfl ?_
  refine J_iconst (q := 7) X dX8_passNumber_6 rfl ?_
  refine J_put (q := 10) (ty := .int) X dX8_passNumber_7 fX8_62 rfl (by decide +kernel) rfl rfl hK (by omega) (Nat.le_of_ble_eq_true rfl) rfl (fun Ew7 hkq7 hsq7 => ?_)
  replace hK : Ew7 2 = .inr (7, [.ref (ad 3), .ref (ad 5), .int (jI _), .int (jI _), .int (jI _), .int (jI _)]) := hkq7
  replace hT := (hsq7 3 (by omega)).trans hT
  replace hY := (hsq7 4 (by omega)).trans hY
  replace hB := (hsq7 5 (by omega)).trans hB
  replace hF : ∀ j : Nat, j ≠ 2 ∧ j ≠ 5 → Ew7 j = E0 j := fun j hj => (hsq7 j (by omega)).trans (hF j hj)
  have lp10 : ∀ (m : Nat) (t v : Int) (E : Nat → va_E) (ht : a ≤ t ∧ t ≤ tl) (hsc : sc (fun j => fig (tb j)) tl t = tkN tb tl a) (hv : t - a ≤ 2 → v = nv tb a t) (hK : E 2 = .inr (7, [.ref (ad 3), .ref (ad 5), .int (jI 2), .int (jI a), .int (jI t), .int (jI v)])) (hT : E 3 = .inr (5, [.ref (ad 4), .int (jI tl)])) (hY : E 4 = aI Γ 160 tb) (hB : E 5 = .inr (0, [.int (jI b0), .int (jI b1), .int (jI b2), .int (jI b3), .int (jI b4)])) (hF : ∀ j : Nat, j ≠ 2 ∧ j ≠ 5 → E j = E0 j) (hm : tl - t + 1 ≤ (m : Int)), J l Γ Ω 1 ad 95 0 0 E 10 [some (.ref (ad 2))] [] := by
    intro m
    induction m with
    | zero => intro t v E ht hsc hv hK hT hY hB hF hm; exfalso; omega
    | succ m ih10 =>
      intro t v E ht hsc hv hK hT hY hB hF hm
      refine J_aload_n (q := 11) X dX8_passNumber_10 rfl rfl ?_
      refine J_get (q := 14) X dX8_passNumber_11 fX8_23 hK (by omega) rfl rfl ?_
      refine J_aload_n (q := 15) X dX8_passNumber_14 rfl rfl ?_
      refine J_get (q := 18) X dX8_passNumber_15 fX8_10 hK (by omega) rfl rfl ?_
      refine J_get (q := 21) X dX8_passNumber_18 fX8_27 hT (by omega) rfl rfl ?_
      refine J_icmp_ge (q := 24) (tgt := 82) X dX8_passNumber_21 (by decide) rfl (by omega) (by omega) (fun cq21 => ?_) (fun cq21 => ?_)
      · refine J_aload_n (q := 83) X dX8_passNumber_82 rfl rfl ?_
        refine J_get (q := 86) X dX8_passNumber_83 fX8_23 hK (by omega) rfl rfl ?_
        refine J_aload_n (q := 87) X dX8_passNumber_86 rfl rfl ?_
        refine J_get (q := 90) X dX8_passNumber_87 fX8_34 hK (by omega) rfl rfl ?_
        refine J_isub (q := 91) X dX8_passNumber_90 rfl ?_
        refine J_iconst (q := 92) X dX8_passNumber_91 rfl ?_
        refine J_icmp_le (q := 95) (tgt := 110) X dX8_passNumber_92 (by decide) rfl (by omega) (by omega) (fun cq92 => ?_) (fun cq92 => ?_)
        · refine J_iconst (q := 111) X dX8_passNumber_110 rfl ?_
          refine J_goto (q := 115) X dX8_passNumber_111 (by decide) ?_
          refine J_zret X R dX8_passNumber_115 (nrw_z (by first | omega | exact bI_bd _)) ?_
          rw [hE0] at hF
          rw [sc_stop (P := (fun j => fig (tb j))) (by first | omega | exact fun z => cq39 z.2)] at hsc
          rw [← hsc]
          first
            | (rw [if_pos (by omega), bI_t (by omega)]; exact ⟨1, rfl, v, hv, rfl, hK, hB, hF⟩)
            | (rw [if_neg (by omega), bI_f (by omega)]; exact ⟨0, rfl, v, hv, rfl, hK, hB, hF⟩)
        · refine J_aload_n (q := 96) X dX8_passNumber_95 rfl rfl ?_
          refine J_get (q := 99) X dX8_passNumber_96 fX8_19 hK (by omega) rfl rfl ?_
          refine J_iconst (q := 100) X dX8_passNumber_99 rfl ?_
          refine J_aload_n (q := 101) X dX8_passNumber_100 rfl rfl ?_
          refine J_get (q := 104) X dX8_passNumber_101 fX8_34 hK (by omega) rfl rfl ?_
          refine J_callI (q := 107) (jrV X mX8_65 dX8_passNumber_104 (c_X0_stopAt hB) hB (by omega) rfl rfl rfl rfl (Nat.le_of_ble_eq_true rfl) (by decide)) rfl (fun zq104 Ew104 hpq104 => ?_)
          obtain ⟨hzq104, kB, hsq104⟩ := hpq104
          replace hB := kB
          replace hK := (hsq104 2 (by omega)).trans hK
          replace hT := (hsq104 3 (by omega)).trans hT
          replace hY := (hsq104 4 (by omega)).trans hY
          replace hF : ∀ j : Nat, j ≠ 2 ∧ j ≠ 5 → Ew104 j = E0 j := fun j hj => (hsq104 j (by omega)).trans (hF j hj)
          refine J_if_eq (q := 110) (tgt := 114) X dX8_passNumber_107 (by decide) rfl (by omega) (fun cq107 => ?_) (fun cq107 => ?_)
          · refine J_iconst (q := 115) X dX8_passNumber_114 rfl ?_
            refine J_zret X R dX8_passNumber_115 (nrw_z (by first | omega | exact bI_bd _)) ?_
            rw [hE0] at hF
            rw [sc_stop (P := (fun j => fig (tb j))) (by first | omega | exact fun z => cq39 z.2)] at hsc
            rw [← hsc]
            first
              | (rw [if_pos (by omega), bI_t (by omega)]; exact ⟨1, rfl, v, hv, rfl, hK, hB, hF⟩)
              | (rw [if_neg (by omega), bI_f (by omega)]; exact ⟨0, rfl, v, hv, rfl, hK, hB, hF⟩)
          · exact absurd hzq104 cq107
      · refine J_aload_n (q := 25) X dX8_passNumber_24 rfl rfl ?_
        refine J_get (q := 28) X dX8_passNumber_25 fX8_10 hK (by omega) rfl rfl ?_
        refine J_get (q := 31) X dX8_passNumber_28 fX8_30 hT (by omega) rfl rfl ?_
        refine J_aload_n (q := 32) X dX8_passNumber_31 rfl rfl ?_
        refine J_get (q := 35) X dX8_passNumber_32 fX8_23 hK (by omega) rfl rfl ?_
        refine J_iald (q := 36) X dX8_passNumber_35 hY (by omega) (by omega) (by decide) rfl ?_
        refine J_callP (q := 39) (jrS X mX8_50 dX8_passNumber_36 (c_X8_isFigure (by have := hbb t (by omega) (by omega); omega)) rfl rfl (Nat.le_of_ble_eq_true rfl) (by decide)) rfl ?_
        refine J_if_eqB (q := 42) (tgt := 82) X dX8_passNumber_39 (by decide) rfl (fun cq39 => ?_) (fun cq39 => ?_)
        · refine J_aload_n (q := 83) X dX8_passNumber_82 rfl rfl ?_
          refine J_get (q := 86) X dX8_passNumber_83 fX8_23 hK (by omega) rfl rfl ?_
          refine J_aload_n (q := 87) X dX8_passNumber_86 rfl rfl ?_
          refine J_get (q := 90) X dX8_passNumber_87 fX8_34 hK (by omega) rfl rfl ?_
          refine J_isub (q := 91) X dX8_passNumber_90 rfl ?_
          refine J_iconst (q := 92) X dX8_passNumber_91 rfl ?_
          refine J_icmp_le (q := 95) (tgt := 110) X dX8_passNumber_92 (by decide) rfl (by omega) (by omega) (fun cq92 => ?_) (fun cq92 => ?_)
          · refine J_iconst (q := 111) X dX8_passNumber_110 rfl ?_
            refine J_goto (q := 115) X dX8_passNumber_111 (by decide) ?_
            refine J_zret X R dX8_passNumber_115 (nrw_z (by first | omega | exact bI_bd _)) ?_
            rw [hE0] at hF
            rw [sc_stop (P := (fun j => fig (tb j))) (by first | omega | exact fun z => cq39 z.2)] at hsc
            rw [← hsc]
            first
              | (rw [if_pos (by omega), bI_t (by omega)]; exact ⟨1, rfl, v, hv, rfl, hK, hB, hF⟩)
              | (rw [if_neg (by omega), bI_f (by omega)]; exact ⟨0, rfl, v, hv, rfl, hK, hB, hF⟩)
          · refine J_aload_n (q := 96) X dX8_passNumber_95 rfl rfl ?_
            refine J_get (q := 99) X dX8_passNumber_96 fX8_19 hK (by omega) rfl rfl ?_
            refine J_iconst (q := 100) X dX8_passNumber_99 rfl ?_
            refine J_aload_n (q := 101) X dX8_passNumber_100 rfl rfl ?_
            refine J_get (q := 104) X dX8_passNumber_101 fX8_34 hK (by omega) rfl rfl ?_
            refine J_callI (q := 107) (jrV X mX8_65 dX8_passNumber_104 (c_X0_stopAt hB) hB (by omega) rfl rfl rfl rfl (Nat.le_of_ble_eq_true rfl) (by decide)) rfl (fun zq104 Ew104 hpq104 => ?_)
            obtain ⟨hzq104, kB, hsq104⟩ := hpq104
            replace hB := kB
            replace hK := (hsq104 2 (by omega)).trans hK
            replace hT := (hsq104 3 (by omega)).trans hT
            replace hY := (hsq104 4 (by omega)).trans hY
            replace hF : ∀ j : Nat, j ≠ 2 ∧ j ≠ 5 → Ew104 j = E0 j := fun j hj => (hsq104 j (by omega)).trans (hF j hj)
            refine J_if_eq (q := 110) (tgt := 114) X dX8_passNumber_107 (by decide) rfl (by omega) (fun cq107 => ?_) (fun cq107 => ?_)
            · refine J_iconst (q := 115) X dX8_passNumber_114 rfl ?_
              refine J_zret X R dX8_passNumber_115 (nrw_z (by first | omega | exact bI_bd _)) ?_
              rw [hE0] at hF
              rw [sc_stop (P := (fun j => fig (tb j))) (by first | omega | exact fun z => cq39 z.2)] at hsc
              rw [← hsc]
              first
                | (rw [if_pos (by omega), bI_t (by omega)]; exact ⟨1, rfl, v, hv, rfl, hK, hB, hF⟩)
                | (rw [if_neg (by omega), bI_f (by omega)]; exact ⟨0, rfl, v, hv, rfl, hK, hB, hF⟩)
            · exact absurd hzq104 cq107
        · refine J_aload_n (q := 43) X dX8_passNumber_42 rfl rfl ?_
          refine J_aload_n (q := 44) X dX8_passNumber_43 rfl rfl ?_
          refine J_get (q := 47) X dX8_passNumber_44 fX8_62 hK (by omega) rfl rfl ?_
          refine J_bipush (q := 49) X dX8_passNumber_47 rfl (by decide) ?_
          refine J_imul (q := 50) X dX8_passNumber_49 rfl ?_
          refine J_aload_n (q := 51) X dX8_passNumber_50 rfl rfl ?_
          refine J_get (q := 54) X dX8_passNumber_51 fX8_10 hK (by omega) rfl rfl ?_
          refine J_get (q := 57) X dX8_passNumber_54 fX8_30 hT (by omega) rfl rfl ?_
          refine J_aload_n (q := 58) X dX8_passNumber_57 rfl rfl ?_
          refine J_get (q := 61) X dX8_passNumber_58 fX8_23 hK (by omega) rfl rfl ?_
          refine J_iald (q := 62) X dX8_passNumber_61 hY (by omega) (by omega) (by decide) rfl ?_
          refine J_iadd (q := 63) X dX8_passNumber_62 rfl ?_
          refine J_bipush (q := 65) X dX8_passNumber_63 rfl (by decide) ?_
          refine J_isub (q := 66) X dX8_passNumber_65 rfl ?_
          refine J_put (q := 69) (ty := .int) X dX8_passNumber_66 fX8_62 rfl (by decide +kernel) rfl rfl hK (by omega) (Nat.le_of_ble_eq_true rfl) rfl (fun Ew66 hkq66 hsq66 => ?_)
          replace hK : Ew66 2 = .inr (7, [.ref (ad 3), .ref (ad 5), .int (jI _), .int (jI _), .int (jI _), .int (jI _)]) := hkq66
          replace hT := (hsq66 3 (by omega)).trans hT
          replace hY := (hsq66 4 (by omega)).trans hY
          replace hB := (hsq66 5 (by omega)).trans hB
          replace hF : ∀ j : Nat, j ≠ 2 ∧ j ≠ 5 → Ew66 j = E0 j := fun j hj => (hsq66 j (by omega)).trans (hF j hj)
          refine J_aload_n (q := 70) X dX8_passNumber_69 rfl rfl ?_
          refine J_dup (q := 71) X dX8_passNumber_70 rfl rfl ?_
          refine J_get (q := 74) X dX8_passNumber_71 fX8_23 hK (by omega) rfl rfl ?_
          refine J_iconst (q := 75) X dX8_passNumber_74 rfl ?_
          refine J_iadd (q := 76) X dX8_passNumber_75 rfl ?_
          refine J_put (q := 79) (ty := .int) X dX8_passNumber_76 fX8_23 rfl (by decide +kernel) rfl rfl hK (by omega) (Nat.le_of_ble_eq_true rfl) rfl (fun Ew76 hkq76 hsq76 => ?_)
          replace hK : Ew76 2 = .inr (7, [.ref (ad 3), .ref (ad 5), .int (jI _), .int (jI _), .int (jI _), .int (jI _)]) := hkq76
          replace hT := (hsq76 3 (by omega)).trans hT
          replace hY := (hsq76 4 (by omega)).trans hY
          replace hB := (hsq76 5 (by omega)).trans hB
          replace hF : ∀ j : Nat, j ≠ 2 ∧ j ≠ 5 → Ew76 j = E0 j := fun j hj => (hsq76 j (by omega)).trans (hF j hj)
          refine J_goto (q := 10) X dX8_passNumber_79 (by decide) ?_
          exact ih10 _ _ _ (by omega) (by rw [sc_go (P := (fun j => fig (tb j))) (by omega) cq39]; exact hsc) (nv_step ht.1 hv) hK hT hY hB hF (by omega)
  exact lp10 300 _ _ _ (by omega) rfl (fun _ => by unfold nv; rw [if_pos rfl]) hK hT hY hB hF (by omega)

set_option maxRecDepth 100000 in
set_option maxHeartbeats 4000000 in
theorem c_X8_passQuote {l : Launch} {Γ : JG} {ad : Nat → Nat} {E : Nat → va_E} {k0 t0 v0 : Int} {tl : Int} {tb : Int → Int} {b0 b1 b2 b3 b4 : Int} {a : Int} (hK : E 2 = .inr (7, [.ref (ad 3), .ref (ad 5), .int (jI k0), .int (jI a), .int (jI t0), .int (jI v0)])) (hT : E 3 = .inr (5, [.ref (ad 4), .int (jI tl)])) (hY : E 4 = aI Γ 160 tb) (hB : E 5 = .inr (0, [.int (jI b0), .int (jI b1), .int (jI b2), .int (jI b3), .int (jI b4)])) (htb : TB tl tb) (ha : 0 ≤ a ∧ a < tl) : JM l Γ yX8_passQuote cX8_passQuote 2 (some .boolean) 3 60 0 0 ad 95 E [.ref (ad 2)] (pI (fun z E' => ∃ t : Int, (tkQ tb tl a < tl ∧ tb (tkQ tb tl a) = 34 → t = tkQ tb tl a + 1) ∧ z = bI (tkQ tb tl a < tl ∧ tb (tkQ tb tl a) = 34) ∧ E' 2 = .inr (7, [.ref (ad 3), .ref (ad 5), .int (jI 4), .int (jI a), .int (jI t), .int (jI v0)]) ∧ E' 5 = (if tkQ tb tl a < tl ∧ tb (tkQ tb tl a) = 34 then .inr (0, [.int (jI b0), .int (jI b1), .int (jI b2), .int (jI b3), .int (jI b4)]) else .inr (0, [.int (jI (if tkQ tb tl a < tl then 1 else 2)), .int (jI (tkQ tb tl a)), .int (jI b2), .int (jI b3), .int (jI (tkQ tb tl a - a - 1))])) ∧ ∀ j : Nat, j ≠ 2 ∧ j ≠ 5 → E' j = E j)) := by
  refine JM_intro (own := RX8) [some (.ref (ad 2)), none] rfl rfl rfl (Nat.le_of_ble_eq_true rfl) ?_
  intro Ω X R hin
  obtain ⟨E0, hE0⟩ : ∃ E0 : Nat → va_E, E0 = E := ⟨_, rfl⟩
  have hF : ∀ j : Nat, j ≠ 2 ∧ j ≠ 5 → E j = E0 j := fun _ _ => by rw [hE0]
  obtain ⟨htl, hbb⟩ := id htb
  refine J_aload_n (q := 1) X dX8_passQuote_0 rfl rfl ?_
  refine J_iconst (q := 2) X dX8_passQuote_1 rfl ?_
  refine J_put (q := 5) (ty := .int) X dX8_passQuote_2 fX8_37 rfl (by decide +kernel) rfl rfl hK (by omega) (Nat.le_of_ble_eq_true rfl) rfl (fun Ew2 hkq2 hsq2 => ?_)
  replace hK : Ew2 2 = .inr (7, [.ref (ad 3), .ref (ad 5), .int (jI _), .int (jI _), .int (jI _), .int (jI _)]) := hkq2
  replace hT := (hsq2 3 (by omega)).trans hT
  replace hY := (hsq2 4 (by omega)).trans hY
  replace hB := (hsq2 5 (by omega)).trans hB
  replace hF : ∀ j : Nat, j ≠ 2 ∧ j ≠ 5 → Ew2 j = E0 j := fun j hj => (hsq2 j (by omega)).trans (hF j hj)
  refine J_aload_n (q := 6) X dX8_passQuote_5 rfl rfl ?_
  refine J_aload_n (q := 7) X dX8_passQuote_6 rfl rfl ?_
  refine J_get (q := 10) X dX8_passQuote_7 fX8_34 hK (by omega) rfl rfl ?_
  refine J_iconst (q := 11) X dX8_passQuote_10 rfl ?_
  refine J_iadd (q := 12) X dX8_passQuote_11 rfl ?_
  refine J_put (q := 15) (ty := .int) X dX8_passQuote_12 fX8_23 rfl (by decide +kernel) rfl rfl hK (by omega) (Nat.le_of_ble_eq_true rfl) rfl (fun Ew12 hkq12 hsq12 => ?_)
  replace hK : Ew12 2 = .inr (7, [.ref (ad 3), .ref (ad 5), .int (jI _), .int (jI _), .int (jI _), .int (jI _)]) := hkq12
  replace hT := (hsq12 3 (by omega)).trans hT
  replace hY := (hsq12 4 (by omega)).trans hY
  replace hB := (hsq12 5 (by omega)).trans hB
  replace hF : ∀ j : Nat, j ≠ 2 ∧ j ≠ 5 → Ew12 j = E0 j := fun j hj => (hsq12 j (by omega)).trans (hF j hj)
  have lp15 : ∀ (m : Nat) (t : Int) (E : Nat → va_E) (ht : a + 1 ≤ t ∧ t ≤ tl) (hsc : sc (fun j => sgn (tb j)) tl t = tkQ tb tl a) (hK : E 2 = .inr (7, [.ref (ad 3), .ref (ad 5), .int (jI 4), .int (jI a), .int (jI t), .int (jI v0)])) (hT : E 3 = .inr (5, [.ref (ad 4), .int (jI tl)])) (hY : E 4 = aI Γ 160 tb) (hB : E 5 = .inr (0, [.int (jI b0), .int (jI b1), .int (jI b2), .int (jI b3), .int (jI b4)])) (hF : ∀ j : Nat, j ≠ 2 ∧ j ≠ 5 → E j = E0 j) (hm : tl - t + 1 ≤ (m : Int)), J l Γ Ω 2 ad 95 0 0 E 15 [some (.ref (ad 2)), none] [] := by
    intro m
    induction m with
    | zero => intro t E ht hsc hK hT hY hB hF hm; exfalso; omega
    | succ m ih15 =>
      intro t E ht hsc hK hT hY hB hF hm
      refine J_aload_n (q := 16) X dX8_passQuote_15 rfl rfl ?_
      refine J_get (q := 19) X dX8_passQuote_16 fX8_23 hK (by omega) rfl rfl ?_
      refine J_aload_n (q := 20) X dX8_passQuote_19 rfl rfl ?_
      refine J_get (q := 23) X dX8_passQuote_20 fX8_10 hK (by omega) rfl rfl ?_
      refine J_get (q := 26) X dX8_passQuote_23 fX8_27 hT (by omega) rfl rfl ?_
      refine J_icmp_ge (q := 29) (tgt := 104) X dX8_passQuote_26 (by decide) rfl (by omega) (by omega) (fun cq26 => ?_) (fun cq26 => ?_)
      · refine J_aload_n (q := 105) X dX8_passQuote_104 rfl rfl ?_
        refine J_get (q := 108) X dX8_passQuote_105 fX8_19 hK (by omega) rfl rfl ?_
        refine J_iconst (q := 109) X dX8_passQuote_108 rfl ?_
        refine J_aload_n (q := 110) X dX8_passQuote_109 rfl rfl ?_
        refine J_get (q := 113) X dX8_passQuote_110 fX8_23 hK (by omega) rfl rfl ?_
        refine J_aload_n (q := 114) X dX8_passQuote_113 rfl rfl ?_
        refine J_get (q := 117) X dX8_passQuote_114 fX8_23 hK (by omega) rfl rfl ?_
        refine J_aload_n (q := 118) X dX8_passQuote_117 rfl rfl ?_
        refine J_get (q := 121) X dX8_passQuote_118 fX8_34 hK (by omega) rfl rfl ?_
        refine J_isub (q := 122) X dX8_passQuote_121 rfl ?_
        refine J_iconst (q := 123) X dX8_passQuote_122 rfl ?_
        refine J_isub (q := 124) X dX8_passQuote_123 rfl ?_
        refine J_callI (q := 127) (jrV X mX8_72 dX8_passQuote_124 (c_X0_stopInQuote hB) hB (by omega) rfl rfl rfl rfl (Nat.le_of_ble_eq_true rfl) (by decide)) rfl (fun zq124 Ew124 hpq124 => ?_)
        obtain ⟨hzq124, kB, hsq124⟩ := hpq124
        replace hB := kB
        replace hK := (hsq124 2 (by omega)).trans hK
        replace hT := (hsq124 3 (by omega)).trans hT
        replace hY := (hsq124 4 (by omega)).trans hY
        replace hF : ∀ j : Nat, j ≠ 2 ∧ j ≠ 5 → Ew124 j = E0 j := fun j hj => (hsq124 j (by omega)).trans (hF j hj)
        refine J_zret X R dX8_passQuote_127 (nrw_z (by first | omega | exact bI_bd _)) ?_
        rw [hE0] at hF
        rw [sc_stop (P := (fun j => sgn (tb j))) (by omega)] at hsc
        rw [← hsc, if_neg (fun z => by omega), bI_f (fun z => by omega), if_neg (by omega)]
        exact ⟨zq124, rfl, _, fun z => by omega, hzq124, hK, hB, hF⟩
      · refine J_aload_n (q := 30) X dX8_passQuote_29 rfl rfl ?_
        refine J_get (q := 33) X dX8_passQuote_30 fX8_10 hK (by omega) rfl rfl ?_
        refine J_get (q := 36) X dX8_passQuote_33 fX8_30 hT (by omega) rfl rfl ?_
        refine J_aload_n (q := 37) X dX8_passQuote_36 rfl rfl ?_
        refine J_get (q := 40) X dX8_passQuote_37 fX8_23 hK (by omega) rfl rfl ?_
        refine J_iald (q := 41) X dX8_passQuote_40 hY (by omega) (by omega) (by decide) rfl ?_
        refine J_istore_n (q := 42) X dX8_passQuote_41 (by decide) rfl rfl ?_
        refine J_iload_n (q := 43) X dX8_passQuote_42 rfl rfl ?_
        refine J_bipush (q := 45) X dX8_passQuote_43 rfl (by decide) ?_
        refine J_icmp_ne (q := 48) (tgt := 60) X dX8_passQuote_45 (by decide) rfl (by have := hbb t (by omega) (by omega); omega) (by omega) (fun cq45 => ?_) (fun cq45 => ?_)
        · refine J_iload_n (q := 61) X dX8_passQuote_60 rfl rfl ?_
          refine J_callP (q := 64) (jrS X mX8_69 dX8_passQuote_61 (c_X5_isSign (by have := hbb t (by omega) (by omega); omega)) rfl rfl (Nat.le_of_ble_eq_true rfl) (by decide)) rfl ?_
          refine J_if_neB (q := 67) (tgt := 91) X dX8_passQuote_64 (by decide) rfl (fun cq64 => ?_) (fun cq64 => ?_)
          · refine J_aload_n (q := 92) X dX8_passQuote_91 rfl rfl ?_
            refine J_dup (q := 93) X dX8_passQuote_92 rfl rfl ?_
            refine J_get (q := 96) X dX8_passQuote_93 fX8_23 hK (by omega) rfl rfl ?_
            refine J_iconst (q := 97) X dX8_passQuote_96 rfl ?_
            refine J_iadd (q := 98) X dX8_passQuote_97 rfl ?_
            refine J_put (q := 101) (ty := .int) X dX8_passQuote_98 fX8_23 rfl (by decide +kernel) rfl rfl hK (by omega) (Nat.le_of_ble_eq_true rfl) rfl (fun Ew98 hkq98 hsq98 => ?_)
            replace hK : Ew98 2 = .inr (7, [.ref (ad 3), .ref (ad 5), .int (jI _), .int (jI _), .int (jI _), .int (jI _)]) := hkq98
            replace hT := (hsq98 3 (by omega)).trans hT
            replace hY := (hsq98 4 (by omega)).trans hY
            replace hB := (hsq98 5 (by omega)).trans hB
            replace hF : ∀ j : Nat, j ≠ 2 ∧ j ≠ 5 → Ew98 j = E0 j := fun j hj => (hsq98 j (by omega)).trans (hF j hj)
            refine J_goto (q := 15) X dX8_passQuote_101 (by decide) ?_
            refine J_kill 1 ?_
            exact ih15 _ _ (by omega) (by rw [sc_go (P := (fun j => sgn (tb j))) (by omega) cq64]; exact hsc) hK hT hY hB hF (by omega)
          · refine J_aload_n (q := 68) X dX8_passQuote_67 rfl rfl ?_
            refine J_get (q := 71) X dX8_passQuote_68 fX8_19 hK (by omega) rfl rfl ?_
            refine J_iconst (q := 72) X dX8_passQuote_71 rfl ?_
            refine J_aload_n (q := 73) X dX8_passQuote_72 rfl rfl ?_
            refine J_get (q := 76) X dX8_passQuote_73 fX8_23 hK (by omega) rfl rfl ?_
            refine J_aload_n (q := 77) X dX8_passQuote_76 rfl rfl ?_
            refine J_get (q := 80) X dX8_passQuote_77 fX8_23 hK (by omega) rfl rfl ?_
            refine J_aload_n (q := 81) X dX8_passQuote_80 rfl rfl ?_
            refine J_get (q := 84) X dX8_passQuote_81 fX8_34 hK (by omega) rfl rfl ?_
            refine J_isub (q := 85) X dX8_passQuote_84 rfl ?_
            refine J_iconst (q := 86) X dX8_passQuote_85 rfl ?_
            refine J_isub (q := 87) X dX8_passQuote_86 rfl ?_
            refine J_callI (q := 90) (jrV X mX8_72 dX8_passQuote_87 (c_X0_stopInQuote hB) hB (by omega) rfl rfl rfl rfl (Nat.le_of_ble_eq_true rfl) (by decide)) rfl (fun zq87 Ew87 hpq87 => ?_)
            obtain ⟨hzq87, kB, hsq87⟩ := hpq87
            replace hB := kB
            replace hK := (hsq87 2 (by omega)).trans hK
            replace hT := (hsq87 3 (by omega)).trans hT
            replace hY := (hsq87 4 (by omega)).trans hY
            replace hF : ∀ j : Nat, j ≠ 2 ∧ j ≠ 5 → Ew87 j = E0 j := fun j hj => (hsq87 j (by omega)).trans (hF j hj)
            refine J_zret X R dX8_passQuote_90 (nrw_z (by first | omega | exact bI_bd _)) ?_
            rw [hE0] at hF
            rw [sc_stop (P := (fun j => sgn (tb j))) (fun z => cq64 z.2)] at hsc
            rw [← hsc, if_neg (fun z => cq45 z.2), bI_f (fun z => cq45 z.2), if_pos (by omega)]
            exact ⟨zq87, rfl, _, fun z => absurd z.2 cq45, hzq87, hK, hB, hF⟩
        · refine J_aload_n (q := 49) X dX8_passQuote_48 rfl rfl ?_
          refine J_dup (q := 50) X dX8_passQuote_49 rfl rfl ?_
          refine J_get (q := 53) X dX8_passQuote_50 fX8_23 hK (by omega) rfl rfl ?_
          refine J_iconst (q := 54) X dX8_passQuote_53 rfl ?_
          refine J_iadd (q := 55) X dX8_passQuote_54 rfl ?_
          refine J_put (q := 58) (ty := .int) X dX8_passQuote_55 fX8_23 rfl (by decide +kernel) rfl rfl hK (by omega) (Nat.le_of_ble_eq_true rfl) rfl (fun Ew55 hkq55 hsq55 => ?_)
          replace hK : Ew55 2 = .inr (7, [.ref (ad 3), .ref (ad 5), .int (jI _), .int (jI _), .int (jI _), .int (jI _)]) := hkq55
          replace hT := (hsq55 3 (by omega)).trans hT
          replace hY := (hsq55 4 (by omega)).trans hY
          replace hB := (hsq55 5 (by omega)).trans hB
          replace hF : ∀ j : Nat, j ≠ 2 ∧ j ≠ 5 → Ew55 j = E0 j := fun j hj => (hsq55 j (by omega)).trans (hF j hj)
          refine J_iconst (q := 59) X dX8_passQuote_58 rfl ?_
          refine J_zret X R dX8_passQuote_59 (nrw_z (by first | omega | exact bI_bd _)) ?_
          rw [hE0] at hF
          rw [sc_stop (P := (fun j => sgn (tb j))) (by rw [cq45]; omega)] at hsc
          rw [← hsc, if_pos ⟨by omega, cq45⟩, bI_t ⟨by omega, cq45⟩]
          exact ⟨1, rfl, _, fun _ => rfl, rfl, hK, hB, hF⟩
  exact lp15 300 _ _ (by omega) rfl hK hT hY hB hF (by omega)

set_option maxRecDepth 100000 in
set_option maxHeartbeats 4000000 in
theorem c_X8_passSemicolon {l : Launch} {Γ : JG} {ad : Nat → Nat} {E : Nat → va_E} {k0 v0 : Int} {tl : Int} {tb : Int → Int} {b0 b1 b2 b3 b4 : Int} {a c : Int} (hK : E 2 = .inr (7, [.ref (ad 3), .ref (ad 5), .int (jI k0), .int (jI a), .int (jI a), .int (jI v0)])) (hT : E 3 = .inr (5, [.ref (ad 4), .int (jI tl)])) (hY : E 4 = aI Γ 160 tb) (hB : E 5 = .inr (0, [.int (jI b0), .int (jI b1), .int (jI b2), .int (jI b3), .int (jI b4)])) (htb : TB tl tb) (ha : 0 ≤ a ∧ a < 160) (hc : -2147483648 ≤ c ∧ c < 2147483648) : JM l Γ yX8_passSemicolon cX8_passSemicolon 2 (some .boolean) 1 22 0 0 ad 95 E [.ref (ad 2), .int (jI c)] (pI (fun z E' => z = bI (c = 59) ∧ E' 2 = .inr (7, [.ref (ad 3), .ref (ad 5), .int (jI 3), .int (jI a), .int (jI (a + 1)), .int (jI v0)]) ∧ E' 5 = (if c = 59 then .inr (0, [.int (jI b0), .int (jI b1), .int (jI b2), .int (jI b3), .int (jI b4)]) else .inr (0, [.int (jI 1), .int (jI a), .int (jI b2), .int (jI b3), .int (jI b4)])) ∧ ∀ j : Nat, j ≠ 2 ∧ j ≠ 5 → E' j = E j)) := by
  refine JM_intro (own := RX8) [some (.ref (ad 2)), some (.int (jI c))] rfl rfl rfl (Nat.le_of_ble_eq_true rfl) ?_
  intro Ω X R hin
  obtain ⟨E0, hE0⟩ : ∃ E0 : Nat → va_E, E0 = E := ⟨_, rfl⟩
  have hF : ∀ j : Nat, j ≠ 2 ∧ j ≠ 5 → E j = E0 j := fun _ _ => by rw [hE0]
  obtain ⟨htl, hbb⟩ := id htb
  refine J_aload_n (q := 1) X dX8_passSemicolon_0 rfl rfl ?_
  refine J_iconst (q := 2) X dX8_passSemicolon_1 rfl ?_
  refine J_put (q := 5) (ty := .int) X dX8_passSemicolon_2 fX8_37 rfl (by decide +kernel) rfl rfl hK (by omega) (Nat.le_of_ble_eq_true rfl) rfl (fun Ew2 hkq2 hsq2 => ?_)
  replace hK : Ew2 2 = .inr (7, [.ref (ad 3), .ref (ad 5), .int (jI _), .int (jI _), .int (jI _), .int (jI _)]) := hkq2
  replace hT := (hsq2 3 (by omega)).trans hT
  replace hY := (hsq2 4 (by omega)).trans hY
  replace hB := (hsq2 5 (by omega)).trans hB
  replace hF : ∀ j : Nat, j ≠ 2 ∧ j ≠ 5 → Ew2 j = E0 j := fun j hj => (hsq2 j (by omega)).trans (hF j hj)
  refine J_aload_n (q := 6) X dX8_passSemicolon_5 rfl rfl ?_
  refine J_dup (q := 7) X dX8_passSemicolon_6 rfl rfl ?_
  refine J_get (q := 10) X dX8_passSemicolon_7 fX8_23 hK (by omega) rfl rfl ?_
  refine J_iconst (q := 11) X dX8_passSemicolon_10 rfl ?_
  refine J_iadd (q := 12) X dX8_passSemicolon_11 rfl ?_
  refine J_put (q := 15) (ty := .int) X dX8_passSemicolon_12 fX8_23 rfl (by decide +kernel) rfl rfl hK (by omega) (Nat.le_of_ble_eq_true rfl) rfl (fun Ew12 hkq12 hsq12 => ?_)
  replace hK : Ew12 2 = .inr (7, [.ref (ad 3), .ref (ad 5), .int (jI _), .int (jI _), .int (jI _), .int (jI _)]) := hkq12
  replace hT := (hsq12 3 (by omega)).trans hT
  replace hY := (hsq12 4 (by omega)).trans hY
  replace hB := (hsq12 5 (by omega)).trans hB
  replace hF : ∀ j : Nat, j ≠ 2 ∧ j ≠ 5 → Ew12 j = E0 j := fun j hj => (hsq12 j (by omega)).trans (hF j hj)
  refine J_iload_n (q := 16) X dX8_passSemicolon_15 rfl rfl ?_
  refine J_bipush (q := 18) X dX8_passSemicolon_16 rfl (by decide) ?_
  refine J_icmp_eq (q := 21) (tgt := 36) X dX8_passSemicolon_18 (by decide) rfl (by omega) (by omega) (fun cq18 => ?_) (fun cq18 => ?_)
  · refine J_iconst (q := 37) X dX8_passSemicolon_36 rfl ?_
    refine J_goto (q := 41) X dX8_passSemicolon_37 (by decide) ?_
    refine J_zret X R dX8_passSemicolon_41 (nrw_z (by first | omega | exact bI_bd _)) ?_
    rw [hE0] at hF
    first
      | (rw [if_pos (by omega), bI_t (by omega)]; exact ⟨1, rfl, rfl, hK, hB, hF⟩)
      | (rw [if_neg (by omega), bI_f (by omega)]; exact ⟨0, rfl, rfl, hK, hB, hF⟩)
  · refine J_aload_n (q := 22) X dX8_passSemicolon_21 rfl rfl ?_
    refine J_get (q := 25) X dX8_passSemicolon_22 fX8_19 hK (by omega) rfl rfl ?_
    refine J_iconst (q := 26) X dX8_passSemicolon_25 rfl ?_
    refine J_aload_n (q := 27) X dX8_passSemicolon_26 rfl rfl ?_
    refine J_get (q := 30) X dX8_passSemicolon_27 fX8_34 hK (by omega) rfl rfl ?_
    refine J_callI (q := 33) (jrV X mX8_65 dX8_passSemicolon_30 (c_X0_stopAt hB) hB (by omega) rfl rfl rfl rfl (Nat.le_of_ble_eq_true rfl) (by decide)) rfl (fun zq30 Ew30 hpq30 => ?_)
    obtain ⟨hzq30, kB, hsq30⟩ := hpq30
    replace hB := kB
    replace hK := (hsq30 2 (by omega)).trans hK
    replace hT := (hsq30 3 (by omega)).trans hT
    replace hY := (hsq30 4 (by omega)).trans hY
    replace hF : ∀ j : Nat, j ≠ 2 ∧ j ≠ 5 → Ew30 j = E0 j := fun j hj => (hsq30 j (by omega)).trans (hF j hj)
    refine J_if_eq (q := 36) (tgt := 40) X dX8_passSemicolon_33 (by decide) rfl (by omega) (fun cq33 => ?_) (fun cq33 => ?_)
    · refine J_iconst (q := 41) X dX8_passSemicolon_40 rfl ?_
      refine J_zret X R dX8_passSemicolon_41 (nrw_z (by first | omega | exact bI_bd _)) ?_
      rw [hE0] at hF
      first
        | (rw [if_pos (by omega), bI_t (by omega)]; exact ⟨1, rfl, rfl, hK, hB, hF⟩)
        | (rw [if_neg (by omega), bI_f (by omega)]; exact ⟨0, rfl, rfl, hK, hB, hF⟩)
    · exact absurd hzq30 cq33

set_option maxRecDepth 100000 in
set_option maxHeartbeats 4000000 in
theorem c_X8_advance {l : Launch} {Γ : JG} {ad : Nat → Nat} {E : Nat → va_E} {k0 f0 v0 : Int} {tl : Int} {tb : Int → Int} {b0 b1 b2 b3 b4 : Int} {i : Int} (hK : E 2 = .inr (7, [.ref (ad 3), .ref (ad 5), .int (jI k0), .int (jI f0), .int (jI i), .int (jI v0)])) (hT : E 3 = .inr (5, [.ref (ad 4), .int (jI tl)])) (hY : E 4 = aI Γ 160 tb) (hB : E 5 = .inr (0, [.int (jI b0), .int (jI b1), .int (jI b2), .int (jI b3), .int (jI b4)])) (htb : TB tl tb) (hi : 0 ≤ i ∧ i ≤ tl) : JM l Γ yX8_advance cX8_advance 2 (some .boolean) 4 81 0 0 ad 95 E [.ref (ad 2)] (pI (fun z E' => ∃ a t v : Int, a = tkA tb tl i ∧ (tkF tb tl a = 0 → t = tkB tb tl a ∧ (tkK tb tl a = 2 → v = nv tb a (tkB tb tl a))) ∧ z = bI (tkF tb tl a = 0) ∧ E' 2 = .inr (7, [.ref (ad 3), .ref (ad 5), .int (jI (tkK tb tl a)), .int (jI a), .int (jI t), .int (jI v)]) ∧ E' 5 = (if tkF tb tl a = 0 then .inr (0, [.int (jI b0), .int (jI b1), .int (jI b2), .int (jI b3), .int (jI b4)]) else .inr (0, [.int (jI (tkF tb tl a)), .int (jI (tkP tb tl a)), .int (jI b2), .int (jI b3), .int (jI (if tkK tb tl a = 4 then tkQ tb tl a - a - 1 else b4))])) ∧ ∀ j : Nat, j ≠ 2 ∧ j ≠ 5 → E' j = E j)) := by
  refine JM_intro (own := RX8) [some (.ref (ad 2)), none] rfl rfl rfl (Nat.le_of_ble_eq_true rfl) ?_
  intro Ω X R hin
  obtain ⟨E0, hE0⟩ : ∃ E0 : Nat → va_E, E0 = E := ⟨_, rfl⟩
  have hF : ∀ j : Nat, j ≠ 2 ∧ j ≠ 5 → E j = E0 j := fun _ _ => by rw [hE0]
  obtain ⟨htl, hbb⟩ := id htb
  have lp0 : ∀ (m : Nat) (t : Int) (E : Nat → va_E) (ht : i ≤ t ∧ t ≤ tl) (hsc : sc (fun j => tb j = 32) tl t = tkA tb tl i) (hK : E 2 = .inr (7, [.ref (ad 3), .ref (ad 5), .int (jI k0), .int (jI f0), .int (jI t), .int (jI v0)])) (hT : E 3 = .inr (5, [.ref (ad 4), .int (jI tl)])) (hY : E 4 = aI Γ 160 tb) (hB : E 5 = .inr (0, [.int (jI b0), .int (jI b1), .int (jI b2), .int (jI b3), .int (jI b4)])) (hF : ∀ j : Nat, j ≠ 2 ∧ j ≠ 5 → E j = E0 j) (hm : tl - t + 1 ≤ (m : Int)), J l Γ Ω 2 ad 95 0 0 E 0 [some (.ref (ad 2)), none] [] := by
    intro m
    induction m with
    | zero => intro t E ht hsc hK hT hY hB hF hm; exfalso; omega
    | succ m ih0 =>
      intro t E ht hsc hK hT hY hB hF hm
      refine J_aload_n (q := 1) X dX8_advance_0 rfl rfl ?_
      refine J_get (q := 4) X dX8_advance_1 fX8_23 hK (by omega) rfl rfl ?_
      refine J_aload_n (q := 5) X dX8_advance_4 rfl rfl ?_
      refine J_get (q := 8) X dX8_advance_5 fX8_10 hK (by omega) rfl rfl ?_
      refine J_get (q := 11) X dX8_advance_8 fX8_27 hT (by omega) rfl rfl ?_
      refine J_icmp_ge (q := 14) (tgt := 44) X dX8_advance_11 (by decide) rfl (by omega) (by omega) (fun cq11 => ?_) (fun cq11 => ?_)
      · rw [sc_stop (P := (fun j => tb j = 32)) (by first | omega | exact fun z => cq28 z.2)] at hsc
        refine J_aload_n (q := 45) X dX8_advance_44 rfl rfl ?_
        refine J_aload_n (q := 46) X dX8_advance_45 rfl rfl ?_
        refine J_get (q := 49) X dX8_advance_46 fX8_23 hK (by omega) rfl rfl ?_
        refine J_put (q := 52) (ty := .int) X dX8_advance_49 fX8_34 rfl (by decide +kernel) rfl rfl hK (by omega) (Nat.le_of_ble_eq_true rfl) rfl (fun Ew49 hkq49 hsq49 => ?_)
        replace hK : Ew49 2 = .inr (7, [.ref (ad 3), .ref (ad 5), .int (jI _), .int (jI _), .int (jI _), .int (jI _)]) := hkq49
        replace hT := (hsq49 3 (by omega)).trans hT
        replace hY := (hsq49 4 (by omega)).trans hY
        replace hB := (hsq49 5 (by omega)).trans hB
        replace hF : ∀ j : Nat, j ≠ 2 ∧ j ≠ 5 → Ew49 j = E0 j := fun j hj => (hsq49 j (by omega)).trans (hF j hj)
        refine J_aload_n (q := 53) X dX8_advance_52 rfl rfl ?_
        refine J_get (q := 56) X dX8_advance_53 fX8_34 hK (by omega) rfl rfl ?_
        refine J_aload_n (q := 57) X dX8_advance_56 rfl rfl ?_
        refine J_get (q := 60) X dX8_advance_57 fX8_10 hK (by omega) rfl rfl ?_
        refine J_get (q := 63) X dX8_advance_60 fX8_27 hT (by omega) rfl rfl ?_
        refine J_icmp_lt (q := 66) (tgt := 73) X dX8_advance_63 (by decide) rfl (by omega) (by omega) (fun cq63 => ?_) (fun cq63 => ?_)
        · have hbt := hbb t (by omega) (by omega)
          refine J_aload_n (q := 74) X dX8_advance_73 rfl rfl ?_
          refine J_get (q := 77) X dX8_advance_74 fX8_10 hK (by omega) rfl rfl ?_
          refine J_get (q := 80) X dX8_advance_77 fX8_30 hT (by omega) rfl rfl ?_
          refine J_aload_n (q := 81) X dX8_advance_80 rfl rfl ?_
          refine J_get (q := 84) X dX8_advance_81 fX8_34 hK (by omega) rfl rfl ?_
          refine J_iald (q := 85) X dX8_advance_84 hY (by omega) (by omega) (by decide) rfl ?_
          refine J_istore_n (q := 86) X dX8_advance_85 (by decide) rfl rfl ?_
          refine J_iload_n (q := 87) X dX8_advance_86 rfl rfl ?_
          refine J_callP (q := 90) (jrS X mX8_40 dX8_advance_87 (c_X5_isLetter (by omega)) rfl rfl (Nat.le_of_ble_eq_true rfl) (by decide)) rfl ?_
          refine J_if_eqB (q := 93) (tgt := 98) X dX8_advance_90 (by decide) rfl (fun cq90 => ?_) (fun cq90 => ?_)
          · refine J_iload_n (q := 99) X dX8_advance_98 rfl rfl ?_
            refine J_callP (q := 102) (jrS X mX8_50 dX8_advance_99 (c_X8_isFigure (by omega)) rfl rfl (Nat.le_of_ble_eq_true rfl) (by decide)) rfl ?_
            refine J_if_eqB (q := 105) (tgt := 110) X dX8_advance_102 (by decide) rfl (fun cq102 => ?_) (fun cq102 => ?_)
            · refine J_iload_n (q := 111) X dX8_advance_110 rfl rfl ?_
              refine J_bipush (q := 113) X dX8_advance_111 rfl (by decide) ?_
              refine J_icmp_ne (q := 116) (tgt := 121) X dX8_advance_113 (by decide) rfl (by omega) (by omega) (fun cq113 => ?_) (fun cq113 => ?_)
              · refine J_aload_n (q := 122) X dX8_advance_121 rfl rfl ?_
                refine J_iload_n (q := 123) X dX8_advance_122 rfl rfl ?_
                refine J_callI (q := 126) (jrV X mX8_59 dX8_advance_123 (c_X8_passSemicolon hK hT hY hB htb (by omega) (by omega)) hK (by omega) rfl rfl rfl rfl (Nat.le_of_ble_eq_true rfl) (by decide)) rfl (fun zq123 Ew123 hpq123 => ?_)
                obtain ⟨hzq123, kK, kB, hsq123⟩ := hpq123
                replace hK := kK
                replace hB := kB
                replace hT := (hsq123 3 (by omega)).trans hT
                replace hY := (hsq123 4 (by omega)).trans hY
                replace hF : ∀ j : Nat, j ≠ 2 ∧ j ≠ 5 → Ew123 j = E0 j := fun j hj => (hsq123 j (by omega)).trans (hF j hj)
                refine J_zret X R dX8_advance_126 (nrw_z (by rw [hzq123]; exact bI_bd _)) ?_
                rw [hE0] at hF
                have hkk : tkK tb tl t = 3 := by unfold tkK; rw [if_neg (by omega), if_neg cq90, if_neg cq102, if_neg cq113]
                have hff : tkF tb tl t = if tb t = 59 then 0 else 1 := by unfold tkF; rw [hkk, if_neg (by omega), if_neg (by omega), if_pos rfl]
                have hbt : tkB tb tl t = t + 1 := by unfold tkB; rw [hkk]; rfl
                have hpp : tkP tb tl t = t := by unfold tkP; rw [hkk]; rfl
                refine ⟨zq123, rfl, t, _, v0, hsc, fun z => ⟨hbt.symm, fun z2 => by omega⟩, ?_, by rw [hkk]; exact hK, ?_, hF⟩
                · rw [hzq123]; refine bI_iff ?_; rw [hff]; split <;> omega
                · rw [hB, hkk, hpp]
                  by_cases hc : tb t = 59
                  · rw [if_pos hc, if_pos (by rw [hff, if_pos hc])]
                  · have hf1 : tkF tb tl t = 1 := by rw [hff, if_neg hc]
                    rw [if_neg hc, hf1, if_neg (by decide), if_neg (by decide)]
              · refine J_aload_n (q := 117) X dX8_advance_116 rfl rfl ?_
                refine J_callI (q := 120) (jrV X mX8_56 dX8_advance_117 (c_X8_passQuote hK hT hY hB htb (by omega)) hK (by omega) rfl rfl rfl rfl (Nat.le_of_ble_eq_true rfl) (by decide)) rfl (fun zq117 Ew117 hpq117 => ?_)
                obtain ⟨tq117, htqq117, hzq117, kK, kB, hsq117⟩ := hpq117
                replace hK := kK
                replace hB := kB
                replace hT := (hsq117 3 (by omega)).trans hT
                replace hY := (hsq117 4 (by omega)).trans hY
                replace hF : ∀ j : Nat, j ≠ 2 ∧ j ≠ 5 → Ew117 j = E0 j := fun j hj => (hsq117 j (by omega)).trans (hF j hj)
                refine J_zret X R dX8_advance_120 (nrw_z (by rw [hzq117]; exact bI_bd _)) ?_
                rw [hE0] at hF
                have hkk : tkK tb tl t = 4 := by unfold tkK; rw [if_neg (by omega), if_neg cq90, if_neg cq102, if_pos cq113]
                have hff : tkF tb tl t = if tkQ tb tl t < tl then (if tb (tkQ tb tl t) = 34 then 0 else 1) else 2 := by unfold tkF; rw [hkk, if_neg (by omega), if_pos rfl]
                have hbt : tkB tb tl t = tkQ tb tl t + 1 := by unfold tkB; rw [hkk]; rfl
                have hpp : tkP tb tl t = tkQ tb tl t := by unfold tkP; rw [hkk]; rfl
                have hok : (tkF tb tl t = 0) ↔ (tkQ tb tl t < tl ∧ tb (tkQ tb tl t) = 34) := by rw [hff]; split <;> (try split) <;> omega
                refine ⟨zq117, rfl, t, tq117, v0, hsc, fun z => ⟨by rw [hbt]; exact htqq117 (hok.mp z), fun z2 => by omega⟩, ?_, by rw [hkk]; exact hK, ?_, hF⟩
                · rw [hzq117]; exact bI_iff hok.symm
                · rw [hB, hkk, hpp]
                  by_cases hc : tkQ tb tl t < tl ∧ tb (tkQ tb tl t) = 34
                  · rw [if_pos hc, if_pos (hok.mpr hc)]
                  · rw [if_neg hc, if_neg (fun z => hc (hok.mp z)), if_pos rfl]
                    have he : tkF tb tl t = if tkQ tb tl t < tl then 1 else 2 := by
                      rw [hff]; by_cases h1 : tkQ tb tl t < tl
                      · rw [if_pos h1, if_pos h1, if_neg (fun z => hc ⟨h1, z⟩)]
                      · rw [if_neg h1, if_neg h1]
                    rw [he]
            · refine J_aload_n (q := 106) X dX8_advance_105 rfl rfl ?_
              refine J_callI (q := 109) (jrV X mX8_53 dX8_advance_106 (c_X8_passNumber hK hT hY hB htb (by omega)) hK (by omega) rfl rfl rfl rfl (Nat.le_of_ble_eq_true rfl) (by decide)) rfl (fun zq106 Ew106 hpq106 => ?_)
              obtain ⟨vq106, hvq106, hzq106, kK, kB, hsq106⟩ := hpq106
              replace hK := kK
              replace hB := kB
              replace hT := (hsq106 3 (by omega)).trans hT
              replace hY := (hsq106 4 (by omega)).trans hY
              replace hF : ∀ j : Nat, j ≠ 2 ∧ j ≠ 5 → Ew106 j = E0 j := fun j hj => (hsq106 j (by omega)).trans (hF j hj)
              refine J_zret X R dX8_advance_109 (nrw_z (by rw [hzq106]; exact bI_bd _)) ?_
              rw [hE0] at hF
              have hkk : tkK tb tl t = 2 := by unfold tkK; rw [if_neg (by omega), if_neg cq90, if_pos cq102]
              have hff : tkF tb tl t = if 2 < tkN tb tl t - t then 1 else 0 := by unfold tkF; rw [hkk, if_pos rfl]
              have hbt : tkB tb tl t = tkN tb tl t := by unfold tkB; rw [hkk]; rfl
              have hpp : tkP tb tl t = t := by unfold tkP; rw [hkk]; rfl
              refine ⟨zq106, rfl, t, _, vq106, hsc, fun z => ⟨hbt.symm, fun _ => ?_⟩, ?_, by rw [hkk]; exact hK, ?_, hF⟩
              · rw [hbt]; refine hvq106 ?_; rw [hff] at z; split at z <;> omega
              · rw [hzq106]; refine bI_iff ?_; rw [hff]; split <;> omega
              · rw [hB, hkk, hpp]
                by_cases hc : tkN tb tl t - t ≤ 2
                · rw [if_pos hc, if_pos (by rw [hff, if_neg (by omega)])]
                · have hf1 : tkF tb tl t = 1 := by rw [hff, if_pos (by omega)]
                  rw [if_neg hc, hf1, if_neg (by decide), if_neg (by decide)]
          · refine J_aload_n (q := 94) X dX8_advance_93 rfl rfl ?_
            refine J_callI (q := 97) (jrV X mX8_46 dX8_advance_94 (c_X8_passName hK hT hY hB htb (by omega)) hK (by omega) rfl rfl rfl rfl (Nat.le_of_ble_eq_true rfl) (by decide)) rfl (fun zq94 Ew94 hpq94 => ?_)
            obtain ⟨hzq94, kK, kB, hsq94⟩ := hpq94
            replace hK := kK
            replace hB := kB
            replace hT := (hsq94 3 (by omega)).trans hT
            replace hY := (hsq94 4 (by omega)).trans hY
            replace hF : ∀ j : Nat, j ≠ 2 ∧ j ≠ 5 → Ew94 j = E0 j := fun j hj => (hsq94 j (by omega)).trans (hF j hj)
            refine J_zret X R dX8_advance_97 (nrw_z (by omega)) ?_
            rw [hE0] at hF
            have hkk : tkK tb tl t = 1 := by unfold tkK; rw [if_neg (by omega), if_pos cq90]
            have hff : tkF tb tl t = 0 := by unfold tkF; rw [hkk]; rfl
            have hbt : tkB tb tl t = tkL tb tl t := by unfold tkB; rw [hkk]; rfl
            refine ⟨zq94, rfl, t, _, v0, hsc, fun _ => ⟨hbt.symm, fun z => by omega⟩, by rw [bI_t hff]; exact hzq94, by rw [hkk]; exact hK, by rw [if_pos hff]; exact hB, hF⟩
        · refine J_aload_n (q := 67) X dX8_advance_66 rfl rfl ?_
          refine J_iconst (q := 68) X dX8_advance_67 rfl ?_
          refine J_put (q := 71) (ty := .int) X dX8_advance_68 fX8_37 rfl (by decide +kernel) rfl rfl hK (by omega) (Nat.le_of_ble_eq_true rfl) rfl (fun Ew68 hkq68 hsq68 => ?_)
          replace hK : Ew68 2 = .inr (7, [.ref (ad 3), .ref (ad 5), .int (jI _), .int (jI _), .int (jI _), .int (jI _)]) := hkq68
          replace hT := (hsq68 3 (by omega)).trans hT
          replace hY := (hsq68 4 (by omega)).trans hY
          replace hB := (hsq68 5 (by omega)).trans hB
          replace hF : ∀ j : Nat, j ≠ 2 ∧ j ≠ 5 → Ew68 j = E0 j := fun j hj => (hsq68 j (by omega)).trans (hF j hj)
          refine J_iconst (q := 72) X dX8_advance_71 rfl ?_
          refine J_zret X R dX8_advance_72 (nrw_z (by first | omega | exact bI_bd _)) ?_
          rw [hE0] at hF
          have hkk : tkK tb tl t = 0 := by unfold tkK; rw [if_pos (by omega)]
          have hff : tkF tb tl t = 0 := by unfold tkF; rw [hkk]; rfl
          have hbt : tkB tb tl t = t := by unfold tkB; rw [hkk]; rfl
          refine ⟨1, rfl, t, t, v0, hsc, fun _ => ⟨hbt.symm, fun z => by omega⟩, by rw [bI_t hff], by rw [hkk]; exact hK, by rw [if_pos hff]; exact hB, hF⟩
      · refine J_aload_n (q := 15) X dX8_advance_14 rfl rfl ?_
        refine J_get (q := 18) X dX8_advance_15 fX8_10 hK (by omega) rfl rfl ?_
        refine J_get (q := 21) X dX8_advance_18 fX8_30 hT (by omega) rfl rfl ?_
        refine J_aload_n (q := 22) X dX8_advance_21 rfl rfl ?_
        refine J_get (q := 25) X dX8_advance_22 fX8_23 hK (by omega) rfl rfl ?_
        refine J_iald (q := 26) X dX8_advance_25 hY (by omega) (by omega) (by decide) rfl ?_
        refine J_bipush (q := 28) X dX8_advance_26 rfl (by decide) ?_
        refine J_icmp_ne (q := 31) (tgt := 44) X dX8_advance_28 (by decide) rfl (by have := hbb t (by omega) (by omega); omega) (by omega) (fun cq28 => ?_) (fun cq28 => ?_)
        · rw [sc_stop (P := (fun j => tb j = 32)) (by first | omega | exact fun z => cq28 z.2)] at hsc
          refine J_aload_n (q := 45) X dX8_advance_44 rfl rfl ?_
          refine J_aload_n (q := 46) X dX8_advance_45 rfl rfl ?_
          refine J_get (q := 49) X dX8_advance_46 fX8_23 hK (by omega) rfl rfl ?_
          refine J_put (q := 52) (ty := .int) X dX8_advance_49 fX8_34 rfl (by decide +kernel) rfl rfl hK (by omega) (Nat.le_of_ble_eq_true rfl) rfl (fun Ew49 hkq49 hsq49 => ?_)
          replace hK : Ew49 2 = .inr (7, [.ref (ad 3), .ref (ad 5), .int (jI _), .int (jI _), .int (jI _), .int (jI _)]) := hkq49
          replace hT := (hsq49 3 (by omega)).trans hT
          replace hY := (hsq49 4 (by omega)).trans hY
          replace hB := (hsq49 5 (by omega)).trans hB
          replace hF : ∀ j : Nat, j ≠ 2 ∧ j ≠ 5 → Ew49 j = E0 j := fun j hj => (hsq49 j (by omega)).trans (hF j hj)
          refine J_aload_n (q := 53) X dX8_advance_52 rfl rfl ?_
          refine J_get (q := 56) X dX8_advance_53 fX8_34 hK (by omega) rfl rfl ?_
          refine J_aload_n (q := 57) X dX8_advance_56 rfl rfl ?_
          refine J_get (q := 60) X dX8_advance_57 fX8_10 hK (by omega) rfl rfl ?_
          refine J_get (q := 63) X dX8_advance_60 fX8_27 hT (by omega) rfl rfl ?_
          refine J_icmp_lt (q := 66) (tgt := 73) X dX8_advance_63 (by decide) rfl (by omega) (by omega) (fun cq63 => ?_) (fun cq63 => ?_)
          · have hbt := hbb t (by omega) (by omega)
            refine J_aload_n (q := 74) X dX8_advance_73 rfl rfl ?_
            refine J_get (q := 77) X dX8_advance_74 fX8_10 hK (by omega) rfl rfl ?_
            refine J_get (q := 80) X dX8_advance_77 fX8_30 hT (by omega) rfl rfl ?_
            refine J_aload_n (q := 81) X dX8_advance_80 rfl rfl ?_
            refine J_get (q := 84) X dX8_advance_81 fX8_34 hK (by omega) rfl rfl ?_
            refine J_iald (q := 85) X dX8_advance_84 hY (by omega) (by omega) (by decide) rfl ?_
            refine J_istore_n (q := 86) X dX8_advance_85 (by decide) rfl rfl ?_
            refine J_iload_n (q := 87) X dX8_advance_86 rfl rfl ?_
            refine J_callP (q := 90) (jrS X mX8_40 dX8_advance_87 (c_X5_isLetter (by omega)) rfl rfl (Nat.le_of_ble_eq_true rfl) (by decide)) rfl ?_
            refine J_if_eqB (q := 93) (tgt := 98) X dX8_advance_90 (by decide) rfl (fun cq90 => ?_) (fun cq90 => ?_)
            · refine J_iload_n (q := 99) X dX8_advance_98 rfl rfl ?_
              refine J_callP (q := 102) (jrS X mX8_50 dX8_advance_99 (c_X8_isFigure (by omega)) rfl rfl (Nat.le_of_ble_eq_true rfl) (by decide)) rfl ?_
              refine J_if_eqB (q := 105) (tgt := 110) X dX8_advance_102 (by decide) rfl (fun cq102 => ?_) (fun cq102 => ?_)
              · refine J_iload_n (q := 111) X dX8_advance_110 rfl rfl ?_
                refine J_bipush (q := 113) X dX8_advance_111 rfl (by decide) ?_
                refine J_icmp_ne (q := 116) (tgt := 121) X dX8_advance_113 (by decide) rfl (by omega) (by omega) (fun cq113 => ?_) (fun cq113 => ?_)
                · refine J_aload_n (q := 122) X dX8_advance_121 rfl rfl ?_
                  refine J_iload_n (q := 123) X dX8_advance_122 rfl rfl ?_
                  refine J_callI (q := 126) (jrV X mX8_59 dX8_advance_123 (c_X8_passSemicolon hK hT hY hB htb (by omega) (by omega)) hK (by omega) rfl rfl rfl rfl (Nat.le_of_ble_eq_true rfl) (by decide)) rfl (fun zq123 Ew123 hpq123 => ?_)
                  obtain ⟨hzq123, kK, kB, hsq123⟩ := hpq123
                  replace hK := kK
                  replace hB := kB
                  replace hT := (hsq123 3 (by omega)).trans hT
                  replace hY := (hsq123 4 (by omega)).trans hY
                  replace hF : ∀ j : Nat, j ≠ 2 ∧ j ≠ 5 → Ew123 j = E0 j := fun j hj => (hsq123 j (by omega)).trans (hF j hj)
                  refine J_zret X R dX8_advance_126 (nrw_z (by rw [hzq123]; exact bI_bd _)) ?_
                  rw [hE0] at hF
                  have hkk : tkK tb tl t = 3 := by unfold tkK; rw [if_neg (by omega), if_neg cq90, if_neg cq102, if_neg cq113]
                  have hff : tkF tb tl t = if tb t = 59 then 0 else 1 := by unfold tkF; rw [hkk, if_neg (by omega), if_neg (by omega), if_pos rfl]
                  have hbt : tkB tb tl t = t + 1 := by unfold tkB; rw [hkk]; rfl
                  have hpp : tkP tb tl t = t := by unfold tkP; rw [hkk]; rfl
                  refine ⟨zq123, rfl, t, _, v0, hsc, fun z => ⟨hbt.symm, fun z2 => by omega⟩, ?_, by rw [hkk]; exact hK, ?_, hF⟩
                  · rw [hzq123]; refine bI_iff ?_; rw [hff]; split <;> omega
                  · rw [hB, hkk, hpp]
                    by_cases hc : tb t = 59
                    · rw [if_pos hc, if_pos (by rw [hff, if_pos hc])]
                    · have hf1 : tkF tb tl t = 1 := by rw [hff, if_neg hc]
                      rw [if_neg hc, hf1, if_neg (by decide), if_neg (by decide)]
                · refine J_aload_n (q := 117) X dX8_advance_116 rfl rfl ?_
                  refine J_callI (q := 120) (jrV X mX8_56 dX8_advance_117 (c_X8_passQuote hK hT hY hB htb (by omega)) hK (by omega) rfl rfl rfl rfl (Nat.le_of_ble_eq_true rfl) (by decide)) rfl (fun zq117 Ew117 hpq117 => ?_)
                  obtain ⟨tq117, htqq117, hzq117, kK, kB, hsq117⟩ := hpq117
                  replace hK := kK
                  replace hB := kB
                  replace hT := (hsq117 3 (by omega)).trans hT
                  replace hY := (hsq117 4 (by omega)).trans hY
                  replace hF : ∀ j : Nat, j ≠ 2 ∧ j ≠ 5 → Ew117 j = E0 j := fun j hj => (hsq117 j (by omega)).trans (hF j hj)
                  refine J_zret X R dX8_advance_120 (nrw_z (by rw [hzq117]; exact bI_bd _)) ?_
                  rw [hE0] at hF
                  have hkk : tkK tb tl t = 4 := by unfold tkK; rw [if_neg (by omega), if_neg cq90, if_neg cq102, if_pos cq113]
                  have hff : tkF tb tl t = if tkQ tb tl t < tl then (if tb (tkQ tb tl t) = 34 then 0 else 1) else 2 := by unfold tkF; rw [hkk, if_neg (by omega), if_pos rfl]
                  have hbt : tkB tb tl t = tkQ tb tl t + 1 := by unfold tkB; rw [hkk]; rfl
                  have hpp : tkP tb tl t = tkQ tb tl t := by unfold tkP; rw [hkk]; rfl
                  have hok : (tkF tb tl t = 0) ↔ (tkQ tb tl t < tl ∧ tb (tkQ tb tl t) = 34) := by rw [hff]; split <;> (try split) <;> omega
                  refine ⟨zq117, rfl, t, tq117, v0, hsc, fun z => ⟨by rw [hbt]; exact htqq117 (hok.mp z), fun z2 => by omega⟩, ?_, by rw [hkk]; exact hK, ?_, hF⟩
                  · rw [hzq117]; exact bI_iff hok.symm
                  · rw [hB, hkk, hpp]
                    by_cases hc : tkQ tb tl t < tl ∧ tb (tkQ tb tl t) = 34
                    · rw [if_pos hc, if_pos (hok.mpr hc)]
                    · rw [if_neg hc, if_neg (fun z => hc (hok.mp z)), if_pos rfl]
                      have he : tkF tb tl t = if tkQ tb tl t < tl then 1 else 2 := by
                        rw [hff]; by_cases h1 : tkQ tb tl t < tl
                        · rw [if_pos h1, if_pos h1, if_neg (fun z => hc ⟨h1, z⟩)]
                        · rw [if_neg h1, if_neg h1]
                      rw [he]
              · refine J_aload_n (q := 106) X dX8_advance_105 rfl rfl ?_
                refine J_callI (q := 109) (jrV X mX8_53 dX8_advance_106 (c_X8_passNumber hK hT hY hB htb (by omega)) hK (by omega) rfl rfl rfl rfl (Nat.le_of_ble_eq_true rfl) (by decide)) rfl (fun zq106 Ew106 hpq106 => ?_)
                obtain ⟨vq106, hvq106, hzq106, kK, kB, hsq106⟩ := hpq106
                replace hK := kK
                replace hB := kB
                replace hT := (hsq106 3 (by omega)).trans hT
                replace hY := (hsq106 4 (by omega)).trans hY
                replace hF : ∀ j : Nat, j ≠ 2 ∧ j ≠ 5 → Ew106 j = E0 j := fun j hj => (hsq106 j (by omega)).trans (hF j hj)
                refine J_zret X R dX8_advance_109 (nrw_z (by rw [hzq106]; exact bI_bd _)) ?_
                rw [hE0] at hF
                have hkk : tkK tb tl t = 2 := by unfold tkK; rw [if_neg (by omega), if_neg cq90, if_pos cq102]
                have hff : tkF tb tl t = if 2 < tkN tb tl t - t then 1 else 0 := by unfold tkF; rw [hkk, if_pos rfl]
                have hbt : tkB tb tl t = tkN tb tl t := by unfold tkB; rw [hkk]; rfl
                have hpp : tkP tb tl t = t := by unfold tkP; rw [hkk]; rfl
                refine ⟨zq106, rfl, t, _, vq106, hsc, fun z => ⟨hbt.symm, fun _ => ?_⟩, ?_, by rw [hkk]; exact hK, ?_, hF⟩
                · rw [hbt]; refine hvq106 ?_; rw [hff] at z; split at z <;> omega
                · rw [hzq106]; refine bI_iff ?_; rw [hff]; split <;> omega
                · rw [hB, hkk, hpp]
                  by_cases hc : tkN tb tl t - t ≤ 2
                  · rw [if_pos hc, if_pos (by rw [hff, if_neg (by omega)])]
                  · have hf1 : tkF tb tl t = 1 := by rw [hff, if_pos (by omega)]
                    rw [if_neg hc, hf1, if_neg (by decide), if_neg (by decide)]
            · refine J_aload_n (q := 94) X dX8_advance_93 rfl rfl ?_
              refine J_callI (q := 97) (jrV X mX8_46 dX8_advance_94 (c_X8_passName hK hT hY hB htb (by omega)) hK (by omega) rfl rfl rfl rfl (Nat.le_of_ble_eq_true rfl) (by decide)) rfl (fun zq94 Ew94 hpq94 => ?_)
              obtain ⟨hzq94, kK, kB, hsq94⟩ := hpq94
              replace hK := kK
              replace hB := kB
              replace hT := (hsq94 3 (by omega)).trans hT
              replace hY := (hsq94 4 (by omega)).trans hY
              replace hF : ∀ j : Nat, j ≠ 2 ∧ j ≠ 5 → Ew94 j = E0 j := fun j hj => (hsq94 j (by omega)).trans (hF j hj)
              refine J_zret X R dX8_advance_97 (nrw_z (by omega)) ?_
              rw [hE0] at hF
              have hkk : tkK tb tl t = 1 := by unfold tkK; rw [if_neg (by omega), if_pos cq90]
              have hff : tkF tb tl t = 0 := by unfold tkF; rw [hkk]; rfl
              have hbt : tkB tb tl t = tkL tb tl t := by unfold tkB; rw [hkk]; rfl
              refine ⟨zq94, rfl, t, _, v0, hsc, fun _ => ⟨hbt.symm, fun z => by omega⟩, by rw [bI_t hff]; exact hzq94, by rw [hkk]; exact hK, by rw [if_pos hff]; exact hB, hF⟩
          · refine J_aload_n (q := 67) X dX8_advance_66 rfl rfl ?_
            refine J_iconst (q := 68) X dX8_advance_67 rfl ?_
            refine J_put (q := 71) (ty := .int) X dX8_advance_68 fX8_37 rfl (by decide +kernel) rfl rfl hK (by omega) (Nat.le_of_ble_eq_true rfl) rfl (fun Ew68 hkq68 hsq68 => ?_)
            replace hK : Ew68 2 = .inr (7, [.ref (ad 3), .ref (ad 5), .int (jI _), .int (jI _), .int (jI _), .int (jI _)]) := hkq68
            replace hT := (hsq68 3 (by omega)).trans hT
            replace hY := (hsq68 4 (by omega)).trans hY
            replace hB := (hsq68 5 (by omega)).trans hB
            replace hF : ∀ j : Nat, j ≠ 2 ∧ j ≠ 5 → Ew68 j = E0 j := fun j hj => (hsq68 j (by omega)).trans (hF j hj)
            refine J_iconst (q := 72) X dX8_advance_71 rfl ?_
            refine J_zret X R dX8_advance_72 (nrw_z (by first | omega | exact bI_bd _)) ?_
            rw [hE0] at hF
            have hkk : tkK tb tl t = 0 := by unfold tkK; rw [if_pos (by omega)]
            have hff : tkF tb tl t = 0 := by unfold tkF; rw [hkk]; rfl
            have hbt : tkB tb tl t = t := by unfold tkB; rw [hkk]; rfl
            refine ⟨1, rfl, t, t, v0, hsc, fun _ => ⟨hbt.symm, fun z => by omega⟩, by rw [bI_t hff], by rw [hkk]; exact hK, by rw [if_pos hff]; exact hB, hF⟩
        · refine J_aload_n (q := 32) X dX8_advance_31 rfl rfl ?_
          refine J_dup (q := 33) X dX8_advance_32 rfl rfl ?_
          refine J_get (q := 36) X dX8_advance_33 fX8_23 hK (by omega) rfl rfl ?_
          refine J_iconst (q := 37) X dX8_advance_36 rfl ?_
          refine J_iadd (q := 38) X dX8_advance_37 rfl ?_
          refine J_put (q := 41) (ty := .int) X dX8_advance_38 fX8_23 rfl (by decide +kernel) rfl rfl hK (by omega) (Nat.le_of_ble_eq_true rfl) rfl (fun Ew38 hkq38 hsq38 => ?_)
          replace hK : Ew38 2 = .inr (7, [.ref (ad 3), .ref (ad 5), .int (jI _), .int (jI _), .int (jI _), .int (jI _)]) := hkq38
          replace hT := (hsq38 3 (by omega)).trans hT
          replace hY := (hsq38 4 (by omega)).trans hY
          replace hB := (hsq38 5 (by omega)).trans hB
          replace hF : ∀ j : Nat, j ≠ 2 ∧ j ≠ 5 → Ew38 j = E0 j := fun j hj => (hsq38 j (by omega)).trans (hF j hj)
          refine J_goto (q := 0) X dX8_advance_41 (by decide) ?_
          exact ih0 _ _ (by omega) (by rw [sc_go (P := (fun j => tb j = 32)) (by omega) cq28]; exact hsc) hK hT hY hB hF (by omega)
  exact lp0 300 _ _ (by omega) rfl hK hT hY hB hF (by omega)

set_option maxRecDepth 100000 in
set_option maxHeartbeats 4000000 in
theorem c_X8_isName {l : Launch} {Γ : JG} {ad : Nat → Nat} {E : Nat → va_E} {k0 a b v0 : Int} {tl : Int} {tb : Int → Int} {w : Nat} (hK : E 2 = .inr (7, [.ref (ad 3), .ref (ad 5), .int (jI k0), .int (jI a), .int (jI b), .int (jI v0)])) (hT : E 3 = .inr (5, [.ref (ad 4), .int (jI tl)])) (hY : E 4 = aI Γ 160 tb) (htb : TB tl tb) (hw : w < 3) (hab : 0 ≤ a ∧ a ≤ b ∧ b ≤ tl) (hk0 : 0 ≤ k0 ∧ k0 ≤ 4) : JM l Γ yX8_isName cX8_isName 3 (some .boolean) 5 106 0 0 ad 95 E [.ref (ad 2), .ref (Γ.2.2.2.2.1 w)] (pP (bI (k0 = 1 ∧ nmw tb a b w)) E) := by
  refine JM_intro (own := RX8) [some (.ref (ad 2)), some (.ref (Γ.2.2.2.2.1 w)), none] rfl rfl rfl (Nat.le_of_ble_eq_true rfl) ?_
  intro Ω X R hin
  obtain ⟨htl, hbb⟩ := id htb
  have hlw := jln_bd w hw
  have hcb : ∀ j, 0 ≤ jch w j ∧ jch w j ≤ 127 := jch_bd w hw
  refine J_aload_n (q := 1) X dX8_isName_0 rfl rfl ?_
  refine J_get (q := 4) X dX8_isName_1 fX8_37 hK (by omega) rfl rfl ?_
  refine J_iconst (q := 5) X dX8_isName_4 rfl ?_
  refine J_icmp_ne (q := 8) (tgt := 24) X dX8_isName_5 (by decide) rfl (by omega) (by omega) (fun cq5 => ?_) (fun cq5 => ?_)
  · refine J_iconst (q := 25) X dX8_isName_24 rfl ?_
    refine J_zret X R dX8_isName_25 (nrw_z (by first | omega | exact bI_bd _)) ?_
    exact ⟨by rw [bI_f (fun z => by have z1 := z.1; have z2 := z.2.1; omega)], rfl⟩
  · refine J_aload_n (q := 9) X dX8_isName_8 rfl rfl ?_
    refine J_get (q := 12) X dX8_isName_9 fX8_23 hK (by omega) rfl rfl ?_
    refine J_aload_n (q := 13) X dX8_isName_12 rfl rfl ?_
    refine J_get (q := 16) X dX8_isName_13 fX8_34 hK (by omega) rfl rfl ?_
    refine J_isub (q := 17) X dX8_isName_16 rfl ?_
    refine J_aload_n (q := 18) X dX8_isName_17 rfl rfl ?_
    refine J_callP (q := 21) (jrVs X hw mX8_76 dX8_isName_18 (c_J0_length_8abf5 hw) rfl rfl rfl (Nat.le_of_ble_eq_true rfl) (by decide)) rfl ?_
    refine J_icmp_eq (q := 24) (tgt := 26) X dX8_isName_21 (by decide) rfl (by omega) (by omega) (fun cq21 => ?_) (fun cq21 => ?_)
    · refine J_iconst (q := 27) X dX8_isName_26 rfl ?_
      refine J_istore_n (q := 28) X dX8_isName_27 (by decide) rfl rfl ?_
      have lp28 : ∀ (m : Nat) (t : Int) (ht : 0 ≤ t ∧ t ≤ jln w) (hsc : sc (fun j => tb (a + j) = jch w j) (jln w) t = sc (fun j => tb (a + j) = jch w j) (jln w) 0) (hm : jln w - t + 1 ≤ (m : Int)), J l Γ Ω 3 ad 95 0 0 E 28 [some (.ref (ad 2)), some (.ref (Γ.2.2.2.2.1 w)), some (.int (jI t))] [] := by
        intro m
        induction m with
        | zero => intro t ht hsc hm; exfalso; omega
        | succ m ih28 =>
          intro t ht hsc hm
          refine J_iload_n (q := 29) X dX8_isName_28 rfl rfl ?_
          refine J_aload_n (q := 30) X dX8_isName_29 rfl rfl ?_
          refine J_callP (q := 33) (jrVs X hw mX8_76 dX8_isName_30 (c_J0_length_8abf5 hw) rfl rfl rfl (Nat.le_of_ble_eq_true rfl) (by decide)) rfl ?_
          refine J_icmp_ge (q := 36) (tgt := 66) X dX8_isName_33 (by decide) rfl (by omega) (by omega) (fun cq33 => ?_) (fun cq33 => ?_)
          · refine J_iconst (q := 67) X dX8_isName_66 rfl ?_
            refine J_zret X R dX8_isName_67 (nrw_z (by first | omega | exact bI_bd _)) ?_
            rw [sc_stop (P := (fun j => tb (a + j) = jch w j)) (by omega)] at hsc
            exact ⟨by rw [bI_t ⟨by omega, by omega, by omega⟩], rfl⟩
          · refine J_aload_n (q := 37) X dX8_isName_36 rfl rfl ?_
            refine J_get (q := 40) X dX8_isName_37 fX8_10 hK (by omega) rfl rfl ?_
            refine J_get (q := 43) X dX8_isName_40 fX8_30 hT (by omega) rfl rfl ?_
            refine J_aload_n (q := 44) X dX8_isName_43 rfl rfl ?_
            refine J_get (q := 47) X dX8_isName_44 fX8_34 hK (by omega) rfl rfl ?_
            refine J_iload_n (q := 48) X dX8_isName_47 rfl rfl ?_
            refine J_iadd (q := 49) X dX8_isName_48 rfl ?_
            refine J_iald (q := 50) X dX8_isName_49 hY (by omega) (by omega) (by decide) rfl ?_
            refine J_aload_n (q := 51) X dX8_isName_50 rfl rfl ?_
            refine J_iload_n (q := 52) X dX8_isName_51 rfl rfl ?_
            refine J_callP (q := 55) (jrVs X hw mX8_81 dX8_isName_52 (c_J0_charAt_5068e hw (by omega)) rfl rfl rfl (Nat.le_of_ble_eq_true rfl) (by decide)) rfl ?_
            refine J_icmp_eq (q := 58) (tgt := 60) X dX8_isName_55 (by decide) rfl (by have := hbb (a + t) (by omega) (by omega); omega) (by have := hcb t; omega) (fun cq55 => ?_) (fun cq55 => ?_)
            · refine J_iinc (q := 63) X dX8_isName_60 rfl (by decide) rfl rfl ?_
              refine J_goto (q := 28) X dX8_isName_63 (by decide) ?_
              exact ih28 _ (by omega) (by rw [sc_go (P := (fun j => tb (a + j) = jch w j)) (by omega) cq55]; exact hsc) (by omega)
            · refine J_iconst (q := 59) X dX8_isName_58 rfl ?_
              refine J_zret X R dX8_isName_59 (nrw_z (by first | omega | exact bI_bd _)) ?_
              rw [sc_stop (P := (fun j => tb (a + j) = jch w j)) (fun z => cq55 z.2)] at hsc
              exact ⟨by rw [bI_f (fun z => by have z2 := z.2.2; omega)], rfl⟩
      exact lp28 100 _ (by omega) rfl (by omega)
    · refine J_iconst (q := 25) X dX8_isName_24 rfl ?_
      refine J_zret X R dX8_isName_25 (nrw_z (by first | omega | exact bI_bd _)) ?_
      exact ⟨by rw [bI_f (fun z => by have z1 := z.1; have z2 := z.2.1; omega)], rfl⟩
