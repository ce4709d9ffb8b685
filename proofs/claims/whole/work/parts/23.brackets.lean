set_option maxRecDepth 100000 in
set_option maxHeartbeats 4000000 in
theorem c_X1_isOf {l : Launch} {Γ : JG} {ad : Nat → Nat} {E : Nat → va_E} {c kd : Int} (hc : -2147483648 ≤ c ∧ c < 2147483648) (hkd : -2147483648 ≤ kd ∧ kd < 2147483648) : JM l Γ yX1_isOf cX1_isOf 2 (some .boolean) 2 40 0 0 ad 95 E [.int (jI c), .int (jI kd)] (pP (bI (isK c kd)) E) := by
  refine JM_intro (own := RX1) [some (.int (jI c)), some (.int (jI kd))] rfl rfl rfl (Nat.le_of_ble_eq_true rfl) ?_
  intro Ω X R hin
  refine J_iload_n (q := 1) X dX1_isOf_0 rfl rfl ?_
  refine J_callP (q := 4) (jrS X mX1_69 dX1_isOf_1 (c_X5_isBracket (by omega)) rfl rfl (Nat.le_of_ble_eq_true rfl) (by decide)) rfl ?_
  refine J_if_eqB (q := 7) (tgt := 24) X dX1_isOf_4 (by decide) rfl (fun cq4 => ?_) (fun cq4 => ?_)
  · refine J_iconst (q := 25) X dX1_isOf_24 rfl ?_
    refine J_zret X R dX1_isOf_25 (nrw_z (by omega)) ?_
    exact ⟨by unfold bI; first | (rw [if_pos (by first | (refine ⟨by assumption, Or.inl ?_⟩; omega) | (refine ⟨by assumption, Or.inr ?_⟩; omega))]; done) | (rw [if_neg (by rintro ⟨z1, z2⟩; omega)]; done), rfl⟩
  · refine J_iload_n (q := 8) X dX1_isOf_7 rfl rfl ?_
    refine J_iconst (q := 9) X dX1_isOf_8 rfl ?_
    refine J_icmp_eq (q := 12) (tgt := 20) X dX1_isOf_9 (by decide) rfl (by omega) (by omega) (fun cq9 => ?_) (fun cq9 => ?_)
    · refine J_iconst (q := 21) X dX1_isOf_20 rfl ?_
      refine J_goto (q := 25) X dX1_isOf_21 (by decide) ?_
      refine J_zret X R dX1_isOf_25 (nrw_z (by omega)) ?_
      exact ⟨by unfold bI; first | (rw [if_pos (by first | (refine ⟨by assumption, Or.inl ?_⟩; omega) | (refine ⟨by assumption, Or.inr ?_⟩; omega))]; done) | (rw [if_neg (by rintro ⟨z1, z2⟩; omega)]; done), rfl⟩
    · refine J_iload_n (q := 13) X dX1_isOf_12 rfl rfl ?_
      refine J_callP (q := 16) (jrS X mX1_72 dX1_isOf_13 (c_X5_kindOf (by omega)) rfl rfl (Nat.le_of_ble_eq_true rfl) (by decide)) rfl ?_
      refine J_iload_n (q := 17) X dX1_isOf_16 rfl rfl ?_
      refine J_icmp_ne (q := 20) (tgt := 24) X dX1_isOf_17 (by decide) rfl (by have := knd_bd c; omega) (by omega) (fun cq17 => ?_) (fun cq17 => ?_)
      · refine J_iconst (q := 25) X dX1_isOf_24 rfl ?_
        refine J_zret X R dX1_isOf_25 (nrw_z (by omega)) ?_
        exact ⟨by unfold bI; first | (rw [if_pos (by first | (refine ⟨by assumption, Or.inl ?_⟩; omega) | (refine ⟨by assumption, Or.inr ?_⟩; omega))]; done) | (rw [if_neg (by rintro ⟨z1, z2⟩; omega)]; done), rfl⟩
      · refine J_iconst (q := 21) X dX1_isOf_20 rfl ?_
        refine J_goto (q := 25) X dX1_isOf_21 (by decide) ?_
        refine J_zret X R dX1_isOf_25 (nrw_z (by omega)) ?_
        exact ⟨by unfold bI; first | (rw [if_pos (by first | (refine ⟨by assumption, Or.inl ?_⟩; omega) | (refine ⟨by assumption, Or.inr ?_⟩; omega))]; done) | (rw [if_neg (by rintro ⟨z1, z2⟩; omega)]; done), rfl⟩

set_option maxRecDepth 100000 in
set_option maxHeartbeats 4000000 in
theorem c_X1_pairUp {l : Launch} {Γ : JG} {ad : Nat → Nat} {E : Nat → va_E} {n : Int} {f hp g0 : Int → Int} {kd : Int} {q : Nat} (hB : E 9 = .inr (1, [.ref (ad 10), .ref (ad 12), .ref (ad 13), .ref (ad 14), .ref (ad 15), .ref (ad 16), .ref (ad 17), .ref (ad 18)])) (hR : E 10 = .inr (3, [.ref (ad 11), .int (jI n)])) (hC : E 11 = aI Γ 60 f) (hH : E 14 = aI Γ 60 hp) (hI : E q = aI Γ 60 g0) (hv : VR f n) (hq : q = 12 ∨ q = 13) (hkd : 0 ≤ kd ∧ kd ≤ 3) (hg0 : ∀ j, 0 ≤ j → j < n → isK (f j % 128) kd → g0 j = -4) : JM l Γ yX1_pairUp cX1_pairUp 6 none 3 61 0 0 ad 95 E [.ref (ad 9), .int (jI kd), .ref (ad q)] (pV (fun E' => ∃ h' g' : Int → Int, E' 14 = aI Γ 60 h' ∧ E' q = aI Γ 60 g' ∧ (∀ j, 0 ≤ j → j < n → g' j = if isK (f j % 128) kd then prt kd f n j else g0 j) ∧ ∀ j : Nat, j ≠ 14 ∧ j ≠ q → E' j = E j)) := by
  refine JM_intro (own := RX1) [some (.ref (ad 9)), some (.int (jI kd)), some (.ref (ad q)), none, none, none] rfl rfl rfl (Nat.le_of_ble_eq_true rfl) ?_
  intro Ω X R hin
  obtain ⟨E0, hE0⟩ : ∃ E0 : Nat → va_E, E0 = E := ⟨_, rfl⟩
  have hF : ∀ j : Nat, j ≠ 14 ∧ j ≠ q → E j = E0 j := fun _ _ => by rw [hE0]
  obtain ⟨hn, hvr⟩ := id hv
  refine J_iconst (q := 1) X dX1_pairUp_0 rfl ?_
  refine J_istore_n (q := 2) X dX1_pairUp_1 (by decide) rfl rfl ?_
  refine J_iconst (q := 3) X dX1_pairUp_2 rfl ?_
  refine J_istore (q := 5) X dX1_pairUp_3 (by decide) rfl rfl ?_
  have lp5 : ∀ (m : Nat) (i top : Int) (h g : Int → Int) (E : Nat → va_E) (hi : 0 ≤ i ∧ i ≤ n) (hpr : PR kd f n g0 i top h g) (hB : E 9 = .inr (1, [.ref (ad 10), .ref (ad 12), .ref (ad 13), .ref (ad 14), .ref (ad 15), .ref (ad 16), .ref (ad 17), .ref (ad 18)])) (hR : E 10 = .inr (3, [.ref (ad 11), .int (jI n)])) (hC : E 11 = aI Γ 60 f) (hH : E 14 = aI Γ 60 h) (hI : E q = aI Γ 60 g) (hF : ∀ j : Nat, j ≠ 14 ∧ j ≠ q → E j = E0 j) (hm : n - i + 1 ≤ (m : Int)), J l Γ Ω 6 ad 95 0 0 E 5 [some (.ref (ad 9)), some (.int (jI kd)), some (.ref (ad q)), some (.int (jI top)), some (.int (jI i)), none] [] := by
    intro m
    induction m with
    | zero => intro i top h g E hi hpr hB hR hC hH hI hF hm; exfalso; omega
    | succ m ih5 =>
      intro i top h g E hi hpr hB hR hC hH hI hF hm
      have htop := PR_top hpr hi.1
      refine J_iload (q := 7) X dX1_pairUp_5 rfl rfl ?_
      refine J_aload_n (q := 8) X dX1_pairUp_7 rfl rfl ?_
      refine J_get (q := 11) X dX1_pairUp_8 fX1_12 hB (by omega) rfl rfl ?_
      refine J_get (q := 14) X dX1_pairUp_11 fX1_41 hR (by omega) rfl rfl ?_
      refine J_icmp_ge (q := 17) (tgt := 95) X dX1_pairUp_14 (by decide) rfl (by omega) (by omega) (fun cq14 => ?_) (fun cq14 => ?_)
      · refine J_vret X R dX1_pairUp_95 ?_
        rw [hE0] at hF
        obtain rfl : i = n := by omega
        exact ⟨rfl, h, g, hH, hI, hpr.2.2, hF⟩
      · refine J_aload_n (q := 18) X dX1_pairUp_17 rfl rfl ?_
        refine J_get (q := 21) X dX1_pairUp_18 fX1_12 hB (by omega) rfl rfl ?_
        refine J_iload (q := 23) X dX1_pairUp_21 rfl rfl ?_
        refine J_callP (q := 26) (jrV X mX1_55 dX1_pairUp_23 (c_X3_byteAt hR hC (by omega) (by omega) (by omega)) hR (by omega) rfl rfl rfl rfl (Nat.le_of_ble_eq_true rfl) (by decide)) rfl ?_
        refine J_istore (q := 28) X dX1_pairUp_26 (by decide) rfl rfl ?_
        refine J_iload (q := 30) X dX1_pairUp_28 rfl rfl ?_
        refine J_iload_n (q := 31) X dX1_pairUp_30 rfl rfl ?_
        refine J_callP (q := 34) (jrS X mX1_59 dX1_pairUp_31 (c_X1_isOf (by omega) (by omega)) rfl rfl (Nat.le_of_ble_eq_true rfl) (by decide)) rfl ?_
        refine J_if_neB (q := 37) (tgt := 40) X dX1_pairUp_34 (by decide) rfl (fun cq34 => ?_) (fun cq34 => ?_)
        · refine J_iload (q := 42) X dX1_pairUp_40 rfl rfl ?_
          refine J_callP (q := 45) (jrS X mX1_63 dX1_pairUp_42 (c_X5_opens (by omega)) rfl rfl (Nat.le_of_ble_eq_true rfl) (by decide)) rfl ?_
          refine J_if_eqB (q := 48) (tgt := 62) X dX1_pairUp_45 (by decide) rfl (fun cq45 => ?_) (fun cq45 => ?_)
          · refine J_iload_n (q := 63) X dX1_pairUp_62 rfl rfl ?_
            refine J_if_le (q := 66) (tgt := 89) X dX1_pairUp_63 (by decide) rfl (by omega) (fun cq63 => ?_) (fun cq63 => ?_)
            · refine J_iinc (q := 92) X dX1_pairUp_89 rfl (by decide) rfl rfl ?_
              refine J_goto (q := 5) X dX1_pairUp_92 (by decide) ?_
              refine J_kill 5 ?_
              first
                | exact ih5 _ _ _ _ _ (by omega) (PR_skip hpr hi.1 cq34) hB hR hC hH hI hF (by omega)
                | exact ih5 _ _ _ _ _ (by omega) (PR_push hpr hi.1 cq34 cq45) hB hR hC hH hI hF (by omega)
                | exact ih5 _ _ _ _ _ (by omega) (PR_none hpr hi.1 cq34 cq45 cq63) hB hR hC hH hI hF (by omega)
                | exact ih5 _ _ _ _ _ (by omega) (PR_pop hpr hi.1 cq34 cq45 (by omega)) hB hR hC hH hI hF (by omega)
            · have hh := PR_hp hpr hi.1 (by omega)
              refine J_iinc (q := 69) X dX1_pairUp_66 rfl (by decide) rfl rfl ?_
              refine J_aload_n (q := 70) X dX1_pairUp_69 rfl rfl ?_
              refine J_iload (q := 72) X dX1_pairUp_70 rfl rfl ?_
              refine J_aload_n (q := 73) X dX1_pairUp_72 rfl rfl ?_
              refine J_get (q := 76) X dX1_pairUp_73 fX1_25 hB (by omega) rfl rfl ?_
              refine J_iload_n (q := 77) X dX1_pairUp_76 rfl rfl ?_
              refine J_iald (q := 78) X dX1_pairUp_77 hH (by omega) (by omega) (by decide) rfl ?_
              refine J_iast (q := 79) X dX1_pairUp_78 hI (by omega) (by omega) (by decide) rfl (fun Ew78 hkq78 hsq78 => ?_)
              replace hI := hkq78
              replace hB := (hsq78 9 (by omega)).trans hB
              replace hR := (hsq78 10 (by omega)).trans hR
              replace hC := (hsq78 11 (by omega)).trans hC
              replace hH := (hsq78 14 (by omega)).trans hH
              replace hF : ∀ j : Nat, j ≠ 14 ∧ j ≠ q → Ew78 j = E0 j := fun j hj => (hsq78 j (by omega)).trans (hF j hj)
              refine J_aload_n (q := 80) X dX1_pairUp_79 rfl rfl ?_
              refine J_aload_n (q := 81) X dX1_pairUp_80 rfl rfl ?_
              refine J_get (q := 84) X dX1_pairUp_81 fX1_25 hB (by omega) rfl rfl ?_
              refine J_iload_n (q := 85) X dX1_pairUp_84 rfl rfl ?_
              refine J_iald (q := 86) X dX1_pairUp_85 hH (by omega) (by omega) (by decide) rfl ?_
              refine J_iload (q := 88) X dX1_pairUp_86 rfl rfl ?_
              refine J_iast (q := 89) X dX1_pairUp_88 hI (by omega) (by rw [show top + -1 = top - 1 by omega]; omega) (by decide) rfl (fun Ew88 hkq88 hsq88 => ?_)
              replace hI := hkq88
              replace hB := (hsq88 9 (by omega)).trans hB
              replace hR := (hsq88 10 (by omega)).trans hR
              replace hC := (hsq88 11 (by omega)).trans hC
              replace hH := (hsq88 14 (by omega)).trans hH
              replace hF : ∀ j : Nat, j ≠ 14 ∧ j ≠ q → Ew88 j = E0 j := fun j hj => (hsq88 j (by omega)).trans (hF j hj)
              refine J_iinc (q := 92) X dX1_pairUp_89 rfl (by decide) rfl rfl ?_
              refine J_goto (q := 5) X dX1_pairUp_92 (by decide) ?_
              refine J_kill 5 ?_
              first
                | exact ih5 _ _ _ _ _ (by omega) (PR_skip hpr hi.1 cq34) hB hR hC hH hI hF (by omega)
                | exact ih5 _ _ _ _ _ (by omega) (PR_push hpr hi.1 cq34 cq45) hB hR hC hH hI hF (by omega)
                | exact ih5 _ _ _ _ _ (by omega) (PR_none hpr hi.1 cq34 cq45 cq63) hB hR hC hH hI hF (by omega)
                | exact ih5 _ _ _ _ _ (by omega) (PR_pop hpr hi.1 cq34 cq45 (by omega)) hB hR hC hH hI hF (by omega)
          · refine J_aload_n (q := 49) X dX1_pairUp_48 rfl rfl ?_
            refine J_get (q := 52) X dX1_pairUp_49 fX1_25 hB (by omega) rfl rfl ?_
            refine J_iload_n (q := 53) X dX1_pairUp_52 rfl rfl ?_
            refine J_iload (q := 55) X dX1_pairUp_53 rfl rfl ?_
            refine J_iast (q := 56) X dX1_pairUp_55 hH (by omega) (by omega) (by decide) rfl (fun Ew55 hkq55 hsq55 => ?_)
            replace hH := hkq55
            replace hB := (hsq55 9 (by omega)).trans hB
            replace hR := (hsq55 10 (by omega)).trans hR
            replace hC := (hsq55 11 (by omega)).trans hC
            replace hI := (hsq55 q (by omega)).trans hI
            replace hF : ∀ j : Nat, j ≠ 14 ∧ j ≠ q → Ew55 j = E0 j := fun j hj => (hsq55 j (by omega)).trans (hF j hj)
            refine J_iinc (q := 59) X dX1_pairUp_56 rfl (by decide) rfl rfl ?_
            refine J_goto (q := 89) X dX1_pairUp_59 (by decide) ?_
            refine J_iinc (q := 92) X dX1_pairUp_89 rfl (by decide) rfl rfl ?_
            refine J_goto (q := 5) X dX1_pairUp_92 (by decide) ?_
            refine J_kill 5 ?_
            first
              | exact ih5 _ _ _ _ _ (by omega) (PR_skip hpr hi.1 cq34) hB hR hC hH hI hF (by omega)
              | exact ih5 _ _ _ _ _ (by omega) (PR_push hpr hi.1 cq34 cq45) hB hR hC hH hI hF (by omega)
              | exact ih5 _ _ _ _ _ (by omega) (PR_none hpr hi.1 cq34 cq45 cq63) hB hR hC hH hI hF (by omega)
              | exact ih5 _ _ _ _ _ (by omega) (PR_pop hpr hi.1 cq34 cq45 (by omega)) hB hR hC hH hI hF (by omega)
        · refine J_goto (q := 89) X dX1_pairUp_37 (by decide) ?_
          refine J_iinc (q := 92) X dX1_pairUp_89 rfl (by decide) rfl rfl ?_
          refine J_goto (q := 5) X dX1_pairUp_92 (by decide) ?_
          refine J_kill 5 ?_
          first
            | exact ih5 _ _ _ _ _ (by omega) (PR_skip hpr hi.1 cq34) hB hR hC hH hI hF (by omega)
            | exact ih5 _ _ _ _ _ (by omega) (PR_push hpr hi.1 cq34 cq45) hB hR hC hH hI hF (by omega)
            | exact ih5 _ _ _ _ _ (by omega) (PR_none hpr hi.1 cq34 cq45 cq63) hB hR hC hH hI hF (by omega)
            | exact ih5 _ _ _ _ _ (by omega) (PR_pop hpr hi.1 cq34 cq45 (by omega)) hB hR hC hH hI hF (by omega)
  exact lp5 100 _ _ _ _ _ (by omega) (PR_0 hg0) hB hR hC hH hI hF (by omega)

set_option maxRecDepth 100000 in
set_option maxHeartbeats 4000000 in
theorem c_X1_countAlong {l : Launch} {Γ : JG} {ad : Nat → Nat} {E : Nat → va_E} {n : Int} {f de sl : Int → Int}  (hB : E 9 = .inr (1, [.ref (ad 10), .ref (ad 12), .ref (ad 13), .ref (ad 14), .ref (ad 15), .ref (ad 16), .ref (ad 17), .ref (ad 18)])) (hR : E 10 = .inr (3, [.ref (ad 11), .int (jI n)])) (hC : E 11 = aI Γ 60 f) (hD : E 15 = aI Γ 61 de) (hS : E 16 = aI Γ 61 sl) (hv : VR f n) (hd0 : de 0 = 0) (hs0 : sl 0 = 0) : JM l Γ yX1_countAlong cX1_countAlong 3 none 1 21 0 0 ad 95 E [.ref (ad 9)] (pV (fun E' => ∃ de' sl' : Int → Int, E' 15 = aI Γ 61 de' ∧ E' 16 = aI Γ 61 sl' ∧ (∀ j, 0 ≤ j → j ≤ n → de' j = dep f j) ∧ (∀ j, 0 ≤ j → j ≤ n → sl' j = lin f j) ∧ ∀ j : Nat, j ≠ 15 ∧ j ≠ 16 → E' j = E j)) := by
  refine JM_intro (own := RX1) [some (.ref (ad 9)), none, none] rfl rfl rfl (Nat.le_of_ble_eq_true rfl) ?_
  intro Ω X R hin
  obtain ⟨E0, hE0⟩ : ∃ E0 : Nat → va_E, E0 = E := ⟨_, rfl⟩
  have hF : ∀ j : Nat, j ≠ 15 ∧ j ≠ 16 → E j = E0 j := fun _ _ => by rw [hE0]
  obtain ⟨hn, hvr⟩ := id hv
  refine J_iconst (q := 1) X dX1_countAlong_0 rfl ?_
  refine J_istore_n (q := 2) X dX1_countAlong_1 (by decide) rfl rfl ?_
  have lp2 : ∀ (m : Nat) (i : Int) (de sl : Int → Int) (E : Nat → va_E) (hi : 0 ≤ i ∧ i ≤ n) (hde : ∀ j, 0 ≤ j → j ≤ i → de j = dep f j) (hsl : ∀ j, 0 ≤ j → j ≤ i → sl j = lin f j) (hB : E 9 = .inr (1, [.ref (ad 10), .ref (ad 12), .ref (ad 13), .ref (ad 14), .ref (ad 15), .ref (ad 16), .ref (ad 17), .ref (ad 18)])) (hR : E 10 = .inr (3, [.ref (ad 11), .int (jI n)])) (hC : E 11 = aI Γ 60 f) (hD : E 15 = aI Γ 61 de) (hS : E 16 = aI Γ 61 sl) (hF : ∀ j : Nat, j ≠ 15 ∧ j ≠ 16 → E j = E0 j) (hm : n - i + 1 ≤ (m : Int)), J l Γ Ω 3 ad 95 0 0 E 2 [some (.ref (ad 9)), some (.int (jI i)), none] [] := by
    intro m
    induction m with
    | zero => intro i de sl E hi hde hsl hB hR hC hD hS hF hm; exfalso; omega
    | succ m ih2 =>
      intro i de sl E hi hde hsl hB hR hC hD hS hF hm
      refine J_iload_n (q := 3) X dX1_countAlong_2 rfl rfl ?_
      refine J_aload_n (q := 4) X dX1_countAlong_3 rfl rfl ?_
      refine J_get (q := 7) X dX1_countAlong_4 fX1_12 hB (by omega) rfl rfl ?_
      refine J_get (q := 10) X dX1_countAlong_7 fX1_41 hR (by omega) rfl rfl ?_
      refine J_icmp_ge (q := 13) (tgt := 87) X dX1_countAlong_10 (by decide) rfl (by omega) (by omega) (fun cq10 => ?_) (fun cq10 => ?_)
      · refine J_vret X R dX1_countAlong_87 ?_
        rw [hE0] at hF
        obtain rfl : i = n := by omega
        exact ⟨rfl, de, sl, hD, hS, hde, hsl, hF⟩
      · refine J_aload_n (q := 14) X dX1_countAlong_13 rfl rfl ?_
        refine J_get (q := 17) X dX1_countAlong_14 fX1_12 hB (by omega) rfl rfl ?_
        refine J_iload_n (q := 18) X dX1_countAlong_17 rfl rfl ?_
        refine J_callP (q := 21) (jrV X mX1_55 dX1_countAlong_18 (c_X3_byteAt hR hC (by omega) (by omega) (by omega)) hR (by omega) rfl rfl rfl rfl (Nat.le_of_ble_eq_true rfl) (by decide)) rfl ?_
        refine J_istore_n (q := 22) X dX1_countAlong_21 (by decide) rfl rfl ?_
        refine J_aload_n (q := 23) X dX1_countAlong_22 rfl rfl ?_
        refine J_get (q := 26) X dX1_countAlong_23 fX1_28 hB (by omega) rfl rfl ?_
        refine J_iload_n (q := 27) X dX1_countAlong_26 rfl rfl ?_
        refine J_iconst (q := 28) X dX1_countAlong_27 rfl ?_
        refine J_iadd (q := 29) X dX1_countAlong_28 rfl ?_
        refine J_aload_n (q := 30) X dX1_countAlong_29 rfl rfl ?_
        refine J_get (q := 33) X dX1_countAlong_30 fX1_28 hB (by omega) rfl rfl ?_
        refine J_iload_n (q := 34) X dX1_countAlong_33 rfl rfl ?_
        refine J_iald (q := 35) X dX1_countAlong_34 hD (by omega) (by omega) (by decide) rfl ?_
        refine J_iload_n (q := 36) X dX1_countAlong_35 rfl rfl ?_
        refine J_callP (q := 39) (jrS X mX1_63 dX1_countAlong_36 (c_X5_opens (by omega)) rfl rfl (Nat.le_of_ble_eq_true rfl) (by decide)) rfl ?_
        refine J_callP (q := 42) (jrS X mX1_75 dX1_countAlong_39 (c_X9_oneIf (by first | omega | exact bI_bd _)) rfl rfl (Nat.le_of_ble_eq_true rfl) (by decide)) rfl ?_
        refine J_iadd (q := 43) X dX1_countAlong_42 rfl ?_
        refine J_iload_n (q := 44) X dX1_countAlong_43 rfl rfl ?_
        refine J_callP (q := 47) (jrS X mX1_79 dX1_countAlong_44 (c_X5_closes (by omega)) rfl rfl (Nat.le_of_ble_eq_true rfl) (by decide)) rfl ?_
        refine J_callP (q := 50) (jrS X mX1_75 dX1_countAlong_47 (c_X9_oneIf (by first | omega | exact bI_bd _)) rfl rfl (Nat.le_of_ble_eq_true rfl) (by decide)) rfl ?_
        refine J_isub (q := 51) X dX1_countAlong_50 rfl ?_
        refine J_iast (q := 52) X dX1_countAlong_51 hD (by omega) (by omega) (by decide) rfl (fun Ew51 hkq51 hsq51 => ?_)
        replace hD := hkq51
        replace hB := (hsq51 9 (by omega)).trans hB
        replace hR := (hsq51 10 (by omega)).trans hR
        replace hC := (hsq51 11 (by omega)).trans hC
        replace hS := (hsq51 16 (by omega)).trans hS
        replace hF : ∀ j : Nat, j ≠ 15 ∧ j ≠ 16 → Ew51 j = E0 j := fun j hj => (hsq51 j (by omega)).trans (hF j hj)
        refine J_aload_n (q := 53) X dX1_countAlong_52 rfl rfl ?_
        refine J_get (q := 56) X dX1_countAlong_53 fX1_31 hB (by omega) rfl rfl ?_
        refine J_iload_n (q := 57) X dX1_countAlong_56 rfl rfl ?_
        refine J_iconst (q := 58) X dX1_countAlong_57 rfl ?_
        refine J_iadd (q := 59) X dX1_countAlong_58 rfl ?_
        refine J_aload_n (q := 60) X dX1_countAlong_59 rfl rfl ?_
        refine J_get (q := 63) X dX1_countAlong_60 fX1_31 hB (by omega) rfl rfl ?_
        refine J_iload_n (q := 64) X dX1_countAlong_63 rfl rfl ?_
        refine J_iald (q := 65) X dX1_countAlong_64 hS (by omega) (by omega) (by decide) rfl ?_
        refine J_iload_n (q := 66) X dX1_countAlong_65 rfl rfl ?_
        refine J_bipush (q := 68) X dX1_countAlong_66 rfl (by decide) ?_
        refine J_icmp_ne (q := 71) (tgt := 75) X dX1_countAlong_68 (by decide) rfl (by omega) (by omega) (fun cq68 => ?_) (fun cq68 => ?_)
        · refine J_iconst (q := 76) X dX1_countAlong_75 rfl ?_
          refine J_callP (q := 79) (jrS X mX1_75 dX1_countAlong_76 (c_X9_oneIf (by first | omega | exact bI_bd _)) rfl rfl (Nat.le_of_ble_eq_true rfl) (by decide)) rfl ?_
          refine J_iadd (q := 80) X dX1_countAlong_79 rfl ?_
          refine J_iast (q := 81) X dX1_countAlong_80 hS (by omega) (by omega) (by decide) rfl (fun Ew80 hkq80 hsq80 => ?_)
          replace hS := hkq80
          replace hB := (hsq80 9 (by omega)).trans hB
          replace hR := (hsq80 10 (by omega)).trans hR
          replace hC := (hsq80 11 (by omega)).trans hC
          replace hD := (hsq80 15 (by omega)).trans hD
          replace hF : ∀ j : Nat, j ≠ 15 ∧ j ≠ 16 → Ew80 j = E0 j := fun j hj => (hsq80 j (by omega)).trans (hF j hj)
          refine J_iinc (q := 84) X dX1_countAlong_81 rfl (by decide) rfl rfl ?_
          refine J_goto (q := 2) X dX1_countAlong_84 (by decide) ?_
          refine J_kill 2 ?_
          refine ih2 _ _ _ _ (by omega) (fun j a b => ?_) (fun j a b => ?_) hB hR hC hD hS hF (by omega)
          · simp only [iu]
            by_cases hj : j = i + 1
            · rw [if_pos hj, hj, hde i (by omega) (by omega)]
              show _ = smI _ (i + 1)
              rw [smI_succ _ hi.1]
              show dep f i + _ - _ = dep f i + (_ - _)
              omega
            · rw [if_neg hj]; exact hde j a (by omega)
          · simp only [iu]
            by_cases hj : j = i + 1
            · rw [if_pos hj, hj, hsl i (by omega) (by omega)]
              show _ = smI _ (i + 1)
              rw [smI_succ _ hi.1]
              show lin f i + _ = lin f i + _
              first | rw [bI_t cq68] | rw [bI_f cq68]
            · rw [if_neg hj]; exact hsl j a (by omega)
        · refine J_iconst (q := 72) X dX1_countAlong_71 rfl ?_
          refine J_goto (q := 76) X dX1_countAlong_72 (by decide) ?_
          refine J_callP (q := 79) (jrS X mX1_75 dX1_countAlong_76 (c_X9_oneIf (by first | omega | exact bI_bd _)) rfl rfl (Nat.le_of_ble_eq_true rfl) (by decide)) rfl ?_
          refine J_iadd (q := 80) X dX1_countAlong_79 rfl ?_
          refine J_iast (q := 81) X dX1_countAlong_80 hS (by omega) (by omega) (by decide) rfl (fun Ew80 hkq80 hsq80 => ?_)
          replace hS := hkq80
          replace hB := (hsq80 9 (by omega)).trans hB
          replace hR := (hsq80 10 (by omega)).trans hR
          replace hC := (hsq80 11 (by omega)).trans hC
          replace hD := (hsq80 15 (by omega)).trans hD
          replace hF : ∀ j : Nat, j ≠ 15 ∧ j ≠ 16 → Ew80 j = E0 j := fun j hj => (hsq80 j (by omega)).trans (hF j hj)
          refine J_iinc (q := 84) X dX1_countAlong_81 rfl (by decide) rfl rfl ?_
          refine J_goto (q := 2) X dX1_countAlong_84 (by decide) ?_
          refine J_kill 2 ?_
          refine ih2 _ _ _ _ (by omega) (fun j a b => ?_) (fun j a b => ?_) hB hR hC hD hS hF (by omega)
          · simp only [iu]
            by_cases hj : j = i + 1
            · rw [if_pos hj, hj, hde i (by omega) (by omega)]
              show _ = smI _ (i + 1)
              rw [smI_succ _ hi.1]
              show dep f i + _ - _ = dep f i + (_ - _)
              omega
            · rw [if_neg hj]; exact hde j a (by omega)
          · simp only [iu]
            by_cases hj : j = i + 1
            · rw [if_pos hj, hj, hsl i (by omega) (by omega)]
              show _ = smI _ (i + 1)
              rw [smI_succ _ hi.1]
              show lin f i + _ = lin f i + _
              first | rw [bI_t cq68] | rw [bI_f cq68]
            · rw [if_neg hj]; exact hsl j a (by omega)
  exact lp2 100 _ _ _ _ (by omega) (fun j a b => by rw [show j = 0 by omega]; exact hd0) (fun j a b => by rw [show j = 0 by omega]; exact hs0) hB hR hC hD hS hF (by omega)

set_option maxRecDepth 100000 in
set_option maxHeartbeats 4000000 in
theorem c_X1_isFolded {l : Launch} {Γ : JG} {ad : Nat → Nat} {E : Nat → va_E} {n : Int} {f pa sl : Int → Int} {i : Int}  (hB : E 9 = .inr (1, [.ref (ad 10), .ref (ad 12), .ref (ad 13), .ref (ad 14), .ref (ad 15), .ref (ad 16), .ref (ad 17), .ref (ad 18)])) (hR : E 10 = .inr (3, [.ref (ad 11), .int (jI n)])) (hC : E 11 = aI Γ 60 f) (hP : E 12 = aI Γ 60 pa) (hS : E 16 = aI Γ 61 sl) (hv : VR f n) (hpa : ∀ j, 0 ≤ j → j < n → pa j = prt 3 f n j) (hsl : ∀ j, 0 ≤ j → j ≤ n → sl j = lin f j) (hi : 0 ≤ i ∧ i < n) : JM l Γ yX1_isFolded cX1_isFolded 3 (some .boolean) 1 21 0 0 ad 95 E [.ref (ad 9), .int (jI i)] (pP (bI (fo f n i)) E) := by
  refine JM_intro (own := RX1) [some (.ref (ad 9)), some (.int (jI i)), none] rfl rfl rfl (Nat.le_of_ble_eq_true rfl) ?_
  intro Ω X R hin
  obtain ⟨hfi, -⟩ := hv.2 i hi.1 hi.2
  have hpi := hpa i hi.1 hi.2
  have hpb := prt_bd (kd := 3) (f := f) (n := n) hv.1.1 i
  have hli := hsl i hi.1 (by omega)
  have hlb := lin_bd f hi.1
  obtain ⟨hn, hvr⟩ := id hv
  refine J_aload_n (q := 1) X dX1_isFolded_0 rfl rfl ?_
  refine J_get (q := 4) X dX1_isFolded_1 fX1_18 hB (by omega) rfl rfl ?_
  refine J_iload_n (q := 5) X dX1_isFolded_4 rfl rfl ?_
  refine J_iald (q := 6) X dX1_isFolded_5 hP (by omega) (by omega) (by decide) rfl ?_
  refine J_istore_n (q := 7) X dX1_isFolded_6 (by decide) rfl rfl ?_
  refine J_iload_n (q := 8) X dX1_isFolded_7 rfl rfl ?_
  refine J_iload_n (q := 9) X dX1_isFolded_8 rfl rfl ?_
  refine J_icmp_le (q := 12) (tgt := 42) X dX1_isFolded_9 (by decide) rfl (by omega) (by omega) (fun cq9 => ?_) (fun cq9 => ?_)
  · refine J_iconst (q := 43) X dX1_isFolded_42 rfl ?_
    refine J_zret X R dX1_isFolded_43 (nrw_z (by omega)) ?_
    refine ⟨?_, rfl⟩
    unfold bI
    first
      | (rw [if_neg (fun z => by have z1 := z.1; omega)]; done)
      | (rw [if_neg (fun z => cq20 z.2.1)]; done)
      | (rw [hpi] at cq35; rw [hsl _ (by omega) (by omega), hli] at cq35; rw [if_neg (fun z => by omega)]; done)
      | (rw [hpi] at cq35; rw [hsl _ (by omega) (by omega), hli] at cq35; rw [if_pos ⟨by omega, cq20, by omega⟩]; done)
  · refine J_aload_n (q := 13) X dX1_isFolded_12 rfl rfl ?_
    refine J_get (q := 16) X dX1_isFolded_13 fX1_12 hB (by omega) rfl rfl ?_
    refine J_iload_n (q := 17) X dX1_isFolded_16 rfl rfl ?_
    refine J_callP (q := 20) (jrV X mX1_85 dX1_isFolded_17 (c_X3_markedAt hR hC (by omega) (by omega) (by omega) (by omega)) hR (by omega) rfl rfl rfl rfl (Nat.le_of_ble_eq_true rfl) (by decide)) rfl ?_
    refine J_if_eqB (q := 23) (tgt := 42) X dX1_isFolded_20 (by decide) rfl (fun cq20 => ?_) (fun cq20 => ?_)
    · refine J_iconst (q := 43) X dX1_isFolded_42 rfl ?_
      refine J_zret X R dX1_isFolded_43 (nrw_z (by omega)) ?_
      refine ⟨?_, rfl⟩
      unfold bI
      first
        | (rw [if_neg (fun z => by have z1 := z.1; omega)]; done)
        | (rw [if_neg (fun z => cq20 z.2.1)]; done)
        | (rw [hpi] at cq35; rw [hsl _ (by omega) (by omega), hli] at cq35; rw [if_neg (fun z => by omega)]; done)
        | (rw [hpi] at cq35; rw [hsl _ (by omega) (by omega), hli] at cq35; rw [if_pos ⟨by omega, cq20, by omega⟩]; done)
    · refine J_aload_n (q := 24) X dX1_isFolded_23 rfl rfl ?_
      refine J_get (q := 27) X dX1_isFolded_24 fX1_31 hB (by omega) rfl rfl ?_
      refine J_iload_n (q := 28) X dX1_isFolded_27 rfl rfl ?_
      refine J_iald (q := 29) X dX1_isFolded_28 hS (by omega) (by omega) (by decide) rfl ?_
      refine J_aload_n (q := 30) X dX1_isFolded_29 rfl rfl ?_
      refine J_get (q := 33) X dX1_isFolded_30 fX1_31 hB (by omega) rfl rfl ?_
      refine J_iload_n (q := 34) X dX1_isFolded_33 rfl rfl ?_
      refine J_iald (q := 35) X dX1_isFolded_34 hS (by omega) (by omega) (by decide) rfl ?_
      refine J_icmp_le (q := 38) (tgt := 42) X dX1_isFolded_35 (by decide) rfl (by have := lin_bd f (j := prt 3 f n i) (by omega); rw [hpi, hsl _ (by omega) (by omega)]; omega) (by omega) (fun cq35 => ?_) (fun cq35 => ?_)
      · refine J_iconst (q := 43) X dX1_isFolded_42 rfl ?_
        refine J_zret X R dX1_isFolded_43 (nrw_z (by omega)) ?_
        refine ⟨?_, rfl⟩
        unfold bI
        first
          | (rw [if_neg (fun z => by have z1 := z.1; omega)]; done)
          | (rw [if_neg (fun z => cq20 z.2.1)]; done)
          | (rw [hpi] at cq35; rw [hsl _ (by omega) (by omega), hli] at cq35; rw [if_neg (fun z => by omega)]; done)
          | (rw [hpi] at cq35; rw [hsl _ (by omega) (by omega), hli] at cq35; rw [if_pos ⟨by omega, cq20, by omega⟩]; done)
      · refine J_iconst (q := 39) X dX1_isFolded_38 rfl ?_
        refine J_goto (q := 43) X dX1_isFolded_39 (by decide) ?_
        refine J_zret X R dX1_isFolded_43 (nrw_z (by omega)) ?_
        refine ⟨?_, rfl⟩
        unfold bI
        first
          | (rw [if_neg (fun z => by have z1 := z.1; omega)]; done)
          | (rw [if_neg (fun z => cq20 z.2.1)]; done)
          | (rw [hpi] at cq35; rw [hsl _ (by omega) (by omega), hli] at cq35; rw [if_neg (fun z => by omega)]; done)
          | (rw [hpi] at cq35; rw [hsl _ (by omega) (by omega), hli] at cq35; rw [if_pos ⟨by omega, cq20, by omega⟩]; done)
