set_option maxRecDepth 100000 in
set_option maxHeartbeats 4000000 in
theorem c_X5_opens {l : Launch} {Γ : JG} {ad : Nat → Nat} {E : Nat → va_E} {c : Int} (hc : -2147483648 ≤ c ∧ c < 2147483648) : JM l Γ yX5_opens cX5_opens 1 (some .boolean) 0 0 0 0 ad 95 E [.int (jI c)] (pP (bI (opn c)) E) := by
  refine JM_intro (own := RX5) [some (.int (jI c))] rfl rfl rfl (Nat.le_of_ble_eq_true rfl) ?_
  intro Ω X R hin
  refine J_iload_n (q := 1) X dX5_opens_0 rfl rfl ?_
  refine J_bipush (q := 3) X dX5_opens_1 rfl (by decide) ?_
  refine J_icmp_eq (q := 6) (tgt := 18) X dX5_opens_3 (by decide) rfl (by omega) (by omega) (fun cq3 => ?_) (fun cq3 => ?_)
  · refine J_iconst (q := 19) X dX5_opens_18 rfl ?_
    refine J_goto (q := 23) X dX5_opens_19 (by decide) ?_
    refine J_zret X R dX5_opens_23 (nrw_z (by omega)) ?_
    exact ⟨by unfold bI; first | (rw [if_pos (by omega)]; done) | (rw [if_neg (by omega)]; done), rfl⟩
  · refine J_iload_n (q := 7) X dX5_opens_6 rfl rfl ?_
    refine J_bipush (q := 9) X dX5_opens_7 rfl (by decide) ?_
    refine J_icmp_eq (q := 12) (tgt := 18) X dX5_opens_9 (by decide) rfl (by omega) (by omega) (fun cq9 => ?_) (fun cq9 => ?_)
    · refine J_iconst (q := 19) X dX5_opens_18 rfl ?_
      refine J_goto (q := 23) X dX5_opens_19 (by decide) ?_
      refine J_zret X R dX5_opens_23 (nrw_z (by omega)) ?_
      exact ⟨by unfold bI; first | (rw [if_pos (by omega)]; done) | (rw [if_neg (by omega)]; done), rfl⟩
    · refine J_iload_n (q := 13) X dX5_opens_12 rfl rfl ?_
      refine J_bipush (q := 15) X dX5_opens_13 rfl (by decide) ?_
      refine J_icmp_ne (q := 18) (tgt := 22) X dX5_opens_15 (by decide) rfl (by omega) (by omega) (fun cq15 => ?_) (fun cq15 => ?_)
      · refine J_iconst (q := 23) X dX5_opens_22 rfl ?_
        refine J_zret X R dX5_opens_23 (nrw_z (by omega)) ?_
        exact ⟨by unfold bI; first | (rw [if_pos (by omega)]; done) | (rw [if_neg (by omega)]; done), rfl⟩
      · refine J_iconst (q := 19) X dX5_opens_18 rfl ?_
        refine J_goto (q := 23) X dX5_opens_19 (by decide) ?_
        refine J_zret X R dX5_opens_23 (nrw_z (by omega)) ?_
        exact ⟨by unfold bI; first | (rw [if_pos (by omega)]; done) | (rw [if_neg (by omega)]; done), rfl⟩

set_option maxRecDepth 100000 in
set_option maxHeartbeats 4000000 in
theorem c_X5_closes {l : Launch} {Γ : JG} {ad : Nat → Nat} {E : Nat → va_E} {c : Int} (hc : -2147483648 ≤ c ∧ c < 2147483648) : JM l Γ yX5_closes cX5_closes 1 (some .boolean) 0 0 0 0 ad 95 E [.int (jI c)] (pP (bI (clo c)) E) := by
  refine JM_intro (own := RX5) [some (.int (jI c))] rfl rfl rfl (Nat.le_of_ble_eq_true rfl) ?_
  intro Ω X R hin
  refine J_iload_n (q := 1) X dX5_closes_0 rfl rfl ?_
  refine J_bipush (q := 3) X dX5_closes_1 rfl (by decide) ?_
  refine J_icmp_eq (q := 6) (tgt := 18) X dX5_closes_3 (by decide) rfl (by omega) (by omega) (fun cq3 => ?_) (fun cq3 => ?_)
  · refine J_iconst (q := 19) X dX5_closes_18 rfl ?_
    refine J_goto (q := 23) X dX5_closes_19 (by decide) ?_
    refine J_zret X R dX5_closes_23 (nrw_z (by omega)) ?_
    exact ⟨by unfold bI; first | (rw [if_pos (by omega)]; done) | (rw [if_neg (by omega)]; done), rfl⟩
  · refine J_iload_n (q := 7) X dX5_closes_6 rfl rfl ?_
    refine J_bipush (q := 9) X dX5_closes_7 rfl (by decide) ?_
    refine J_icmp_eq (q := 12) (tgt := 18) X dX5_closes_9 (by decide) rfl (by omega) (by omega) (fun cq9 => ?_) (fun cq9 => ?_)
    · refine J_iconst (q := 19) X dX5_closes_18 rfl ?_
      refine J_goto (q := 23) X dX5_closes_19 (by decide) ?_
      refine J_zret X R dX5_closes_23 (nrw_z (by omega)) ?_
      exact ⟨by unfold bI; first | (rw [if_pos (by omega)]; done) | (rw [if_neg (by omega)]; done), rfl⟩
    · refine J_iload_n (q := 13) X dX5_closes_12 rfl rfl ?_
      refine J_bipush (q := 15) X dX5_closes_13 rfl (by decide) ?_
      refine J_icmp_ne (q := 18) (tgt := 22) X dX5_closes_15 (by decide) rfl (by omega) (by omega) (fun cq15 => ?_) (fun cq15 => ?_)
      · refine J_iconst (q := 23) X dX5_closes_22 rfl ?_
        refine J_zret X R dX5_closes_23 (nrw_z (by omega)) ?_
        exact ⟨by unfold bI; first | (rw [if_pos (by omega)]; done) | (rw [if_neg (by omega)]; done), rfl⟩
      · refine J_iconst (q := 19) X dX5_closes_18 rfl ?_
        refine J_goto (q := 23) X dX5_closes_19 (by decide) ?_
        refine J_zret X R dX5_closes_23 (nrw_z (by omega)) ?_
        exact ⟨by unfold bI; first | (rw [if_pos (by omega)]; done) | (rw [if_neg (by omega)]; done), rfl⟩

set_option maxRecDepth 100000 in
set_option maxHeartbeats 4000000 in
theorem c_X5_isBracket {l : Launch} {Γ : JG} {ad : Nat → Nat} {E : Nat → va_E} {c : Int} (hc : -2147483648 ≤ c ∧ c < 2147483648) : JM l Γ yX5_isBracket cX5_isBracket 1 (some .boolean) 1 20 0 0 ad 95 E [.int (jI c)] (pP (bI (brk c)) E) := by
  refine JM_intro (own := RX5) [some (.int (jI c))] rfl rfl rfl (Nat.le_of_ble_eq_true rfl) ?_
  intro Ω X R hin
  refine J_iload_n (q := 1) X dX5_isBracket_0 rfl rfl ?_
  refine J_callP (q := 4) (jrS X mX5_18 dX5_isBracket_1 (c_X5_opens (by omega)) rfl rfl (Nat.le_of_ble_eq_true rfl) (by decide)) rfl ?_
  refine J_if_neB (q := 7) (tgt := 14) X dX5_isBracket_4 (by decide) rfl (fun cq4 => ?_) (fun cq4 => ?_)
  · refine J_iconst (q := 15) X dX5_isBracket_14 rfl ?_
    refine J_goto (q := 19) X dX5_isBracket_15 (by decide) ?_
    refine J_zret X R dX5_isBracket_19 (nrw_z (by omega)) ?_
    exact ⟨by unfold bI; first | (rw [if_pos (by omega)]; done) | (rw [if_neg (by omega)]; done), rfl⟩
  · refine J_iload_n (q := 8) X dX5_isBracket_7 rfl rfl ?_
    refine J_callP (q := 11) (jrS X mX5_21 dX5_isBracket_8 (c_X5_closes (by omega)) rfl rfl (Nat.le_of_ble_eq_true rfl) (by decide)) rfl ?_
    refine J_if_eqB (q := 14) (tgt := 18) X dX5_isBracket_11 (by decide) rfl (fun cq11 => ?_) (fun cq11 => ?_)
    · refine J_iconst (q := 19) X dX5_isBracket_18 rfl ?_
      refine J_zret X R dX5_isBracket_19 (nrw_z (by omega)) ?_
      exact ⟨by unfold bI; first | (rw [if_pos (by omega)]; done) | (rw [if_neg (by omega)]; done), rfl⟩
    · refine J_iconst (q := 15) X dX5_isBracket_14 rfl ?_
      refine J_goto (q := 19) X dX5_isBracket_15 (by decide) ?_
      refine J_zret X R dX5_isBracket_19 (nrw_z (by omega)) ?_
      exact ⟨by unfold bI; first | (rw [if_pos (by omega)]; done) | (rw [if_neg (by omega)]; done), rfl⟩

set_option maxRecDepth 100000 in
set_option maxHeartbeats 4000000 in
theorem c_X5_isLetter {l : Launch} {Γ : JG} {ad : Nat → Nat} {E : Nat → va_E} {c : Int} (hc : -2147483648 ≤ c ∧ c < 2147483648) : JM l Γ yX5_isLetter cX5_isLetter 1 (some .boolean) 0 0 0 0 ad 95 E [.int (jI c)] (pP (bI (ltr c)) E) := by
  refine JM_intro (own := RX5) [some (.int (jI c))] rfl rfl rfl (Nat.le_of_ble_eq_true rfl) ?_
  intro Ω X R hin
  refine J_iload_n (q := 1) X dX5_isLetter_0 rfl rfl ?_
  refine J_bipush (q := 3) X dX5_isLetter_1 rfl (by decide) ?_
  refine J_icmp_lt (q := 6) (tgt := 16) X dX5_isLetter_3 (by decide) rfl (by omega) (by omega) (fun cq3 => ?_) (fun cq3 => ?_)
  · refine J_iconst (q := 17) X dX5_isLetter_16 rfl ?_
    refine J_zret X R dX5_isLetter_17 (nrw_z (by omega)) ?_
    exact ⟨by unfold bI; first | (rw [if_pos (by omega)]; done) | (rw [if_neg (by omega)]; done), rfl⟩
  · refine J_iload_n (q := 7) X dX5_isLetter_6 rfl rfl ?_
    refine J_bipush (q := 9) X dX5_isLetter_7 rfl (by decide) ?_
    refine J_icmp_gt (q := 12) (tgt := 16) X dX5_isLetter_9 (by decide) rfl (by omega) (by omega) (fun cq9 => ?_) (fun cq9 => ?_)
    · refine J_iconst (q := 17) X dX5_isLetter_16 rfl ?_
      refine J_zret X R dX5_isLetter_17 (nrw_z (by omega)) ?_
      exact ⟨by unfold bI; first | (rw [if_pos (by omega)]; done) | (rw [if_neg (by omega)]; done), rfl⟩
    · refine J_iconst (q := 13) X dX5_isLetter_12 rfl ?_
      refine J_goto (q := 17) X dX5_isLetter_13 (by decide) ?_
      refine J_zret X R dX5_isLetter_17 (nrw_z (by omega)) ?_
      exact ⟨by unfold bI; first | (rw [if_pos (by omega)]; done) | (rw [if_neg (by omega)]; done), rfl⟩

set_option maxRecDepth 100000 in
set_option maxHeartbeats 4000000 in
theorem c_X5_isSign {l : Launch} {Γ : JG} {ad : Nat → Nat} {E : Nat → va_E} {c : Int} (hc : -2147483648 ≤ c ∧ c < 2147483648) : JM l Γ yX5_isSign cX5_isSign 1 (some .boolean) 2 40 0 0 ad 95 E [.int (jI c)] (pP (bI (sgn c)) E) := by
  refine JM_intro (own := RX5) [some (.int (jI c))] rfl rfl rfl (Nat.le_of_ble_eq_true rfl) ?_
  intro Ω X R hin
  refine J_iload_n (q := 1) X dX5_isSign_0 rfl rfl ?_
  refine J_callP (q := 4) (jrS X mX5_9 dX5_isSign_1 (c_X5_isBracket (by omega)) rfl rfl (Nat.le_of_ble_eq_true rfl) (by decide)) rfl ?_
  refine J_if_neB (q := 7) (tgt := 20) X dX5_isSign_4 (by decide) rfl (fun cq4 => ?_) (fun cq4 => ?_)
  · refine J_iconst (q := 21) X dX5_isSign_20 rfl ?_
    refine J_goto (q := 25) X dX5_isSign_21 (by decide) ?_
    refine J_zret X R dX5_isSign_25 (nrw_z (by omega)) ?_
    exact ⟨by unfold bI; first | (rw [if_pos (by omega)]; done) | (rw [if_neg (by omega)]; done), rfl⟩
  · refine J_iload_n (q := 8) X dX5_isSign_7 rfl rfl ?_
    refine J_callP (q := 11) (jrS X mX5_15 dX5_isSign_8 (c_X5_isLetter (by omega)) rfl rfl (Nat.le_of_ble_eq_true rfl) (by decide)) rfl ?_
    refine J_if_neB (q := 14) (tgt := 20) X dX5_isSign_11 (by decide) rfl (fun cq11 => ?_) (fun cq11 => ?_)
    · refine J_iconst (q := 21) X dX5_isSign_20 rfl ?_
      refine J_goto (q := 25) X dX5_isSign_21 (by decide) ?_
      refine J_zret X R dX5_isSign_25 (nrw_z (by omega)) ?_
      exact ⟨by unfold bI; first | (rw [if_pos (by omega)]; done) | (rw [if_neg (by omega)]; done), rfl⟩
    · refine J_iload_n (q := 15) X dX5_isSign_14 rfl rfl ?_
      refine J_bipush (q := 17) X dX5_isSign_15 rfl (by decide) ?_
      refine J_icmp_ne (q := 20) (tgt := 24) X dX5_isSign_17 (by decide) rfl (by omega) (by omega) (fun cq17 => ?_) (fun cq17 => ?_)
      · refine J_iconst (q := 25) X dX5_isSign_24 rfl ?_
        refine J_zret X R dX5_isSign_25 (nrw_z (by omega)) ?_
        exact ⟨by unfold bI; first | (rw [if_pos (by omega)]; done) | (rw [if_neg (by omega)]; done), rfl⟩
      · refine J_iconst (q := 21) X dX5_isSign_20 rfl ?_
        refine J_goto (q := 25) X dX5_isSign_21 (by decide) ?_
        refine J_zret X R dX5_isSign_25 (nrw_z (by omega)) ?_
        exact ⟨by unfold bI; first | (rw [if_pos (by omega)]; done) | (rw [if_neg (by omega)]; done), rfl⟩

set_option maxRecDepth 100000 in
set_option maxHeartbeats 4000000 in
theorem c_X8_isFigure {l : Launch} {Γ : JG} {ad : Nat → Nat} {E : Nat → va_E} {c : Int} (hc : -2147483648 ≤ c ∧ c < 2147483648) : JM l Γ yX8_isFigure cX8_isFigure 1 (some .boolean) 0 0 0 0 ad 95 E [.int (jI c)] (pP (bI (fig c)) E) := by
  refine JM_intro (own := RX8) [some (.int (jI c))] rfl rfl rfl (Nat.le_of_ble_eq_true rfl) ?_
  intro Ω X R hin
  refine J_iload_n (q := 1) X dX8_isFigure_0 rfl rfl ?_
  refine J_bipush (q := 3) X dX8_isFigure_1 rfl (by decide) ?_
  refine J_icmp_lt (q := 6) (tgt := 16) X dX8_isFigure_3 (by decide) rfl (by omega) (by omega) (fun cq3 => ?_) (fun cq3 => ?_)
  · refine J_iconst (q := 17) X dX8_isFigure_16 rfl ?_
    refine J_zret X R dX8_isFigure_17 (nrw_z (by omega)) ?_
    exact ⟨by unfold bI; first | (rw [if_pos (by omega)]; done) | (rw [if_neg (by omega)]; done), rfl⟩
  · refine J_iload_n (q := 7) X dX8_isFigure_6 rfl rfl ?_
    refine J_bipush (q := 9) X dX8_isFigure_7 rfl (by decide) ?_
    refine J_icmp_gt (q := 12) (tgt := 16) X dX8_isFigure_9 (by decide) rfl (by omega) (by omega) (fun cq9 => ?_) (fun cq9 => ?_)
    · refine J_iconst (q := 17) X dX8_isFigure_16 rfl ?_
      refine J_zret X R dX8_isFigure_17 (nrw_z (by omega)) ?_
      exact ⟨by unfold bI; first | (rw [if_pos (by omega)]; done) | (rw [if_neg (by omega)]; done), rfl⟩
    · refine J_iconst (q := 13) X dX8_isFigure_12 rfl ?_
      refine J_goto (q := 17) X dX8_isFigure_13 (by decide) ?_
      refine J_zret X R dX8_isFigure_17 (nrw_z (by omega)) ?_
      exact ⟨by unfold bI; first | (rw [if_pos (by omega)]; done) | (rw [if_neg (by omega)]; done), rfl⟩

set_option maxRecDepth 100000 in
set_option maxHeartbeats 4000000 in
theorem c_X9_hasSheet {l : Launch} {Γ : JG} {ad : Nat → Nat} {E : Nat → va_E} {k : Int} (hk : -2147483648 ≤ k ∧ k < 2147483648) : JM l Γ yX9_hasSheet cX9_hasSheet 1 (some .boolean) 0 0 0 0 ad 95 E [.int (jI k)] (pP (bI (0 ≤ k ∧ k < 4)) E) := by
  refine JM_intro (own := RX9) [some (.int (jI k))] rfl rfl rfl (Nat.le_of_ble_eq_true rfl) ?_
  intro Ω X R hin
  refine J_iload_n (q := 1) X dX9_hasSheet_0 rfl rfl ?_
  refine J_if_lt (q := 4) (tgt := 13) X dX9_hasSheet_1 (by decide) rfl (by omega) (fun cq1 => ?_) (fun cq1 => ?_)
  · refine J_iconst (q := 14) X dX9_hasSheet_13 rfl ?_
    refine J_zret X R dX9_hasSheet_14 (nrw_z (by omega)) ?_
    exact ⟨by unfold bI; first | (rw [if_pos (by omega)]; done) | (rw [if_neg (by omega)]; done), rfl⟩
  · refine J_iload_n (q := 5) X dX9_hasSheet_4 rfl rfl ?_
    refine J_iconst (q := 6) X dX9_hasSheet_5 rfl ?_
    refine J_icmp_ge (q := 9) (tgt := 13) X dX9_hasSheet_6 (by decide) rfl (by omega) (by omega) (fun cq6 => ?_) (fun cq6 => ?_)
    · refine J_iconst (q := 14) X dX9_hasSheet_13 rfl ?_
      refine J_zret X R dX9_hasSheet_14 (nrw_z (by omega)) ?_
      exact ⟨by unfold bI; first | (rw [if_pos (by omega)]; done) | (rw [if_neg (by omega)]; done), rfl⟩
    · refine J_iconst (q := 10) X dX9_hasSheet_9 rfl ?_
      refine J_goto (q := 14) X dX9_hasSheet_10 (by decide) ?_
      refine J_zret X R dX9_hasSheet_14 (nrw_z (by omega)) ?_
      exact ⟨by unfold bI; first | (rw [if_pos (by omega)]; done) | (rw [if_neg (by omega)]; done), rfl⟩

set_option maxRecDepth 100000 in
set_option maxHeartbeats 4000000 in
theorem c_X9_isLane {l : Launch} {Γ : JG} {ad : Nat → Nat} {E : Nat → va_E} {k : Int} (hk : -2147483648 ≤ k ∧ k < 2147483648) : JM l Γ yX9_isLane cX9_isLane 1 (some .boolean) 0 0 0 0 ad 95 E [.int (jI k)] (pP (bI (0 ≤ k ∧ k < 3)) E) := by
  refine JM_intro (own := RX9) [some (.int (jI k))] rfl rfl rfl (Nat.le_of_ble_eq_true rfl) ?_
  intro Ω X R hin
  refine J_iload_n (q := 1) X dX9_isLane_0 rfl rfl ?_
  refine J_if_lt (q := 4) (tgt := 13) X dX9_isLane_1 (by decide) rfl (by omega) (fun cq1 => ?_) (fun cq1 => ?_)
  · refine J_iconst (q := 14) X dX9_isLane_13 rfl ?_
    refine J_zret X R dX9_isLane_14 (nrw_z (by omega)) ?_
    exact ⟨by unfold bI; first | (rw [if_pos (by omega)]; done) | (rw [if_neg (by omega)]; done), rfl⟩
  · refine J_iload_n (q := 5) X dX9_isLane_4 rfl rfl ?_
    refine J_iconst (q := 6) X dX9_isLane_5 rfl ?_
    refine J_icmp_ge (q := 9) (tgt := 13) X dX9_isLane_6 (by decide) rfl (by omega) (by omega) (fun cq6 => ?_) (fun cq6 => ?_)
    · refine J_iconst (q := 14) X dX9_isLane_13 rfl ?_
      refine J_zret X R dX9_isLane_14 (nrw_z (by omega)) ?_
      exact ⟨by unfold bI; first | (rw [if_pos (by omega)]; done) | (rw [if_neg (by omega)]; done), rfl⟩
    · refine J_iconst (q := 10) X dX9_isLane_9 rfl ?_
      refine J_goto (q := 14) X dX9_isLane_10 (by decide) ?_
      refine J_zret X R dX9_isLane_14 (nrw_z (by omega)) ?_
      exact ⟨by unfold bI; first | (rw [if_pos (by omega)]; done) | (rw [if_neg (by omega)]; done), rfl⟩

set_option maxRecDepth 100000 in
set_option maxHeartbeats 4000000 in
theorem c_X5_kindOf {l : Launch} {Γ : JG} {ad : Nat → Nat} {E : Nat → va_E} {c : Int} (hc : -2147483648 ≤ c ∧ c < 2147483648) : JM l Γ yX5_kindOf cX5_kindOf 1 (some .int) 0 0 0 0 ad 95 E [.int (jI c)] (pP (knd c) E) := by
  refine JM_intro (own := RX5) [some (.int (jI c))] rfl rfl rfl (Nat.le_of_ble_eq_true rfl) ?_
  intro Ω X R hin
  refine J_iload_n (q := 1) X dX5_kindOf_0 rfl rfl ?_
  rcases (show (c ≠ 40 ∧ c ≠ 41 ∧ c ≠ 91 ∧ c ≠ 93 ∧ c ≠ 123 ∧ c ≠ 125) ∨ c = 40 ∨ c = 41 ∨ c = 91 ∨ c = 93 ∨ c = 123 ∨ c = 125 by omega) with hsw | hsw | hsw | hsw | hsw | hsw | hsw
  · refine J_lookup (tgt := 66) (off := 65) X dX5_kindOf_1 (by decide) (by omega) (by simp only [Op.lookupswitch.offset_cons, Op.lookupswitch.offset]; first | (repeat rw [if_neg (by omega)]) | simp; done) (by decide) ?_
    refine J_bipush (q := 68) X dX5_kindOf_66 rfl (by decide) ?_
    refine J_iret X R dX5_kindOf_68 ?_
    exact ⟨by unfold knd; first | (rw [if_pos (by omega)]; done) | (rw [if_neg (by omega), if_pos (by omega)]; done) | (rw [if_neg (by omega), if_neg (by omega), if_pos (by omega)]; done) | (rw [if_neg (by omega), if_neg (by omega), if_neg (by omega)]; done), rfl⟩
  · refine J_lookup (tgt := 60) (off := 59) X dX5_kindOf_1 (by decide) (by omega) (by rw [hsw]; decide) (by decide) ?_
    refine J_iconst (q := 61) X dX5_kindOf_60 rfl ?_
    refine J_iret X R dX5_kindOf_61 ?_
    exact ⟨by unfold knd; first | (rw [if_pos (by omega)]; done) | (rw [if_neg (by omega), if_pos (by omega)]; done) | (rw [if_neg (by omega), if_neg (by omega), if_pos (by omega)]; done) | (rw [if_neg (by omega), if_neg (by omega), if_neg (by omega)]; done), rfl⟩
  · refine J_lookup (tgt := 60) (off := 59) X dX5_kindOf_1 (by decide) (by omega) (by rw [hsw]; decide) (by decide) ?_
    refine J_iconst (q := 61) X dX5_kindOf_60 rfl ?_
    refine J_iret X R dX5_kindOf_61 ?_
    exact ⟨by unfold knd; first | (rw [if_pos (by omega)]; done) | (rw [if_neg (by omega), if_pos (by omega)]; done) | (rw [if_neg (by omega), if_neg (by omega), if_pos (by omega)]; done) | (rw [if_neg (by omega), if_neg (by omega), if_neg (by omega)]; done), rfl⟩
  · refine J_lookup (tgt := 62) (off := 61) X dX5_kindOf_1 (by decide) (by omega) (by rw [hsw]; decide) (by decide) ?_
    refine J_iconst (q := 63) X dX5_kindOf_62 rfl ?_
    refine J_iret X R dX5_kindOf_63 ?_
    exact ⟨by unfold knd; first | (rw [if_pos (by omega)]; done) | (rw [if_neg (by omega), if_pos (by omega)]; done) | (rw [if_neg (by omega), if_neg (by omega), if_pos (by omega)]; done) | (rw [if_neg (by omega), if_neg (by omega), if_neg (by omega)]; done), rfl⟩
  · refine J_lookup (tgt := 62) (off := 61) X dX5_kindOf_1 (by decide) (by omega) (by rw [hsw]; decide) (by decide) ?_
    refine J_iconst (q := 63) X dX5_kindOf_62 rfl ?_
    refine J_iret X R dX5_kindOf_63 ?_
    exact ⟨by unfold knd; first | (rw [if_pos (by omega)]; done) | (rw [if_neg (by omega), if_pos (by omega)]; done) | (rw [if_neg (by omega), if_neg (by omega), if_pos (by omega)]; done) | (rw [if_neg (by omega), if_neg (by omega), if_neg (by omega)]; done), rfl⟩
  · refine J_lookup (tgt := 64) (off := 63) X dX5_kindOf_1 (by decide) (by omega) (by rw [hsw]; decide) (by decide) ?_
    refine J_iconst (q := 65) X dX5_kindOf_64 rfl ?_
    refine J_iret X R dX5_kindOf_65 ?_
    exact ⟨by unfold knd; first | (rw [if_pos (by omega)]; done) | (rw [if_neg (by omega), if_pos (by omega)]; done) | (rw [if_neg (by omega), if_neg (by omega), if_pos (by omega)]; done) | (rw [if_neg (by omega), if_neg (by omega), if_neg (by omega)]; done), rfl⟩
  · refine J_lookup (tgt := 64) (off := 63) X dX5_kindOf_1 (by decide) (by omega) (by rw [hsw]; decide) (by decide) ?_
    refine J_iconst (q := 65) X dX5_kindOf_64 rfl ?_
    refine J_iret X R dX5_kindOf_65 ?_
    exact ⟨by unfold knd; first | (rw [if_pos (by omega)]; done) | (rw [if_neg (by omega), if_pos (by omega)]; done) | (rw [if_neg (by omega), if_neg (by omega), if_pos (by omega)]; done) | (rw [if_neg (by omega), if_neg (by omega), if_neg (by omega)]; done), rfl⟩

set_option maxRecDepth 100000 in
set_option maxHeartbeats 4000000 in
theorem c_X5_turned {l : Launch} {Γ : JG} {ad : Nat → Nat} {E : Nat → va_E} {c : Int} (hc : -2147483648 ≤ c ∧ c < 2147483648) : JM l Γ yX5_turned cX5_turned 1 (some .int) 0 0 0 0 ad 95 E [.int (jI c)] (pP (trn c) E) := by
  refine JM_intro (own := RX5) [some (.int (jI c))] rfl rfl rfl (Nat.le_of_ble_eq_true rfl) ?_
  intro Ω X R hin
  refine J_iload_n (q := 1) X dX5_turned_0 rfl rfl ?_
  rcases (show (c ≠ 40 ∧ c ≠ 41 ∧ c ≠ 91 ∧ c ≠ 93 ∧ c ≠ 123 ∧ c ≠ 125) ∨ c = 40 ∨ c = 41 ∨ c = 91 ∨ c = 93 ∨ c = 123 ∨ c = 125 by omega) with hsw | hsw | hsw | hsw | hsw | hsw | hsw
  · refine J_lookup (tgt := 78) (off := 77) X dX5_turned_1 (by decide) (by omega) (by simp only [Op.lookupswitch.offset_cons, Op.lookupswitch.offset]; first | (repeat rw [if_neg (by omega)]) | simp; done) (by decide) ?_
    refine J_iload_n (q := 79) X dX5_turned_78 rfl rfl ?_
    refine J_iret X R dX5_turned_79 ?_
    exact ⟨by unfold trn; repeat (first | (rw [if_pos (by omega)]; done) | rw [if_neg (by omega)]), rfl⟩
  · refine J_lookup (tgt := 60) (off := 59) X dX5_turned_1 (by decide) (by omega) (by rw [hsw]; decide) (by decide) ?_
    refine J_bipush (q := 62) X dX5_turned_60 rfl (by decide) ?_
    refine J_iret X R dX5_turned_62 ?_
    exact ⟨by unfold trn; repeat (first | (rw [if_pos (by omega)]; done) | rw [if_neg (by omega)]), rfl⟩
  · refine J_lookup (tgt := 63) (off := 62) X dX5_turned_1 (by decide) (by omega) (by rw [hsw]; decide) (by decide) ?_
    refine J_bipush (q := 65) X dX5_turned_63 rfl (by decide) ?_
    refine J_iret X R dX5_turned_65 ?_
    exact ⟨by unfold trn; repeat (first | (rw [if_pos (by omega)]; done) | rw [if_neg (by omega)]), rfl⟩
  · refine J_lookup (tgt := 66) (off := 65) X dX5_turned_1 (by decide) (by omega) (by rw [hsw]; decide) (by decide) ?_
    refine J_bipush (q := 68) X dX5_turned_66 rfl (by decide) ?_
    refine J_iret X R dX5_turned_68 ?_
    exact ⟨by unfold trn; repeat (first | (rw [if_pos (by omega)]; done) | rw [if_neg (by omega)]), rfl⟩
  · refine J_lookup (tgt := 69) (off := 68) X dX5_turned_1 (by decide) (by omega) (by rw [hsw]; decide) (by decide) ?_
    refine J_bipush (q := 71) X dX5_turned_69 rfl (by decide) ?_
    refine J_iret X R dX5_turned_71 ?_
    exact ⟨by unfold trn; repeat (first | (rw [if_pos (by omega)]; done) | rw [if_neg (by omega)]), rfl⟩
  · refine J_lookup (tgt := 72) (off := 71) X dX5_turned_1 (by decide) (by omega) (by rw [hsw]; decide) (by decide) ?_
    refine J_bipush (q := 74) X dX5_turned_72 rfl (by decide) ?_
    refine J_iret X R dX5_turned_74 ?_
    exact ⟨by unfold trn; repeat (first | (rw [if_pos (by omega)]; done) | rw [if_neg (by omega)]), rfl⟩
  · refine J_lookup (tgt := 75) (off := 74) X dX5_turned_1 (by decide) (by omega) (by rw [hsw]; decide) (by decide) ?_
    refine J_bipush (q := 77) X dX5_turned_75 rfl (by decide) ?_
    refine J_iret X R dX5_turned_77 ?_
    exact ⟨by unfold trn; repeat (first | (rw [if_pos (by omega)]; done) | rw [if_neg (by omega)]), rfl⟩

set_option maxRecDepth 100000 in
set_option maxHeartbeats 4000000 in
theorem c_X9_oneIf {l : Launch} {Γ : JG} {ad : Nat → Nat} {E : Nat → va_E} {x : Int} (hx : x = 0 ∨ x = 1) : JM l Γ yX9_oneIf cX9_oneIf 1 (some .int) 0 0 0 0 ad 95 E [.int (jI x)] (pP x E) := by
  refine JM_intro (own := RX9) [some (.int (jI x))] rfl rfl rfl (Nat.le_of_ble_eq_true rfl) ?_
  intro Ω X R hin
  refine J_iload_n (q := 1) X dX9_oneIf_0 rfl rfl ?_
  refine J_if_eq (q := 4) (tgt := 8) X dX9_oneIf_1 (by decide) rfl (by omega) (fun cq1 => ?_) (fun cq1 => ?_)
  · refine J_iconst (q := 9) X dX9_oneIf_8 rfl ?_
    refine J_iret X R dX9_oneIf_9 ?_
    first | exact ⟨by rw [show x = 0 by omega], rfl⟩ | exact ⟨by rw [show x = 1 by omega], rfl⟩
  · refine J_iconst (q := 5) X dX9_oneIf_4 rfl ?_
    refine J_goto (q := 9) X dX9_oneIf_5 (by decide) ?_
    refine J_iret X R dX9_oneIf_9 ?_
    first | exact ⟨by rw [show x = 0 by omega], rfl⟩ | exact ⟨by rw [show x = 1 by omega], rfl⟩
