/-! the plain one: its row against a state's -/
abbrev MS (g : Int → Int) (n : Int) (f : Int → Int) : Prop := g 60 = n ∧ ∀ j, 0 ≤ j → j < n → g j = f j
abbrev g0k (kd : Int) (g0 : Int → Int) : Int → Int := fun j => if kd = 3 ∨ kd = 0 then -4 else g0 j
abbrev nrm (kd : Int) (f g0 : Int → Int) (i : Int) (g : Int → Int) : Int → Int := fun j => if j < i then g j else if isK (f j % 128) kd then -4 else g0k kd g0 j
theorem PR_ext {kd : Int} {f : Int → Int} {n : Int} {g0 : Int → Int} {i top : Int} {h g g' : Int → Int} (hp : PR kd f n g0 i top h g) (e : ∀ j, 0 ≤ j → j < n → g' j = g j) : PR kd f n g0 i top h g' := ⟨hp.1, hp.2.1, fun j a b => by rw [e j a b]; exact hp.2.2 j a b⟩
theorem PR_n0 {kd : Int} {f : Int → Int} {n : Int} {g0 h : Int → Int} : PR kd f n (g0k kd g0) 0 0 h (nrm kd f g0 0 g0) := by
  refine ⟨rfl, fun t a b => by omega, fun j a b => ?_⟩
  show (if j < 0 then _ else _) = _
  rw [if_neg (by omega)]
  rfl
theorem lin_mono (f : Int → Int) {a b : Int} (h : 0 ≤ a) (hb : a ≤ b) : lin f a ≤ lin f b := by
  have : ∀ k : Nat, lin f a ≤ lin f (a + k) := by
    intro k
    induction k with
    | zero => simp
    | succ k ih =>
      have e : lin f (a + (k + 1 : Nat)) = lin f (a + k) + bI (f (a + k) % 128 = 47) := by
        show smI _ _ = _
        rw [show a + ((k + 1 : Nat) : Int) = (a + k) + 1 by omega, smI_succ _ (by omega)]
        rfl
      have := bI_bd (f (a + k) % 128 = 47)
      omega
  have h2 := this (b - a).toNat
  rw [show a + ((b - a).toNat : Int) = b by omega] at h2
  exact h2
theorem lin_succ (f : Int → Int) {a : Int} (h : 0 ≤ a) : lin f (a + 1) = lin f a + bI (f a % 128 = 47) := smI_succ _ h
set_option maxRecDepth 100000 in
set_option maxHeartbeats 4000000 in
theorem c_X10_in {l : Launch} {Γ : JG} {ad : Nat → Nat} {E : Nat → va_E} {a b c : Int} (ha : -1099511627776 ≤ a ∧ a < 1099511627776) (hb : -1099511627776 ≤ b ∧ b < 1099511627776) (hc : -1099511627776 ≤ c ∧ c < 1099511627776) : JM l Γ yX10_in cX10_in 6 (some .boolean) 0 0 0 0 ad 95 E [.long (jL a), .long (jL b), .long (jL c)] (pP (bI (b ≤ a ∧ a ≤ c)) E) := by
  refine JM_intro (own := RX10) [some (.long (jL a)), none, some (.long (jL b)), none, some (.long (jL c)), none] rfl rfl rfl (Nat.le_of_ble_eq_true rfl) ?_
  intro Ω X R hin
  refine J_lload_n (q := 1) X dX10_in_0 rfl rfl ?_
  refine J_lload_n (q := 2) X dX10_in_1 rfl rfl ?_
  refine J_lcmp (q := 3) X dX10_in_2 rfl (by omega) (by omega) (fun wq2 hwq2 => ?_)
  refine J_if_lt (q := 6) (tgt := 17) X dX10_in_3 (by decide) rfl (by omega) (fun cq3 => ?_) (fun cq3 => ?_)
  · refine J_iconst (q := 18) X dX10_in_17 rfl ?_
    refine J_zret X R dX10_in_18 (nrw_z (by first | omega | exact bI_bd _)) ?_
    exact ⟨by unfold bI; first | (rw [if_pos (by omega)]; done) | (rw [if_neg (by omega)]; done), rfl⟩
  · refine J_lload_n (q := 7) X dX10_in_6 rfl rfl ?_
    refine J_lload (q := 9) X dX10_in_7 rfl rfl ?_
    refine J_lcmp (q := 10) X dX10_in_9 rfl (by omega) (by omega) (fun wq9 hwq9 => ?_)
    refine J_if_gt (q := 13) (tgt := 17) X dX10_in_10 (by decide) rfl (by omega) (fun cq10 => ?_) (fun cq10 => ?_)
    · refine J_iconst (q := 18) X dX10_in_17 rfl ?_
      refine J_zret X R dX10_in_18 (nrw_z (by first | omega | exact bI_bd _)) ?_
      exact ⟨by unfold bI; first | (rw [if_pos (by omega)]; done) | (rw [if_neg (by omega)]; done), rfl⟩
    · refine J_iconst (q := 14) X dX10_in_13 rfl ?_
      refine J_goto (q := 18) X dX10_in_14 (by decide) ?_
      refine J_zret X R dX10_in_18 (nrw_z (by first | omega | exact bI_bd _)) ?_
      exact ⟨by unfold bI; first | (rw [if_pos (by omega)]; done) | (rw [if_neg (by omega)]; done), rfl⟩

set_option maxRecDepth 100000 in
set_option maxHeartbeats 4000000 in
theorem c_X10_isOpen {l : Launch} {Γ : JG} {ad : Nat → Nat} {E : Nat → va_E} {c : Int} (hc : -2147483648 ≤ c ∧ c < 2147483648) : JM l Γ yX10_isOpen cX10_isOpen 1 (some .boolean) 0 0 0 0 ad 95 E [.int (jI c)] (pP (bI (opn c)) E) := by
  refine JM_intro (own := RX10) [some (.int (jI c))] rfl rfl rfl (Nat.le_of_ble_eq_true rfl) ?_
  intro Ω X R hin
  refine J_iload_n (q := 1) X dX10_isOpen_0 rfl rfl ?_
  refine J_bipush (q := 3) X dX10_isOpen_1 rfl (by decide) ?_
  refine J_icmp_eq (q := 6) (tgt := 18) X dX10_isOpen_3 (by decide) rfl (by omega) (by omega) (fun cq3 => ?_) (fun cq3 => ?_)
  · refine J_iconst (q := 19) X dX10_isOpen_18 rfl ?_
    refine J_goto (q := 23) X dX10_isOpen_19 (by decide) ?_
    refine J_zret X R dX10_isOpen_23 (nrw_z (by first | omega | exact bI_bd _)) ?_
    exact ⟨by unfold bI; first | (rw [if_pos (by omega)]; done) | (rw [if_neg (by omega)]; done), rfl⟩
  · refine J_iload_n (q := 7) X dX10_isOpen_6 rfl rfl ?_
    refine J_bipush (q := 9) X dX10_isOpen_7 rfl (by decide) ?_
    refine J_icmp_eq (q := 12) (tgt := 18) X dX10_isOpen_9 (by decide) rfl (by omega) (by omega) (fun cq9 => ?_) (fun cq9 => ?_)
    · refine J_iconst (q := 19) X dX10_isOpen_18 rfl ?_
      refine J_goto (q := 23) X dX10_isOpen_19 (by decide) ?_
      refine J_zret X R dX10_isOpen_23 (nrw_z (by first | omega | exact bI_bd _)) ?_
      exact ⟨by unfold bI; first | (rw [if_pos (by omega)]; done) | (rw [if_neg (by omega)]; done), rfl⟩
    · refine J_iload_n (q := 13) X dX10_isOpen_12 rfl rfl ?_
      refine J_bipush (q := 15) X dX10_isOpen_13 rfl (by decide) ?_
      refine J_icmp_ne (q := 18) (tgt := 22) X dX10_isOpen_15 (by decide) rfl (by omega) (by omega) (fun cq15 => ?_) (fun cq15 => ?_)
      · refine J_iconst (q := 23) X dX10_isOpen_22 rfl ?_
        refine J_zret X R dX10_isOpen_23 (nrw_z (by first | omega | exact bI_bd _)) ?_
        exact ⟨by unfold bI; first | (rw [if_pos (by omega)]; done) | (rw [if_neg (by omega)]; done), rfl⟩
      · refine J_iconst (q := 19) X dX10_isOpen_18 rfl ?_
        refine J_goto (q := 23) X dX10_isOpen_19 (by decide) ?_
        refine J_zret X R dX10_isOpen_23 (nrw_z (by first | omega | exact bI_bd _)) ?_
        exact ⟨by unfold bI; first | (rw [if_pos (by omega)]; done) | (rw [if_neg (by omega)]; done), rfl⟩

set_option maxRecDepth 100000 in
set_option maxHeartbeats 4000000 in
theorem c_X10_isClose {l : Launch} {Γ : JG} {ad : Nat → Nat} {E : Nat → va_E} {c : Int} (hc : -2147483648 ≤ c ∧ c < 2147483648) : JM l Γ yX10_isClose cX10_isClose 1 (some .boolean) 0 0 0 0 ad 95 E [.int (jI c)] (pP (bI (clo c)) E) := by
  refine JM_intro (own := RX10) [some (.int (jI c))] rfl rfl rfl (Nat.le_of_ble_eq_true rfl) ?_
  intro Ω X R hin
  refine J_iload_n (q := 1) X dX10_isClose_0 rfl rfl ?_
  refine J_bipush (q := 3) X dX10_isClose_1 rfl (by decide) ?_
  refine J_icmp_eq (q := 6) (tgt := 18) X dX10_isClose_3 (by decide) rfl (by omega) (by omega) (fun cq3 => ?_) (fun cq3 => ?_)
  · refine J_iconst (q := 19) X dX10_isClose_18 rfl ?_
    refine J_goto (q := 23) X dX10_isClose_19 (by decide) ?_
    refine J_zret X R dX10_isClose_23 (nrw_z (by first | omega | exact bI_bd _)) ?_
    exact ⟨by unfold bI; first | (rw [if_pos (by omega)]; done) | (rw [if_neg (by omega)]; done), rfl⟩
  · refine J_iload_n (q := 7) X dX10_isClose_6 rfl rfl ?_
    refine J_bipush (q := 9) X dX10_isClose_7 rfl (by decide) ?_
    refine J_icmp_eq (q := 12) (tgt := 18) X dX10_isClose_9 (by decide) rfl (by omega) (by omega) (fun cq9 => ?_) (fun cq9 => ?_)
    · refine J_iconst (q := 19) X dX10_isClose_18 rfl ?_
      refine J_goto (q := 23) X dX10_isClose_19 (by decide) ?_
      refine J_zret X R dX10_isClose_23 (nrw_z (by first | omega | exact bI_bd _)) ?_
      exact ⟨by unfold bI; first | (rw [if_pos (by omega)]; done) | (rw [if_neg (by omega)]; done), rfl⟩
    · refine J_iload_n (q := 13) X dX10_isClose_12 rfl rfl ?_
      refine J_bipush (q := 15) X dX10_isClose_13 rfl (by decide) ?_
      refine J_icmp_ne (q := 18) (tgt := 22) X dX10_isClose_15 (by decide) rfl (by omega) (by omega) (fun cq15 => ?_) (fun cq15 => ?_)
      · refine J_iconst (q := 23) X dX10_isClose_22 rfl ?_
        refine J_zret X R dX10_isClose_23 (nrw_z (by first | omega | exact bI_bd _)) ?_
        exact ⟨by unfold bI; first | (rw [if_pos (by omega)]; done) | (rw [if_neg (by omega)]; done), rfl⟩
      · refine J_iconst (q := 19) X dX10_isClose_18 rfl ?_
        refine J_goto (q := 23) X dX10_isClose_19 (by decide) ?_
        refine J_zret X R dX10_isClose_23 (nrw_z (by first | omega | exact bI_bd _)) ?_
        exact ⟨by unfold bI; first | (rw [if_pos (by omega)]; done) | (rw [if_neg (by omega)]; done), rfl⟩

set_option maxRecDepth 100000 in
set_option maxHeartbeats 4000000 in
theorem c_X10_kindOf {l : Launch} {Γ : JG} {ad : Nat → Nat} {E : Nat → va_E} {c : Int} (hc : -2147483648 ≤ c ∧ c < 2147483648) : JM l Γ yX10_kindOf cX10_kindOf 1 (some .int) 0 0 0 0 ad 95 E [.int (jI c)] (pP (knd c) E) := by
  refine JM_intro (own := RX10) [some (.int (jI c))] rfl rfl rfl (Nat.le_of_ble_eq_true rfl) ?_
  intro Ω X R hin
  refine J_iload_n (q := 1) X dX10_kindOf_0 rfl rfl ?_
  refine J_bipush (q := 3) X dX10_kindOf_1 rfl (by decide) ?_
  refine J_icmp_eq (q := 6) (tgt := 12) X dX10_kindOf_3 (by decide) rfl (by omega) (by omega) (fun cq3 => ?_) (fun cq3 => ?_)
  · refine J_iconst (q := 13) X dX10_kindOf_12 rfl ?_
    refine J_goto (q := 50) X dX10_kindOf_13 (by decide) ?_
    refine J_iret X R dX10_kindOf_50 ?_
    exact ⟨by unfold knd; first | (rw [if_pos (by omega)]; done) | (rw [if_neg (by omega), if_pos (by omega)]; done) | (rw [if_neg (by omega), if_neg (by omega), if_pos (by omega)]; done) | (rw [if_neg (by omega), if_neg (by omega), if_neg (by omega)]; done), rfl⟩
  · refine J_iload_n (q := 7) X dX10_kindOf_6 rfl rfl ?_
    refine J_bipush (q := 9) X dX10_kindOf_7 rfl (by decide) ?_
    refine J_icmp_ne (q := 12) (tgt := 16) X dX10_kindOf_9 (by decide) rfl (by omega) (by omega) (fun cq9 => ?_) (fun cq9 => ?_)
    · refine J_iload_n (q := 17) X dX10_kindOf_16 rfl rfl ?_
      refine J_bipush (q := 19) X dX10_kindOf_17 rfl (by decide) ?_
      refine J_icmp_eq (q := 22) (tgt := 28) X dX10_kindOf_19 (by decide) rfl (by omega) (by omega) (fun cq19 => ?_) (fun cq19 => ?_)
      · refine J_iconst (q := 29) X dX10_kindOf_28 rfl ?_
        refine J_goto (q := 50) X dX10_kindOf_29 (by decide) ?_
        refine J_iret X R dX10_kindOf_50 ?_
        exact ⟨by unfold knd; first | (rw [if_pos (by omega)]; done) | (rw [if_neg (by omega), if_pos (by omega)]; done) | (rw [if_neg (by omega), if_neg (by omega), if_pos (by omega)]; done) | (rw [if_neg (by omega), if_neg (by omega), if_neg (by omega)]; done), rfl⟩
      · refine J_iload_n (q := 23) X dX10_kindOf_22 rfl rfl ?_
        refine J_bipush (q := 25) X dX10_kindOf_23 rfl (by decide) ?_
        refine J_icmp_ne (q := 28) (tgt := 32) X dX10_kindOf_25 (by decide) rfl (by omega) (by omega) (fun cq25 => ?_) (fun cq25 => ?_)
        · refine J_iload_n (q := 33) X dX10_kindOf_32 rfl rfl ?_
          refine J_bipush (q := 35) X dX10_kindOf_33 rfl (by decide) ?_
          refine J_icmp_eq (q := 38) (tgt := 44) X dX10_kindOf_35 (by decide) rfl (by omega) (by omega) (fun cq35 => ?_) (fun cq35 => ?_)
          · refine J_iconst (q := 45) X dX10_kindOf_44 rfl ?_
            refine J_goto (q := 50) X dX10_kindOf_45 (by decide) ?_
            refine J_iret X R dX10_kindOf_50 ?_
            exact ⟨by unfold knd; first | (rw [if_pos (by omega)]; done) | (rw [if_neg (by omega), if_pos (by omega)]; done) | (rw [if_neg (by omega), if_neg (by omega), if_pos (by omega)]; done) | (rw [if_neg (by omega), if_neg (by omega), if_neg (by omega)]; done), rfl⟩
          · refine J_iload_n (q := 39) X dX10_kindOf_38 rfl rfl ?_
            refine J_bipush (q := 41) X dX10_kindOf_39 rfl (by decide) ?_
            refine J_icmp_ne (q := 44) (tgt := 48) X dX10_kindOf_41 (by decide) rfl (by omega) (by omega) (fun cq41 => ?_) (fun cq41 => ?_)
            · refine J_bipush (q := 50) X dX10_kindOf_48 rfl (by decide) ?_
              refine J_iret X R dX10_kindOf_50 ?_
              exact ⟨by unfold knd; first | (rw [if_pos (by omega)]; done) | (rw [if_neg (by omega), if_pos (by omega)]; done) | (rw [if_neg (by omega), if_neg (by omega), if_pos (by omega)]; done) | (rw [if_neg (by omega), if_neg (by omega), if_neg (by omega)]; done), rfl⟩
            · refine J_iconst (q := 45) X dX10_kindOf_44 rfl ?_
              refine J_goto (q := 50) X dX10_kindOf_45 (by decide) ?_
              refine J_iret X R dX10_kindOf_50 ?_
              exact ⟨by unfold knd; first | (rw [if_pos (by omega)]; done) | (rw [if_neg (by omega), if_pos (by omega)]; done) | (rw [if_neg (by omega), if_neg (by omega), if_pos (by omega)]; done) | (rw [if_neg (by omega), if_neg (by omega), if_neg (by omega)]; done), rfl⟩
        · refine J_iconst (q := 29) X dX10_kindOf_28 rfl ?_
          refine J_goto (q := 50) X dX10_kindOf_29 (by decide) ?_
          refine J_iret X R dX10_kindOf_50 ?_
          exact ⟨by unfold knd; first | (rw [if_pos (by omega)]; done) | (rw [if_neg (by omega), if_pos (by omega)]; done) | (rw [if_neg (by omega), if_neg (by omega), if_pos (by omega)]; done) | (rw [if_neg (by omega), if_neg (by omega), if_neg (by omega)]; done), rfl⟩
    · refine J_iconst (q := 13) X dX10_kindOf_12 rfl ?_
      refine J_goto (q := 50) X dX10_kindOf_13 (by decide) ?_
      refine J_iret X R dX10_kindOf_50 ?_
      exact ⟨by unfold knd; first | (rw [if_pos (by omega)]; done) | (rw [if_neg (by omega), if_pos (by omega)]; done) | (rw [if_neg (by omega), if_neg (by omega), if_pos (by omega)]; done) | (rw [if_neg (by omega), if_neg (by omega), if_neg (by omega)]; done), rfl⟩

set_option maxRecDepth 100000 in
set_option maxHeartbeats 4000000 in
theorem c_X10_isSign {l : Launch} {Γ : JG} {ad : Nat → Nat} {E : Nat → va_E} {c : Int} (hc : -2147483648 ≤ c ∧ c < 2147483648) : JM l Γ yX10_isSign cX10_isSign 1 (some .boolean) 1 25 0 0 ad 95 E [.int (jI c)] (pP (bI (sgn c)) E) := by
  refine JM_intro (own := RX10) [some (.int (jI c))] rfl rfl rfl (Nat.le_of_ble_eq_true rfl) ?_
  intro Ω X R hin
  have hkb := knd_brk c
  have hkd := knd_bd c
  refine J_iload_n (q := 1) X dX10_isSign_0 rfl rfl ?_
  refine J_callP (q := 4) (jrS X mX10_78 dX10_isSign_1 (c_X10_kindOf (by omega)) rfl rfl (Nat.le_of_ble_eq_true rfl) (by decide)) rfl ?_
  refine J_bipush (q := 6) X dX10_isSign_4 rfl (by decide) ?_
  refine J_icmp_ne (q := 9) (tgt := 29) X dX10_isSign_6 (by decide) rfl (by omega) (by omega) (fun cq6 => ?_) (fun cq6 => ?_)
  · refine J_iconst (q := 30) X dX10_isSign_29 rfl ?_
    refine J_goto (q := 34) X dX10_isSign_30 (by decide) ?_
    refine J_zret X R dX10_isSign_34 (nrw_z (by first | omega | exact bI_bd _)) ?_
    exact ⟨by unfold bI; first | (rw [if_pos (by omega)]; done) | (rw [if_neg (by omega)]; done), rfl⟩
  · refine J_iload_n (q := 10) X dX10_isSign_9 rfl rfl ?_
    refine J_i2l (q := 11) X dX10_isSign_10 rfl (by omega) ?_
    refine J_ldc2 (q := 14) X dX10_isSign_11 kX10_82 rfl ?_
    refine J_ldc2 (q := 17) X dX10_isSign_14 kX10_84 rfl ?_
    refine J_callP (q := 20) (jrS X mX10_61 dX10_isSign_17 (c_X10_in (by omega) (by omega) (by omega)) rfl rfl (Nat.le_of_ble_eq_true rfl) (by decide)) rfl ?_
    refine J_if_neB (q := 23) (tgt := 29) X dX10_isSign_20 (by decide) rfl (fun cq20 => ?_) (fun cq20 => ?_)
    · refine J_iconst (q := 30) X dX10_isSign_29 rfl ?_
      refine J_goto (q := 34) X dX10_isSign_30 (by decide) ?_
      refine J_zret X R dX10_isSign_34 (nrw_z (by first | omega | exact bI_bd _)) ?_
      exact ⟨by unfold bI; first | (rw [if_pos (by omega)]; done) | (rw [if_neg (by omega)]; done), rfl⟩
    · refine J_iload_n (q := 24) X dX10_isSign_23 rfl rfl ?_
      refine J_bipush (q := 26) X dX10_isSign_24 rfl (by decide) ?_
      refine J_icmp_ne (q := 29) (tgt := 33) X dX10_isSign_26 (by decide) rfl (by omega) (by omega) (fun cq26 => ?_) (fun cq26 => ?_)
      · refine J_iconst (q := 34) X dX10_isSign_33 rfl ?_
        refine J_zret X R dX10_isSign_34 (nrw_z (by first | omega | exact bI_bd _)) ?_
        exact ⟨by unfold bI; first | (rw [if_pos (by omega)]; done) | (rw [if_neg (by omega)]; done), rfl⟩
      · refine J_iconst (q := 30) X dX10_isSign_29 rfl ?_
        refine J_goto (q := 34) X dX10_isSign_30 (by decide) ?_
        refine J_zret X R dX10_isSign_34 (nrw_z (by first | omega | exact bI_bd _)) ?_
        exact ⟨by unfold bI; first | (rw [if_pos (by omega)]; done) | (rw [if_neg (by omega)]; done), rfl⟩

set_option maxRecDepth 100000 in
set_option maxHeartbeats 4000000 in
theorem c_X10_turned {l : Launch} {Γ : JG} {ad : Nat → Nat} {E : Nat → va_E} {c : Int} (hc : -2147483648 ≤ c ∧ c < 2147483648) : JM l Γ yX10_turned cX10_turned 1 (some .int) 0 0 0 0 ad 95 E [.int (jI c)] (pP (trn c) E) := by
  refine JM_intro (own := RX10) [some (.int (jI c))] rfl rfl rfl (Nat.le_of_ble_eq_true rfl) ?_
  intro Ω X R hin
  refine J_iload_n (q := 1) X dX10_turned_0 rfl rfl ?_
  rcases (show (c ≠ 40 ∧ c ≠ 41 ∧ c ≠ 91 ∧ c ≠ 93 ∧ c ≠ 123 ∧ c ≠ 125) ∨ c = 40 ∨ c = 41 ∨ c = 91 ∨ c = 93 ∨ c = 123 ∨ c = 125 by omega) with hsw | hsw | hsw | hsw | hsw | hsw | hsw
  · refine J_lookup (tgt := 78) (off := 77) X dX10_turned_1 (by decide) (by omega) (by simp only [Op.lookupswitch.offset_cons, Op.lookupswitch.offset]; first | (repeat rw [if_neg (by omega)]) | simp; done) (by decide) ?_
    refine J_iload_n (q := 79) X dX10_turned_78 rfl rfl ?_
    refine J_iret X R dX10_turned_79 ?_
    exact ⟨by unfold trn; repeat (first | (rw [if_pos (by omega)]; done) | rw [if_neg (by omega)]), rfl⟩
  · refine J_lookup (tgt := 60) (off := 59) X dX10_turned_1 (by decide) (by omega) (by rw [hsw]; decide) (by decide) ?_
    refine J_bipush (q := 62) X dX10_turned_60 rfl (by decide) ?_
    refine J_iret X R dX10_turned_62 ?_
    exact ⟨by unfold trn; repeat (first | (rw [if_pos (by omega)]; done) | rw [if_neg (by omega)]), rfl⟩
  · refine J_lookup (tgt := 63) (off := 62) X dX10_turned_1 (by decide) (by omega) (by rw [hsw]; decide) (by decide) ?_
    refine J_bipush (q := 65) X dX10_turned_63 rfl (by decide) ?_
    refine J_iret X R dX10_turned_65 ?_
    exact ⟨by unfold trn; repeat (first | (rw [if_pos (by omega)]; done) | rw [if_neg (by omega)]), rfl⟩
  · refine J_lookup (tgt := 66) (off := 65) X dX10_turned_1 (by decide) (by omega) (by rw [hsw]; decide) (by decide) ?_
    refine J_bipush (q := 68) X dX10_turned_66 rfl (by decide) ?_
    refine J_iret X R dX10_turned_68 ?_
    exact ⟨by unfold trn; repeat (first | (rw [if_pos (by omega)]; done) | rw [if_neg (by omega)]), rfl⟩
  · refine J_lookup (tgt := 69) (off := 68) X dX10_turned_1 (by decide) (by omega) (by rw [hsw]; decide) (by decide) ?_
    refine J_bipush (q := 71) X dX10_turned_69 rfl (by decide) ?_
    refine J_iret X R dX10_turned_71 ?_
    exact ⟨by unfold trn; repeat (first | (rw [if_pos (by omega)]; done) | rw [if_neg (by omega)]), rfl⟩
  · refine J_lookup (tgt := 72) (off := 71) X dX10_turned_1 (by decide) (by omega) (by rw [hsw]; decide) (by decide) ?_
    refine J_bipush (q := 74) X dX10_turned_72 rfl (by decide) ?_
    refine J_iret X R dX10_turned_74 ?_
    exact ⟨by unfold trn; repeat (first | (rw [if_pos (by omega)]; done) | rw [if_neg (by omega)]), rfl⟩
  · refine J_lookup (tgt := 75) (off := 74) X dX10_turned_1 (by decide) (by omega) (by rw [hsw]; decide) (by decide) ?_
    refine J_bipush (q := 77) X dX10_turned_75 rfl (by decide) ?_
    refine J_iret X R dX10_turned_77 ?_
    exact ⟨by unfold trn; repeat (first | (rw [if_pos (by omega)]; done) | rw [if_neg (by omega)]), rfl⟩

set_option maxRecDepth 100000 in
set_option maxHeartbeats 4000000 in
theorem c_X10_drawn {l : Launch} {Γ : JG} {ad : Nat → Nat} {E : Nat → va_E} {c : Int} (hc : 0 ≤ c ∧ c < 9) : JM l Γ yX10_drawn cX10_drawn 1 (some .int) 0 0 0 0 ad 95 E [.int (jI c)] (pP (jgrown.getD c.toNat 0) E) := by
  refine JM_intro (own := RX10) [some (.int (jI c))] rfl rfl rfl (Nat.le_of_ble_eq_true rfl) ?_
  intro Ω X R hin
  refine J_iload_n (q := 1) X dX10_drawn_0 rfl rfl ?_
  rcases (show (c < 0 ∨ 7 < c) ∨ c = 0 ∨ c = 1 ∨ c = 2 ∨ c = 3 ∨ c = 4 ∨ c = 5 ∨ c = 6 ∨ c = 7 by omega) with hsw | hsw | hsw | hsw | hsw | hsw | hsw | hsw | hsw
  · refine J_tableOut (tgt := 72) X dX10_drawn_1 (by omega) hsw (by decide) ?_
    refine J_bipush (q := 74) X dX10_drawn_72 rfl (by decide) ?_
    refine J_iret X R dX10_drawn_74 ?_
    exact ⟨by first | (exfalso; omega) | (subst hsw; rfl) | (have h8 : c = 8 := (by omega); subst h8; rfl), rfl⟩
  · refine J_tableIn (tgt := 48) (v := 0) (off := 47) X dX10_drawn_1 hsw (by decide) rfl (by decide) ?_
    refine J_bipush (q := 50) X dX10_drawn_48 rfl (by decide) ?_
    refine J_iret X R dX10_drawn_50 ?_
    exact ⟨by first | (exfalso; omega) | (subst hsw; rfl) | (have h8 : c = 8 := (by omega); subst h8; rfl), rfl⟩
  · refine J_tableIn (tgt := 51) (v := 1) (off := 50) X dX10_drawn_1 hsw (by decide) rfl (by decide) ?_
    refine J_bipush (q := 53) X dX10_drawn_51 rfl (by decide) ?_
    refine J_iret X R dX10_drawn_53 ?_
    exact ⟨by first | (exfalso; omega) | (subst hsw; rfl) | (have h8 : c = 8 := (by omega); subst h8; rfl), rfl⟩
  · refine J_tableIn (tgt := 54) (v := 2) (off := 53) X dX10_drawn_1 hsw (by decide) rfl (by decide) ?_
    refine J_bipush (q := 56) X dX10_drawn_54 rfl (by decide) ?_
    refine J_iret X R dX10_drawn_56 ?_
    exact ⟨by first | (exfalso; omega) | (subst hsw; rfl) | (have h8 : c = 8 := (by omega); subst h8; rfl), rfl⟩
  · refine J_tableIn (tgt := 57) (v := 3) (off := 56) X dX10_drawn_1 hsw (by decide) rfl (by decide) ?_
    refine J_bipush (q := 59) X dX10_drawn_57 rfl (by decide) ?_
    refine J_iret X R dX10_drawn_59 ?_
    exact ⟨by first | (exfalso; omega) | (subst hsw; rfl) | (have h8 : c = 8 := (by omega); subst h8; rfl), rfl⟩
  · refine J_tableIn (tgt := 60) (v := 4) (off := 59) X dX10_drawn_1 hsw (by decide) rfl (by decide) ?_
    refine J_bipush (q := 62) X dX10_drawn_60 rfl (by decide) ?_
    refine J_iret X R dX10_drawn_62 ?_
    exact ⟨by first | (exfalso; omega) | (subst hsw; rfl) | (have h8 : c = 8 := (by omega); subst h8; rfl), rfl⟩
  · refine J_tableIn (tgt := 63) (v := 5) (off := 62) X dX10_drawn_1 hsw (by decide) rfl (by decide) ?_
    refine J_bipush (q := 65) X dX10_drawn_63 rfl (by decide) ?_
    refine J_iret X R dX10_drawn_65 ?_
    exact ⟨by first | (exfalso; omega) | (subst hsw; rfl) | (have h8 : c = 8 := (by omega); subst h8; rfl), rfl⟩
  · refine J_tableIn (tgt := 66) (v := 6) (off := 65) X dX10_drawn_1 hsw (by decide) rfl (by decide) ?_
    refine J_bipush (q := 68) X dX10_drawn_66 rfl (by decide) ?_
    refine J_iret X R dX10_drawn_68 ?_
    exact ⟨by first | (exfalso; omega) | (subst hsw; rfl) | (have h8 : c = 8 := (by omega); subst h8; rfl), rfl⟩
  · refine J_tableIn (tgt := 69) (v := 7) (off := 68) X dX10_drawn_1 hsw (by decide) rfl (by decide) ?_
    refine J_bipush (q := 71) X dX10_drawn_69 rfl (by decide) ?_
    refine J_iret X R dX10_drawn_71 ?_
    exact ⟨by first | (exfalso; omega) | (subst hsw; rfl) | (have h8 : c = 8 := (by omega); subst h8; rfl), rfl⟩

set_option maxRecDepth 100000 in
set_option maxHeartbeats 4000000 in
theorem c_X10_many {l : Launch} {Γ : JG} {ad : Nat → Nat} {E : Nat → va_E} {m0 m1 m2 m3 m4 m5 m6 m7 m8 m9 m10 m11 m12 m13 m14 : Int} {g : Int → Int} {n : Int} {f : Int → Int}  (hM : E 78 = .inr (9, [.ref (ad 79), .ref (ad 80), .int (jI m0), .int (jI m1), .int (jI m2), .int (jI m3), .int (jI m4), .int (jI m5), .int (jI m6), .int (jI m7), .int (jI m8), .int (jI m9), .int (jI m10), .int (jI m11), .ref (ad 81), .ref (ad 82), .ref (ad 83), .ref (ad 84), .ref (ad 85), .ref (ad 86), .ref (ad 87), .ref (ad 88), .ref (ad 89), .int (jI m12), .int (jI m13), .ref (ad 90), .ref (ad 91), .ref (ad 92), .ref (ad 93), .ref (ad 94), .int (jI m14)])) (hS : E 79 = aI Γ 305 g) (hg : MS g n f) (hv : VR f n) : JM l Γ yX10_many cX10_many 1 (some .int) 0 0 0 0 ad 95 E [.ref (ad 78)] (pP n E) := by
  refine JM_intro (own := RX10) [some (.ref (ad 78))] rfl rfl rfl (Nat.le_of_ble_eq_true rfl) ?_
  intro Ω X R hin
  obtain ⟨hgn, hgf⟩ := id hg
  obtain ⟨hn, hvr⟩ := id hv
  refine J_aload_n (q := 1) X dX10_many_0 rfl rfl ?_
  refine J_get (q := 4) X dX10_many_1 fX10_7 hM (by omega) rfl rfl ?_
  refine J_bipush (q := 6) X dX10_many_4 rfl (by decide) ?_
  refine J_iald (q := 7) X dX10_many_6 hS (by omega) (by omega) (by decide) rfl ?_
  refine J_iret X R dX10_many_7 ?_
  exact ⟨by rw [hgn], rfl⟩

set_option maxRecDepth 100000 in
set_option maxHeartbeats 4000000 in
theorem c_X10_signAt {l : Launch} {Γ : JG} {ad : Nat → Nat} {E : Nat → va_E} {m0 m1 m2 m3 m4 m5 m6 m7 m8 m9 m10 m11 m12 m13 m14 : Int} {g : Int → Int} {n i : Int} {f : Int → Int}  (hM : E 78 = .inr (9, [.ref (ad 79), .ref (ad 80), .int (jI m0), .int (jI m1), .int (jI m2), .int (jI m3), .int (jI m4), .int (jI m5), .int (jI m6), .int (jI m7), .int (jI m8), .int (jI m9), .int (jI m10), .int (jI m11), .ref (ad 81), .ref (ad 82), .ref (ad 83), .ref (ad 84), .ref (ad 85), .ref (ad 86), .ref (ad 87), .ref (ad 88), .ref (ad 89), .int (jI m12), .int (jI m13), .ref (ad 90), .ref (ad 91), .ref (ad 92), .ref (ad 93), .ref (ad 94), .int (jI m14)])) (hS : E 79 = aI Γ 305 g) (hg : MS g n f) (hv : VR f n) (hi : 0 ≤ i ∧ i < n) : JM l Γ yX10_signAt cX10_signAt 2 (some .int) 0 0 0 0 ad 95 E [.ref (ad 78), .int (jI i)] (pP (f i % 128) E) := by
  refine JM_intro (own := RX10) [some (.ref (ad 78)), some (.int (jI i))] rfl rfl rfl (Nat.le_of_ble_eq_true rfl) ?_
  intro Ω X R hin
  obtain ⟨hgn, hgf⟩ := id hg
  obtain ⟨hn, hvr⟩ := id hv
  have egi := hgf i hi.1 hi.2
  obtain ⟨hfi, hsgi, -⟩ := hvr i hi.1 hi.2
  refine J_aload_n (q := 1) X dX10_signAt_0 rfl rfl ?_
  refine J_get (q := 4) X dX10_signAt_1 fX10_7 hM (by omega) rfl rfl ?_
  refine J_iload_n (q := 5) X dX10_signAt_4 rfl rfl ?_
  refine J_iald (q := 6) X dX10_signAt_5 hS (by omega) (by omega) (by decide) rfl ?_
  refine J_sipush (q := 9) X dX10_signAt_6 rfl (by decide) ?_
  refine J_irem (q := 10) X dX10_signAt_9 rfl (by omega) (by omega) ?_
  refine J_iret X R dX10_signAt_10 ?_
  exact ⟨by rw [egi], rfl⟩

set_option maxRecDepth 100000 in
set_option maxHeartbeats 4000000 in
theorem c_X10_isMarked {l : Launch} {Γ : JG} {ad : Nat → Nat} {E : Nat → va_E} {m0 m1 m2 m3 m4 m5 m6 m7 m8 m9 m10 m11 m12 m13 m14 : Int} {g : Int → Int} {n i : Int} {f : Int → Int}  (hM : E 78 = .inr (9, [.ref (ad 79), .ref (ad 80), .int (jI m0), .int (jI m1), .int (jI m2), .int (jI m3), .int (jI m4), .int (jI m5), .int (jI m6), .int (jI m7), .int (jI m8), .int (jI m9), .int (jI m10), .int (jI m11), .ref (ad 81), .ref (ad 82), .ref (ad 83), .ref (ad 84), .ref (ad 85), .ref (ad 86), .ref (ad 87), .ref (ad 88), .ref (ad 89), .int (jI m12), .int (jI m13), .ref (ad 90), .ref (ad 91), .ref (ad 92), .ref (ad 93), .ref (ad 94), .int (jI m14)])) (hS : E 79 = aI Γ 305 g) (hg : MS g n f) (hv : VR f n) (hi : 0 ≤ i ∧ i < n) : JM l Γ yX10_isMarked cX10_isMarked 2 (some .boolean) 0 0 0 0 ad 95 E [.ref (ad 78), .int (jI i)] (pP (bI (128 ≤ f i)) E) := by
  refine JM_intro (own := RX10) [some (.ref (ad 78)), some (.int (jI i))] rfl rfl rfl (Nat.le_of_ble_eq_true rfl) ?_
  intro Ω X R hin
  obtain ⟨hgn, hgf⟩ := id hg
  obtain ⟨hn, hvr⟩ := id hv
  have egi := hgf i hi.1 hi.2
  obtain ⟨hfi, hsgi, -⟩ := hvr i hi.1 hi.2
  refine J_aload_n (q := 1) X dX10_isMarked_0 rfl rfl ?_
  refine J_get (q := 4) X dX10_isMarked_1 fX10_7 hM (by omega) rfl rfl ?_
  refine J_iload_n (q := 5) X dX10_isMarked_4 rfl rfl ?_
  refine J_iald (q := 6) X dX10_isMarked_5 hS (by omega) (by omega) (by decide) rfl ?_
  refine J_sipush (q := 9) X dX10_isMarked_6 rfl (by decide) ?_
  refine J_icmp_lt (q := 12) (tgt := 16) X dX10_isMarked_9 (by decide) rfl (by omega) (by omega) (fun cq9 => ?_) (fun cq9 => ?_)
  · refine J_iconst (q := 17) X dX10_isMarked_16 rfl ?_
    refine J_zret X R dX10_isMarked_17 (nrw_z (by first | omega | exact bI_bd _)) ?_
    exact ⟨by unfold bI; first | (rw [if_pos (by omega)]; done) | (rw [if_neg (by omega)]; done), rfl⟩
  · refine J_iconst (q := 13) X dX10_isMarked_12 rfl ?_
    refine J_goto (q := 17) X dX10_isMarked_13 (by decide) ?_
    refine J_zret X R dX10_isMarked_17 (nrw_z (by first | omega | exact bI_bd _)) ?_
    exact ⟨by unfold bI; first | (rw [if_pos (by omega)]; done) | (rw [if_neg (by omega)]; done), rfl⟩

set_option maxRecDepth 100000 in
set_option maxHeartbeats 4000000 in
theorem c_X10_isThere {l : Launch} {Γ : JG} {ad : Nat → Nat} {E : Nat → va_E} {m0 m1 m2 m3 m4 m5 m6 m7 m8 m9 m10 m11 m12 m13 m14 : Int} {g : Int → Int} {n i : Int} {f : Int → Int}  (hM : E 78 = .inr (9, [.ref (ad 79), .ref (ad 80), .int (jI m0), .int (jI m1), .int (jI m2), .int (jI m3), .int (jI m4), .int (jI m5), .int (jI m6), .int (jI m7), .int (jI m8), .int (jI m9), .int (jI m10), .int (jI m11), .ref (ad 81), .ref (ad 82), .ref (ad 83), .ref (ad 84), .ref (ad 85), .ref (ad 86), .ref (ad 87), .ref (ad 88), .ref (ad 89), .int (jI m12), .int (jI m13), .ref (ad 90), .ref (ad 91), .ref (ad 92), .ref (ad 93), .ref (ad 94), .int (jI m14)])) (hS : E 79 = aI Γ 305 g) (hg : MS g n f) (hv : VR f n) (hbi : -2147483648 ≤ i ∧ i < 2147483648) : JM l Γ yX10_isThere cX10_isThere 2 (some .boolean) 1 25 0 0 ad 95 E [.ref (ad 78), .int (jI i)] (pP (bI (0 ≤ i ∧ i < n)) E) := by
  refine JM_intro (own := RX10) [some (.ref (ad 78)), some (.int (jI i))] rfl rfl rfl (Nat.le_of_ble_eq_true rfl) ?_
  intro Ω X R hin
  obtain ⟨hgn, hgf⟩ := id hg
  obtain ⟨hn, hvr⟩ := id hv
  refine J_iload_n (q := 1) X dX10_isThere_0 rfl rfl ?_
  refine J_i2l (q := 2) X dX10_isThere_1 rfl (by omega) ?_
  refine J_lconst (q := 3) (v := 0) X dX10_isThere_2 (by decide) rfl ?_
  refine J_aload_n (q := 4) X dX10_isThere_3 rfl rfl ?_
  refine J_callP (q := 7) (jrV X mX10_165 dX10_isThere_4 (c_X10_many hM hS hg hv) hM (by omega) rfl rfl rfl rfl (Nat.le_of_ble_eq_true rfl) (by decide)) rfl ?_
  refine J_iconst (q := 8) X dX10_isThere_7 rfl ?_
  refine J_isub (q := 9) X dX10_isThere_8 rfl ?_
  refine J_i2l (q := 10) X dX10_isThere_9 rfl (by omega) ?_
  refine J_callP (q := 13) (jrS X mX10_61 dX10_isThere_10 (c_X10_in (by omega) (by omega) (by omega)) rfl rfl (Nat.le_of_ble_eq_true rfl) (by decide)) rfl ?_
  refine J_zret X R dX10_isThere_13 (nrw_z (by first | omega | exact bI_bd _)) ?_
  exact ⟨by rw [bI_iff (show (0 ≤ i ∧ i ≤ n - 1) ↔ (0 ≤ i ∧ i < n) by omega)], rfl⟩

set_option maxRecDepth 100000 in
set_option maxHeartbeats 4000000 in
theorem c_X10_isPlace {l : Launch} {Γ : JG} {ad : Nat → Nat} {E : Nat → va_E} {m0 m1 m2 m3 m4 m5 m6 m7 m8 m9 m10 m11 m12 m13 m14 : Int} {g : Int → Int} {n i : Int} {f : Int → Int}  (hM : E 78 = .inr (9, [.ref (ad 79), .ref (ad 80), .int (jI m0), .int (jI m1), .int (jI m2), .int (jI m3), .int (jI m4), .int (jI m5), .int (jI m6), .int (jI m7), .int (jI m8), .int (jI m9), .int (jI m10), .int (jI m11), .ref (ad 81), .ref (ad 82), .ref (ad 83), .ref (ad 84), .ref (ad 85), .ref (ad 86), .ref (ad 87), .ref (ad 88), .ref (ad 89), .int (jI m12), .int (jI m13), .ref (ad 90), .ref (ad 91), .ref (ad 92), .ref (ad 93), .ref (ad 94), .int (jI m14)])) (hS : E 79 = aI Γ 305 g) (hg : MS g n f) (hv : VR f n) (hbi : -2147483648 ≤ i ∧ i < 2147483648) : JM l Γ yX10_isPlace cX10_isPlace 2 (some .boolean) 1 25 0 0 ad 95 E [.ref (ad 78), .int (jI i)] (pP (bI (0 ≤ i ∧ i ≤ n)) E) := by
  refine JM_intro (own := RX10) [some (.ref (ad 78)), some (.int (jI i))] rfl rfl rfl (Nat.le_of_ble_eq_true rfl) ?_
  intro Ω X R hin
  obtain ⟨hgn, hgf⟩ := id hg
  obtain ⟨hn, hvr⟩ := id hv
  refine J_iload_n (q := 1) X dX10_isPlace_0 rfl rfl ?_
  refine J_i2l (q := 2) X dX10_isPlace_1 rfl (by omega) ?_
  refine J_lconst (q := 3) (v := 0) X dX10_isPlace_2 (by decide) rfl ?_
  refine J_aload_n (q := 4) X dX10_isPlace_3 rfl rfl ?_
  refine J_callP (q := 7) (jrV X mX10_165 dX10_isPlace_4 (c_X10_many hM hS hg hv) hM (by omega) rfl rfl rfl rfl (Nat.le_of_ble_eq_true rfl) (by decide)) rfl ?_
  refine J_i2l (q := 8) X dX10_isPlace_7 rfl (by omega) ?_
  refine J_callP (q := 11) (jrS X mX10_61 dX10_isPlace_8 (c_X10_in (by omega) (by omega) (by omega)) rfl rfl (Nat.le_of_ble_eq_true rfl) (by decide)) rfl ?_
  refine J_zret X R dX10_isPlace_11 (nrw_z (by first | omega | exact bI_bd _)) ?_
  exact ⟨rfl, rfl⟩

set_option maxRecDepth 100000 in
set_option maxHeartbeats 4000000 in
theorem c_X10_isFirst {l : Launch} {Γ : JG} {ad : Nat → Nat} {E : Nat → va_E} {m0 m1 m2 m3 m4 m5 m6 m7 m8 m9 m10 m11 m12 m13 m14 : Int} {g pa : Int → Int} {n i : Int} {f : Int → Int}  (hM : E 78 = .inr (9, [.ref (ad 79), .ref (ad 80), .int (jI m0), .int (jI m1), .int (jI m2), .int (jI m3), .int (jI m4), .int (jI m5), .int (jI m6), .int (jI m7), .int (jI m8), .int (jI m9), .int (jI m10), .int (jI m11), .ref (ad 81), .ref (ad 82), .ref (ad 83), .ref (ad 84), .ref (ad 85), .ref (ad 86), .ref (ad 87), .ref (ad 88), .ref (ad 89), .int (jI m12), .int (jI m13), .ref (ad 90), .ref (ad 91), .ref (ad 92), .ref (ad 93), .ref (ad 94), .int (jI m14)])) (hS : E 79 = aI Γ 305 g) (hPa : E 85 = aI Γ 60 pa) (hg : MS g n f) (hv : VR f n) (hpa : ∀ j, 0 ≤ j → j < n → pa j = prt 3 f n j) (hi : 0 ≤ i ∧ i < n) : JM l Γ yX10_isFirst cX10_isFirst 2 (some .boolean) 0 0 0 0 ad 95 E [.ref (ad 78), .int (jI i)] (pP (bI (i < prt 3 f n i)) E) := by
  refine JM_intro (own := RX10) [some (.ref (ad 78)), some (.int (jI i))] rfl rfl rfl (Nat.le_of_ble_eq_true rfl) ?_
  intro Ω X R hin
  obtain ⟨hgn, hgf⟩ := id hg
  obtain ⟨hn, hvr⟩ := id hv
  have egi := hgf i hi.1 hi.2
  obtain ⟨hfi, hsgi, -⟩ := hvr i hi.1 hi.2
  have epi := hpa i hi.1 hi.2
  have hpb := prt_bd (kd := 3) (f := f) (n := n) hn.1 i
  refine J_aload_n (q := 1) X dX10_isFirst_0 rfl rfl ?_
  refine J_get (q := 4) X dX10_isFirst_1 fX10_28 hM (by omega) rfl rfl ?_
  refine J_iload_n (q := 5) X dX10_isFirst_4 rfl rfl ?_
  refine J_iald (q := 6) X dX10_isFirst_5 hPa (by omega) (by omega) (by decide) rfl ?_
  refine J_iload_n (q := 7) X dX10_isFirst_6 rfl rfl ?_
  refine J_icmp_le (q := 10) (tgt := 14) X dX10_isFirst_7 (by decide) rfl (by omega) (by omega) (fun cq7 => ?_) (fun cq7 => ?_)
  · refine J_iconst (q := 15) X dX10_isFirst_14 rfl ?_
    refine J_zret X R dX10_isFirst_15 (nrw_z (by first | omega | exact bI_bd _)) ?_
    exact ⟨by unfold bI; first | (rw [if_pos (by omega)]; done) | (rw [if_neg (by omega)]; done), rfl⟩
  · refine J_iconst (q := 11) X dX10_isFirst_10 rfl ?_
    refine J_goto (q := 15) X dX10_isFirst_11 (by decide) ?_
    refine J_zret X R dX10_isFirst_15 (nrw_z (by first | omega | exact bI_bd _)) ?_
    exact ⟨by unfold bI; first | (rw [if_pos (by omega)]; done) | (rw [if_neg (by omega)]; done), rfl⟩

set_option maxRecDepth 100000 in
set_option maxHeartbeats 4000000 in
theorem c_X10_isBare {l : Launch} {Γ : JG} {ad : Nat → Nat} {E : Nat → va_E} {m0 m1 m2 m3 m4 m5 m6 m7 m8 m9 m10 m11 m12 m13 m14 : Int} {g pa : Int → Int} {n i : Int} {f : Int → Int}  (hM : E 78 = .inr (9, [.ref (ad 79), .ref (ad 80), .int (jI m0), .int (jI m1), .int (jI m2), .int (jI m3), .int (jI m4), .int (jI m5), .int (jI m6), .int (jI m7), .int (jI m8), .int (jI m9), .int (jI m10), .int (jI m11), .ref (ad 81), .ref (ad 82), .ref (ad 83), .ref (ad 84), .ref (ad 85), .ref (ad 86), .ref (ad 87), .ref (ad 88), .ref (ad 89), .int (jI m12), .int (jI m13), .ref (ad 90), .ref (ad 91), .ref (ad 92), .ref (ad 93), .ref (ad 94), .int (jI m14)])) (hS : E 79 = aI Γ 305 g) (hPa : E 85 = aI Γ 60 pa) (hg : MS g n f) (hv : VR f n) (hpa : ∀ j, 0 ≤ j → j < n → pa j = prt 3 f n j) (hi : 0 ≤ i ∧ i < n) : JM l Γ yX10_isBare cX10_isBare 2 (some .boolean) 1 21 0 0 ad 95 E [.ref (ad 78), .int (jI i)] (pP (bI (bre f n i)) E) := by
  refine JM_intro (own := RX10) [some (.ref (ad 78)), some (.int (jI i))] rfl rfl rfl (Nat.le_of_ble_eq_true rfl) ?_
  intro Ω X R hin
  obtain ⟨hgn, hgf⟩ := id hg
  obtain ⟨hn, hvr⟩ := id hv
  have egi := hgf i hi.1 hi.2
  obtain ⟨hfi, hsgi, -⟩ := hvr i hi.1 hi.2
  have epi := hpa i hi.1 hi.2
  have hpb := prt_bd (kd := 3) (f := f) (n := n) hn.1 i
  have hkb := knd_brk (f i % 128)
  have hkd := knd_bd (f i % 128)
  refine J_aload_n (q := 1) X dX10_isBare_0 rfl rfl ?_
  refine J_iload_n (q := 2) X dX10_isBare_1 rfl rfl ?_
  refine J_callP (q := 5) (jrV X mX10_170 dX10_isBare_2 (c_X10_signAt hM hS hg hv (by omega)) hM (by omega) rfl rfl rfl rfl (Nat.le_of_ble_eq_true rfl) (by decide)) rfl ?_
  refine J_callP (q := 8) (jrS X mX10_78 dX10_isBare_5 (c_X10_kindOf (by omega)) rfl rfl (Nat.le_of_ble_eq_true rfl) (by decide)) rfl ?_
  refine J_bipush (q := 10) X dX10_isBare_8 rfl (by decide) ?_
  refine J_icmp_eq (q := 13) (tgt := 28) X dX10_isBare_10 (by decide) rfl (by omega) (by omega) (fun cq10 => ?_) (fun cq10 => ?_)
  · refine J_iconst (q := 29) X dX10_isBare_28 rfl ?_
    refine J_zret X R dX10_isBare_29 (nrw_z (by first | omega | exact bI_bd _)) ?_
    exact ⟨by unfold bI; first | (rw [if_pos (by omega)]; done) | (rw [if_neg (by omega)]; done), rfl⟩
  · refine J_aload_n (q := 14) X dX10_isBare_13 rfl rfl ?_
    refine J_get (q := 17) X dX10_isBare_14 fX10_28 hM (by omega) rfl rfl ?_
    refine J_iload_n (q := 18) X dX10_isBare_17 rfl rfl ?_
    refine J_iald (q := 19) X dX10_isBare_18 hPa (by omega) (by omega) (by decide) rfl ?_
    refine J_bipush (q := 21) X dX10_isBare_19 rfl (by decide) ?_
    refine J_icmp_ne (q := 24) (tgt := 28) X dX10_isBare_21 (by decide) rfl (by omega) (by omega) (fun cq21 => ?_) (fun cq21 => ?_)
    · refine J_iconst (q := 29) X dX10_isBare_28 rfl ?_
      refine J_zret X R dX10_isBare_29 (nrw_z (by first | omega | exact bI_bd _)) ?_
      exact ⟨by unfold bI; first | (rw [if_pos (by omega)]; done) | (rw [if_neg (by omega)]; done), rfl⟩
    · refine J_iconst (q := 25) X dX10_isBare_24 rfl ?_
      refine J_goto (q := 29) X dX10_isBare_25 (by decide) ?_
      refine J_zret X R dX10_isBare_29 (nrw_z (by first | omega | exact bI_bd _)) ?_
      exact ⟨by unfold bI; first | (rw [if_pos (by omega)]; done) | (rw [if_neg (by omega)]; done), rfl⟩

set_option maxRecDepth 100000 in
set_option maxHeartbeats 4000000 in
theorem c_X10_isClashing {l : Launch} {Γ : JG} {ad : Nat → Nat} {E : Nat → va_E} {m0 m1 m2 m3 m4 m5 m6 m7 m8 m9 m10 m11 m12 m13 m14 : Int} {g pa : Int → Int} {n i : Int} {f : Int → Int}  (hM : E 78 = .inr (9, [.ref (ad 79), .ref (ad 80), .int (jI m0), .int (jI m1), .int (jI m2), .int (jI m3), .int (jI m4), .int (jI m5), .int (jI m6), .int (jI m7), .int (jI m8), .int (jI m9), .int (jI m10), .int (jI m11), .ref (ad 81), .ref (ad 82), .ref (ad 83), .ref (ad 84), .ref (ad 85), .ref (ad 86), .ref (ad 87), .ref (ad 88), .ref (ad 89), .int (jI m12), .int (jI m13), .ref (ad 90), .ref (ad 91), .ref (ad 92), .ref (ad 93), .ref (ad 94), .int (jI m14)])) (hS : E 79 = aI Γ 305 g) (hPa : E 85 = aI Γ 60 pa) (hg : MS g n f) (hv : VR f n) (hpa : ∀ j, 0 ≤ j → j < n → pa j = prt 3 f n j) (hi : 0 ≤ i ∧ i < n) : JM l Γ yX10_isClashing cX10_isClashing 2 (some .boolean) 1 21 0 0 ad 95 E [.ref (ad 78), .int (jI i)] (pP (bI (cla f n i)) E) := by
  refine JM_intro (own := RX10) [some (.ref (ad 78)), some (.int (jI i))] rfl rfl rfl (Nat.le_of_ble_eq_true rfl) ?_
  intro Ω X R hin
  obtain ⟨hgn, hgf⟩ := id hg
  obtain ⟨hn, hvr⟩ := id hv
  have egi := hgf i hi.1 hi.2
  obtain ⟨hfi, hsgi, -⟩ := hvr i hi.1 hi.2
  have epi := hpa i hi.1 hi.2
  have hpb := prt_bd (kd := 3) (f := f) (n := n) hn.1 i
  have hkb := knd_brk (f i % 128)
  have hkd := knd_bd (f i % 128)
  refine J_aload_n (q := 1) X dX10_isClashing_0 rfl rfl ?_
  refine J_get (q := 4) X dX10_isClashing_1 fX10_28 hM (by omega) rfl rfl ?_
  refine J_iload_n (q := 5) X dX10_isClashing_4 rfl rfl ?_
  refine J_iald (q := 6) X dX10_isClashing_5 hPa (by omega) (by omega) (by decide) rfl ?_
  refine J_bipush (q := 8) X dX10_isClashing_6 rfl (by decide) ?_
  refine J_icmp_eq (q := 11) (tgt := 39) X dX10_isClashing_8 (by decide) rfl (by omega) (by omega) (fun cq8 => ?_) (fun cq8 => ?_)
  · refine J_iconst (q := 40) X dX10_isClashing_39 rfl ?_
    refine J_zret X R dX10_isClashing_40 (nrw_z (by first | omega | exact bI_bd _)) ?_
    refine ⟨?_, rfl⟩
    first
      | (rw [bI_f (fun z => by have z1 := z.1; omega)]; done)
      | (rw [epi] at cq32; rw [bI_f (fun z => z.2 cq32)]; done)
      | (rw [epi] at cq32; rw [bI_t ⟨by omega, cq32⟩]; done)
  · refine J_aload_n (q := 12) X dX10_isClashing_11 rfl rfl ?_
    refine J_iload_n (q := 13) X dX10_isClashing_12 rfl rfl ?_
    refine J_callP (q := 16) (jrV X mX10_170 dX10_isClashing_13 (c_X10_signAt hM hS hg hv (by omega)) hM (by omega) rfl rfl rfl rfl (Nat.le_of_ble_eq_true rfl) (by decide)) rfl ?_
    refine J_callP (q := 19) (jrS X mX10_78 dX10_isClashing_16 (c_X10_kindOf (by omega)) rfl rfl (Nat.le_of_ble_eq_true rfl) (by decide)) rfl ?_
    refine J_aload_n (q := 20) X dX10_isClashing_19 rfl rfl ?_
    refine J_aload_n (q := 21) X dX10_isClashing_20 rfl rfl ?_
    refine J_get (q := 24) X dX10_isClashing_21 fX10_28 hM (by omega) rfl rfl ?_
    refine J_iload_n (q := 25) X dX10_isClashing_24 rfl rfl ?_
    refine J_iald (q := 26) X dX10_isClashing_25 hPa (by omega) (by omega) (by decide) rfl ?_
    refine J_callP (q := 29) (jrV X mX10_170 dX10_isClashing_26 (c_X10_signAt hM hS hg hv (by omega)) hM (by omega) rfl rfl rfl rfl (Nat.le_of_ble_eq_true rfl) (by decide)) rfl ?_
    refine J_callP (q := 32) (jrS X mX10_78 dX10_isClashing_29 (c_X10_kindOf (by omega)) rfl rfl (Nat.le_of_ble_eq_true rfl) (by decide)) rfl ?_
    refine J_icmp_eq (q := 35) (tgt := 39) X dX10_isClashing_32 (by decide) rfl (by omega) (by have := knd_bd (f (pa i) % 128); omega) (fun cq32 => ?_) (fun cq32 => ?_)
    · refine J_iconst (q := 40) X dX10_isClashing_39 rfl ?_
      refine J_zret X R dX10_isClashing_40 (nrw_z (by first | omega | exact bI_bd _)) ?_
      refine ⟨?_, rfl⟩
      first
        | (rw [bI_f (fun z => by have z1 := z.1; omega)]; done)
        | (rw [epi] at cq32; rw [bI_f (fun z => z.2 cq32)]; done)
        | (rw [epi] at cq32; rw [bI_t ⟨by omega, cq32⟩]; done)
    · refine J_iconst (q := 36) X dX10_isClashing_35 rfl ?_
      refine J_goto (q := 40) X dX10_isClashing_36 (by decide) ?_
      refine J_zret X R dX10_isClashing_40 (nrw_z (by first | omega | exact bI_bd _)) ?_
      refine ⟨?_, rfl⟩
      first
        | (rw [bI_f (fun z => by have z1 := z.1; omega)]; done)
        | (rw [epi] at cq32; rw [bI_f (fun z => z.2 cq32)]; done)
        | (rw [epi] at cq32; rw [bI_t ⟨by omega, cq32⟩]; done)
