set_option maxRecDepth 100000 in
set_option maxHeartbeats 4000000 in
theorem c_X3_turnAbout {l : Launch} {Γ : JG} {ad : Nat → Nat} {E : Nat → va_E} {r c : Nat} {n : Int} {f : Int → Int} {a m : Int}  (hR : E r = .inr (3, [.ref (ad c), .int (jI n)])) (hC : E c = aI Γ 60 f) (hr : r < 95 ∧ c < 95 ∧ r ≠ c) (hn : 0 ≤ n ∧ n ≤ 60) (ha : 0 ≤ a ∧ 1 ≤ m ∧ a + m ≤ n) : JM l Γ yX3_turnAbout cX3_turnAbout 6 (some .int) 2 40 0 0 ad 95 E [.ref (ad r), .int (jI a), .int (jI m)] (pI (fun z E' => z = smI (fun j => bI (brk (rv f a (a + m) (a + j) % 128))) m ∧ E' c = aI Γ 60 (fun t => if a ≤ t ∧ t < a + m then trn (f (a + (a + m) - 1 - t) % 128) else f t) ∧ ∀ j : Nat, j ≠ c → E' j = E j)) := by
  refine JM_intro (own := RX3) [some (.ref (ad r)), some (.int (jI a)), some (.int (jI m)), none, none, none] rfl rfl rfl (Nat.le_of_ble_eq_true rfl) ?_
  intro Ω X R hin
  obtain ⟨E0, hE0⟩ : ∃ E0 : Nat → va_E, E0 = E := ⟨_, rfl⟩
  have hF : ∀ j : Nat, j ≠ c → E j = E0 j := fun _ _ => by rw [hE0]
  refine J_aload_n (q := 1) X dX3_turnAbout_0 rfl rfl ?_
  refine J_iload_n (q := 2) X dX3_turnAbout_1 rfl rfl ?_
  refine J_iload_n (q := 3) X dX3_turnAbout_2 rfl rfl ?_
  refine J_iload_n (q := 4) X dX3_turnAbout_3 rfl rfl ?_
  refine J_iadd (q := 5) X dX3_turnAbout_4 rfl ?_
  refine J_callV (q := 8) (jrV X mX3_41 dX3_turnAbout_5 (c_X3_reverse hR hC (by omega) (by omega) (by omega)) hR (by omega) rfl rfl rfl rfl (Nat.le_of_ble_eq_true rfl) (by decide)) rfl (fun Ew5 hpq5 => ?_)
  obtain ⟨kC, hsq5⟩ := hpq5
  replace hC := kC
  replace hR := (hsq5 r (by omega)).trans hR
  replace hF : ∀ j : Nat, j ≠ c → Ew5 j = E0 j := fun j hj => (hsq5 j (by omega)).trans (hF j hj)
  refine J_iconst (q := 9) X dX3_turnAbout_8 rfl ?_
  refine J_istore_n (q := 10) X dX3_turnAbout_9 (by decide) rfl rfl ?_
  refine J_iload_n (q := 11) X dX3_turnAbout_10 rfl rfl ?_
  refine J_istore (q := 13) X dX3_turnAbout_11 (by decide) rfl rfl ?_
  have lp13 : ∀ (mm : Nat) (i : Int) (g : Int → Int) (E : Nat → va_E) (hi : a ≤ i ∧ i ≤ a + m) (hg : ∀ t : Int, g t = if a ≤ t ∧ t < i then trn (f (a + (a + m) - 1 - t) % 128) else rv f a (a + m) t) (hR : E r = .inr (3, [.ref (ad c), .int (jI n)])) (hC : E c = aI Γ 60 g) (hF : ∀ j : Nat, j ≠ c → E j = E0 j) (hm : a + m - i + 1 ≤ (mm : Int)), J l Γ Ω 6 ad 95 0 0 E 13 [some (.ref (ad r)), some (.int (jI a)), some (.int (jI m)), some (.int (jI (smI (fun j => bI (brk (rv f a (a + m) (a + j) % 128))) (i - a)))), some (.int (jI i)), none] [] := by
    intro mm
    induction mm with
    | zero => intro i g E hi hg hR hC hF hm; exfalso; omega
    | succ mm ih13 =>
      intro i g E hi hg hR hC hF hm
      have hgi : g i = rv f a (a + m) i := by rw [hg i, if_neg (by omega)]
      refine J_iload (q := 15) X dX3_turnAbout_13 rfl rfl ?_
      refine J_iload_n (q := 16) X dX3_turnAbout_15 rfl rfl ?_
      refine J_iload_n (q := 17) X dX3_turnAbout_16 rfl rfl ?_
      refine J_iadd (q := 18) X dX3_turnAbout_17 rfl ?_
      refine J_icmp_ge (q := 21) (tgt := 57) X dX3_turnAbout_18 (by decide) rfl (by omega) (by omega) (fun cq18 => ?_) (fun cq18 => ?_)
      · refine J_iload_n (q := 58) X dX3_turnAbout_57 rfl rfl ?_
        refine J_iret X R dX3_turnAbout_58 ?_
        rw [hE0] at hF
        have hge : g = fun t => if a ≤ t ∧ t < a + m then trn (f (a + (a + m) - 1 - t) % 128) else f t := by
          funext t
          rw [hg t]
          simp only [rv]
          repeat' split
          all_goals first | rfl | (exfalso; omega)
        rw [hge] at hC
        exact ⟨_, rfl, by rw [show i - a = m by omega], hC, hF⟩
      · refine J_aload_n (q := 22) X dX3_turnAbout_21 rfl rfl ?_
        refine J_iload (q := 24) X dX3_turnAbout_22 rfl rfl ?_
        refine J_callP (q := 27) (jrV X mX3_23 dX3_turnAbout_24 (c_X3_byteAt hR hC (by omega) (by omega) (by omega)) hR (by omega) rfl rfl rfl rfl (Nat.le_of_ble_eq_true rfl) (by decide)) rfl ?_
        refine J_istore (q := 29) X dX3_turnAbout_27 (by decide) rfl rfl ?_
        refine J_iload_n (q := 30) X dX3_turnAbout_29 rfl rfl ?_
        refine J_iload (q := 32) X dX3_turnAbout_30 rfl rfl ?_
        refine J_callP (q := 35) (jrS X mX3_44 dX3_turnAbout_32 (c_X5_isBracket (by omega)) rfl rfl (Nat.le_of_ble_eq_true rfl) (by decide)) rfl ?_
        refine J_callP (q := 38) (jrS X mX3_49 dX3_turnAbout_35 (c_X9_oneIf (by first | omega | exact bI_bd _)) rfl rfl (Nat.le_of_ble_eq_true rfl) (by decide)) rfl ?_
        refine J_iadd (q := 39) X dX3_turnAbout_38 rfl ?_
        refine J_istore_n (q := 40) X dX3_turnAbout_39 (by decide) rfl rfl ?_
        refine J_aload_n (q := 41) X dX3_turnAbout_40 rfl rfl ?_
        refine J_iload (q := 43) X dX3_turnAbout_41 rfl rfl ?_
        refine J_iload (q := 45) X dX3_turnAbout_43 rfl rfl ?_
        refine J_callP (q := 48) (jrS X mX3_53 dX3_turnAbout_45 (c_X5_turned (by omega)) rfl rfl (Nat.le_of_ble_eq_true rfl) (by decide)) rfl ?_
        refine J_callV (q := 51) (jrV X mX3_56 dX3_turnAbout_48 (c_X3_setByte hR hC (by omega) (by omega) (by omega)) hR (by omega) rfl rfl rfl rfl (Nat.le_of_ble_eq_true rfl) (by decide)) rfl (fun Ew48 hpq48 => ?_)
        obtain ⟨kC, hsq48⟩ := hpq48
        replace hC := kC
        replace hR := (hsq48 r (by omega)).trans hR
        replace hF : ∀ j : Nat, j ≠ c → Ew48 j = E0 j := fun j hj => (hsq48 j (by omega)).trans (hF j hj)
        refine J_iinc (q := 54) X dX3_turnAbout_51 rfl (by decide) rfl rfl ?_
        refine J_goto (q := 13) X dX3_turnAbout_54 (by decide) ?_
        refine J_kill 5 ?_
        rw [hgi, show smI (fun j => bI (brk (rv f a (a + m) (a + j) % 128))) (i - a) + bI (brk (rv f a (a + m) i % 128)) = smI (fun j => bI (brk (rv f a (a + m) (a + j) % 128))) (i + 1 - a) by rw [show i + 1 - a = (i - a) + 1 by omega, smI_succ _ (by omega)]; simp only [show a + (i - a) = i by omega]]
        refine ih13 _ _ _ (by omega) (fun t => ?_) hR hC hF (by omega)
        have hri : rv f a (a + m) i = f (a + (a + m) - 1 - i) := by simp only [rv]; rw [if_pos (by omega)]
        simp only [iu, hgi, hri, hg t]
        repeat' split
        all_goals first | rfl | (exfalso; omega) | (subst_vars; rfl) | (rename_i h1 h2; rw [h1])
  exact (by rw [show (0 : Int) = smI (fun j => bI (brk (rv f a (a + m) (a + j) % 128))) (a - a) by rw [Int.sub_self]; rfl]; exact lp13 100 _ _ _ (by omega) (fun t => by rw [if_neg (by omega)]) hR hC hF (by omega))

set_option maxRecDepth 100000 in
set_option maxHeartbeats 4000000 in
theorem c_X6_append {l : Launch} {Γ : JG} {ad : Nat → Nat} {E : Nat → va_E} {tl : Int} {tb : Int → Int} {v : Int} (hT : E 3 = .inr (5, [.ref (ad 4), .int (jI tl)])) (hY : E 4 = aI Γ 160 tb) (ht : 0 ≤ tl ∧ tl < 160) : JM l Γ yX6_append cX6_append 2 none 0 0 0 0 ad 95 E [.ref (ad 3), .int (jI v)] (pV (fun E' => E' 3 = .inr (5, [.ref (ad 4), .int (jI (tl + 1))]) ∧ E' 4 = aI Γ 160 (iu tb tl v) ∧ ∀ j : Nat, j ≠ 3 ∧ j ≠ 4 → E' j = E j)) := by
  refine JM_intro (own := RX6) [some (.ref (ad 3)), some (.int (jI v))] rfl rfl rfl (Nat.le_of_ble_eq_true rfl) ?_
  intro Ω X R hin
  obtain ⟨E0, hE0⟩ : ∃ E0 : Nat → va_E, E0 = E := ⟨_, rfl⟩
  have hF : ∀ j : Nat, j ≠ 3 ∧ j ≠ 4 → E j = E0 j := fun _ _ => by rw [hE0]
  refine J_aload_n (q := 1) X dX6_append_0 rfl rfl ?_
  refine J_get (q := 4) X dX6_append_1 fX6_9 hT (by omega) rfl rfl ?_
  refine J_aload_n (q := 5) X dX6_append_4 rfl rfl ?_
  refine J_get (q := 8) X dX6_append_5 fX6_15 hT (by omega) rfl rfl ?_
  refine J_iload_n (q := 9) X dX6_append_8 rfl rfl ?_
  refine J_iast (q := 10) X dX6_append_9 hY (by omega) (by omega) (by decide) rfl (fun Ew9 hkq9 hsq9 => ?_)
  replace hY := hkq9
  replace hT := (hsq9 3 (by omega)).trans hT
  replace hF : ∀ j : Nat, j ≠ 3 ∧ j ≠ 4 → Ew9 j = E0 j := fun j hj => (hsq9 j (by omega)).trans (hF j hj)
  refine J_aload_n (q := 11) X dX6_append_10 rfl rfl ?_
  refine J_dup (q := 12) X dX6_append_11 rfl rfl ?_
  refine J_get (q := 15) X dX6_append_12 fX6_15 hT (by omega) rfl rfl ?_
  refine J_iconst (q := 16) X dX6_append_15 rfl ?_
  refine J_iadd (q := 17) X dX6_append_16 rfl ?_
  refine J_put (q := 20) (ty := .int) X dX6_append_17 fX6_15 rfl (by decide +kernel) rfl rfl hT (by omega) (Nat.le_of_ble_eq_true rfl) rfl (fun Ew17 hkq17 hsq17 => ?_)
  replace hT : Ew17 3 = .inr (5, [.ref (ad 4), .int (jI _)]) := hkq17
  replace hY := (hsq17 4 (by omega)).trans hY
  replace hF : ∀ j : Nat, j ≠ 3 ∧ j ≠ 4 → Ew17 j = E0 j := fun j hj => (hsq17 j (by omega)).trans (hF j hj)
  refine J_vret X R dX6_append_20 ?_
  rw [hE0] at hF
  exact ⟨rfl, hT, hY, hF⟩

set_option maxRecDepth 100000 in
set_option maxHeartbeats 4000000 in
theorem c_X6_shorten {l : Launch} {Γ : JG} {ad : Nat → Nat} {E : Nat → va_E} {tl : Int} {tb : Int → Int} {v : Int} (hT : E 3 = .inr (5, [.ref (ad 4), .int (jI tl)])) (hY : E 4 = aI Γ 160 tb) : JM l Γ yX6_shorten cX6_shorten 2 none 0 0 0 0 ad 95 E [.ref (ad 3), .int (jI v)] (pV (fun E' => E' 3 = .inr (5, [.ref (ad 4), .int (jI v)]) ∧ ∀ j : Nat, j ≠ 3 → E' j = E j)) := by
  refine JM_intro (own := RX6) [some (.ref (ad 3)), some (.int (jI v))] rfl rfl rfl (Nat.le_of_ble_eq_true rfl) ?_
  intro Ω X R hin
  obtain ⟨E0, hE0⟩ : ∃ E0 : Nat → va_E, E0 = E := ⟨_, rfl⟩
  have hF : ∀ j : Nat, j ≠ 3 → E j = E0 j := fun _ _ => by rw [hE0]
  refine J_aload_n (q := 1) X dX6_shorten_0 rfl rfl ?_
  refine J_iload_n (q := 2) X dX6_shorten_1 rfl rfl ?_
  refine J_put (q := 5) (ty := .int) X dX6_shorten_2 fX6_15 rfl (by decide +kernel) rfl rfl hT (by omega) (Nat.le_of_ble_eq_true rfl) rfl (fun Ew2 hkq2 hsq2 => ?_)
  replace hT : Ew2 3 = .inr (5, [.ref (ad 4), .int (jI _)]) := hkq2
  replace hY := (hsq2 4 (by omega)).trans hY
  replace hF : ∀ j : Nat, j ≠ 3 → Ew2 j = E0 j := fun j hj => (hsq2 j (by omega)).trans (hF j hj)
  refine J_vret X R dX6_shorten_5 ?_
  rw [hE0] at hF
  exact ⟨rfl, hT, hF⟩

set_option maxRecDepth 100000 in
set_option maxHeartbeats 4000000 in
theorem c_X0_restart {l : Launch} {Γ : JG} {ad : Nat → Nat} {E : Nat → va_E} {b0 b1 b2 b3 b4 : Int} (hB : E 5 = .inr (0, [.int (jI b0), .int (jI b1), .int (jI b2), .int (jI b3), .int (jI b4)])) : JM l Γ yX0_restart cX0_restart 1 none 0 0 0 0 ad 95 E [.ref (ad 5)] (pV (fun E' => E' 5 = .inr (0, [.int (jI 0), .int (jI 0), .int (jI 0), .int (jI 0), .int (jI (-4))]) ∧ ∀ j : Nat, j ≠ 5 → E' j = E j)) := by
  refine JM_intro (own := RX0) [some (.ref (ad 5))] rfl rfl rfl (Nat.le_of_ble_eq_true rfl) ?_
  intro Ω X R hin
  obtain ⟨E0, hE0⟩ : ∃ E0 : Nat → va_E, E0 = E := ⟨_, rfl⟩
  have hF : ∀ j : Nat, j ≠ 5 → E j = E0 j := fun _ _ => by rw [hE0]
  refine J_aload_n (q := 1) X dX0_restart_0 rfl rfl ?_
  refine J_iconst (q := 2) X dX0_restart_1 rfl ?_
  refine J_put (q := 5) (ty := .int) X dX0_restart_2 fX0_9 rfl (by decide +kernel) rfl rfl hB (by omega) (Nat.le_of_ble_eq_true rfl) rfl (fun Ew2 hkq2 hsq2 => ?_)
  replace hB : Ew2 5 = .inr (0, [.int (jI _), .int (jI _), .int (jI _), .int (jI _), .int (jI _)]) := hkq2
  replace hF : ∀ j : Nat, j ≠ 5 → Ew2 j = E0 j := fun j hj => (hsq2 j (by omega)).trans (hF j hj)
  refine J_aload_n (q := 6) X dX0_restart_5 rfl rfl ?_
  refine J_iconst (q := 7) X dX0_restart_6 rfl ?_
  refine J_put (q := 10) (ty := .int) X dX0_restart_7 fX0_15 rfl (by decide +kernel) rfl rfl hB (by omega) (Nat.le_of_ble_eq_true rfl) rfl (fun Ew7 hkq7 hsq7 => ?_)
  replace hB : Ew7 5 = .inr (0, [.int (jI _), .int (jI _), .int (jI _), .int (jI _), .int (jI _)]) := hkq7
  replace hF : ∀ j : Nat, j ≠ 5 → Ew7 j = E0 j := fun j hj => (hsq7 j (by omega)).trans (hF j hj)
  refine J_aload_n (q := 11) X dX0_restart_10 rfl rfl ?_
  refine J_iconst (q := 12) X dX0_restart_11 rfl ?_
  refine J_put (q := 15) (ty := .int) X dX0_restart_12 fX0_18 rfl (by decide +kernel) rfl rfl hB (by omega) (Nat.le_of_ble_eq_true rfl) rfl (fun Ew12 hkq12 hsq12 => ?_)
  replace hB : Ew12 5 = .inr (0, [.int (jI _), .int (jI _), .int (jI _), .int (jI _), .int (jI _)]) := hkq12
  replace hF : ∀ j : Nat, j ≠ 5 → Ew12 j = E0 j := fun j hj => (hsq12 j (by omega)).trans (hF j hj)
  refine J_aload_n (q := 16) X dX0_restart_15 rfl rfl ?_
  refine J_iconst (q := 17) X dX0_restart_16 rfl ?_
  refine J_put (q := 20) (ty := .int) X dX0_restart_17 fX0_21 rfl (by decide +kernel) rfl rfl hB (by omega) (Nat.le_of_ble_eq_true rfl) rfl (fun Ew17 hkq17 hsq17 => ?_)
  replace hB : Ew17 5 = .inr (0, [.int (jI _), .int (jI _), .int (jI _), .int (jI _), .int (jI _)]) := hkq17
  replace hF : ∀ j : Nat, j ≠ 5 → Ew17 j = E0 j := fun j hj => (hsq17 j (by omega)).trans (hF j hj)
  refine J_aload_n (q := 21) X dX0_restart_20 rfl rfl ?_
  refine J_bipush (q := 23) X dX0_restart_21 rfl (by decide) ?_
  refine J_put (q := 26) (ty := .int) X dX0_restart_23 fX0_24 rfl (by decide +kernel) rfl rfl hB (by omega) (Nat.le_of_ble_eq_true rfl) rfl (fun Ew23 hkq23 hsq23 => ?_)
  replace hB : Ew23 5 = .inr (0, [.int (jI _), .int (jI _), .int (jI _), .int (jI _), .int (jI _)]) := hkq23
  replace hF : ∀ j : Nat, j ≠ 5 → Ew23 j = E0 j := fun j hj => (hsq23 j (by omega)).trans (hF j hj)
  refine J_vret X R dX0_restart_26 ?_
  rw [hE0] at hF
  exact ⟨rfl, hB, hF⟩

set_option maxRecDepth 100000 in
set_option maxHeartbeats 4000000 in
theorem c_X0_tokenTaken {l : Launch} {Γ : JG} {ad : Nat → Nat} {E : Nat → va_E} {b0 b1 b2 b3 b4 : Int} (hB : E 5 = .inr (0, [.int (jI b0), .int (jI b1), .int (jI b2), .int (jI b3), .int (jI b4)])) : JM l Γ yX0_tokenTaken cX0_tokenTaken 1 none 0 0 0 0 ad 95 E [.ref (ad 5)] (pV (fun E' => E' 5 = .inr (0, [.int (jI b0), .int (jI b1), .int (jI b2), .int (jI (b3 + 1)), .int (jI b4)]) ∧ ∀ j : Nat, j ≠ 5 → E' j = E j)) := by
  refine JM_intro (own := RX0) [some (.ref (ad 5))] rfl rfl rfl (Nat.le_of_ble_eq_true rfl) ?_
  intro Ω X R hin
  obtain ⟨E0, hE0⟩ : ∃ E0 : Nat → va_E, E0 = E := ⟨_, rfl⟩
  have hF : ∀ j : Nat, j ≠ 5 → E j = E0 j := fun _ _ => by rw [hE0]
  refine J_aload_n (q := 1) X dX0_tokenTaken_0 rfl rfl ?_
  refine J_dup (q := 2) X dX0_tokenTaken_1 rfl rfl ?_
  refine J_get (q := 5) X dX0_tokenTaken_2 fX0_21 hB (by omega) rfl rfl ?_
  refine J_iconst (q := 6) X dX0_tokenTaken_5 rfl ?_
  refine J_iadd (q := 7) X dX0_tokenTaken_6 rfl ?_
  refine J_put (q := 10) (ty := .int) X dX0_tokenTaken_7 fX0_21 rfl (by decide +kernel) rfl rfl hB (by omega) (Nat.le_of_ble_eq_true rfl) rfl (fun Ew7 hkq7 hsq7 => ?_)
  replace hB : Ew7 5 = .inr (0, [.int (jI _), .int (jI _), .int (jI _), .int (jI _), .int (jI _)]) := hkq7
  replace hF : ∀ j : Nat, j ≠ 5 → Ew7 j = E0 j := fun j hj => (hsq7 j (by omega)).trans (hF j hj)
  refine J_vret X R dX0_tokenTaken_10 ?_
  rw [hE0] at hF
  exact ⟨rfl, hB, hF⟩

set_option maxRecDepth 100000 in
set_option maxHeartbeats 4000000 in
theorem c_X0_lineTaken {l : Launch} {Γ : JG} {ad : Nat → Nat} {E : Nat → va_E} {b0 b1 b2 b3 b4 : Int} (hB : E 5 = .inr (0, [.int (jI b0), .int (jI b1), .int (jI b2), .int (jI b3), .int (jI b4)])) : JM l Γ yX0_lineTaken cX0_lineTaken 1 none 0 0 0 0 ad 95 E [.ref (ad 5)] (pV (fun E' => E' 5 = .inr (0, [.int (jI b0), .int (jI b1), .int (jI (b2 + 1)), .int (jI 0), .int (jI b4)]) ∧ ∀ j : Nat, j ≠ 5 → E' j = E j)) := by
  refine JM_intro (own := RX0) [some (.ref (ad 5))] rfl rfl rfl (Nat.le_of_ble_eq_true rfl) ?_
  intro Ω X R hin
  obtain ⟨E0, hE0⟩ : ∃ E0 : Nat → va_E, E0 = E := ⟨_, rfl⟩
  have hF : ∀ j : Nat, j ≠ 5 → E j = E0 j := fun _ _ => by rw [hE0]
  refine J_aload_n (q := 1) X dX0_lineTaken_0 rfl rfl ?_
  refine J_dup (q := 2) X dX0_lineTaken_1 rfl rfl ?_
  refine J_get (q := 5) X dX0_lineTaken_2 fX0_18 hB (by omega) rfl rfl ?_
  refine J_iconst (q := 6) X dX0_lineTaken_5 rfl ?_
  refine J_iadd (q := 7) X dX0_lineTaken_6 rfl ?_
  refine J_put (q := 10) (ty := .int) X dX0_lineTaken_7 fX0_18 rfl (by decide +kernel) rfl rfl hB (by omega) (Nat.le_of_ble_eq_true rfl) rfl (fun Ew7 hkq7 hsq7 => ?_)
  replace hB : Ew7 5 = .inr (0, [.int (jI _), .int (jI _), .int (jI _), .int (jI _), .int (jI _)]) := hkq7
  replace hF : ∀ j : Nat, j ≠ 5 → Ew7 j = E0 j := fun j hj => (hsq7 j (by omega)).trans (hF j hj)
  refine J_aload_n (q := 11) X dX0_lineTaken_10 rfl rfl ?_
  refine J_iconst (q := 12) X dX0_lineTaken_11 rfl ?_
  refine J_put (q := 15) (ty := .int) X dX0_lineTaken_12 fX0_21 rfl (by decide +kernel) rfl rfl hB (by omega) (Nat.le_of_ble_eq_true rfl) rfl (fun Ew12 hkq12 hsq12 => ?_)
  replace hB : Ew12 5 = .inr (0, [.int (jI _), .int (jI _), .int (jI _), .int (jI _), .int (jI _)]) := hkq12
  replace hF : ∀ j : Nat, j ≠ 5 → Ew12 j = E0 j := fun j hj => (hsq12 j (by omega)).trans (hF j hj)
  refine J_vret X R dX0_lineTaken_15 ?_
  rw [hE0] at hF
  exact ⟨rfl, hB, hF⟩

set_option maxRecDepth 100000 in
set_option maxHeartbeats 4000000 in
theorem c_X0_stopAt {l : Launch} {Γ : JG} {ad : Nat → Nat} {E : Nat → va_E} {b0 b1 b2 b3 b4 : Int} {v w : Int} (hB : E 5 = .inr (0, [.int (jI b0), .int (jI b1), .int (jI b2), .int (jI b3), .int (jI b4)])) : JM l Γ yX0_stopAt cX0_stopAt 3 (some .boolean) 0 0 0 0 ad 95 E [.ref (ad 5), .int (jI v), .int (jI w)] (pI (fun z E' => z = 0 ∧ E' 5 = .inr (0, [.int (jI v), .int (jI w), .int (jI b2), .int (jI b3), .int (jI b4)]) ∧ ∀ j : Nat, j ≠ 5 → E' j = E j)) := by
  refine JM_intro (own := RX0) [some (.ref (ad 5)), some (.int (jI v)), some (.int (jI w))] rfl rfl rfl (Nat.le_of_ble_eq_true rfl) ?_
  intro Ω X R hin
  obtain ⟨E0, hE0⟩ : ∃ E0 : Nat → va_E, E0 = E := ⟨_, rfl⟩
  have hF : ∀ j : Nat, j ≠ 5 → E j = E0 j := fun _ _ => by rw [hE0]
  refine J_aload_n (q := 1) X dX0_stopAt_0 rfl rfl ?_
  refine J_iload_n (q := 2) X dX0_stopAt_1 rfl rfl ?_
  refine J_put (q := 5) (ty := .int) X dX0_stopAt_2 fX0_9 rfl (by decide +kernel) rfl rfl hB (by omega) (Nat.le_of_ble_eq_true rfl) rfl (fun Ew2 hkq2 hsq2 => ?_)
  replace hB : Ew2 5 = .inr (0, [.int (jI _), .int (jI _), .int (jI _), .int (jI _), .int (jI _)]) := hkq2
  replace hF : ∀ j : Nat, j ≠ 5 → Ew2 j = E0 j := fun j hj => (hsq2 j (by omega)).trans (hF j hj)
  refine J_aload_n (q := 6) X dX0_stopAt_5 rfl rfl ?_
  refine J_iload_n (q := 7) X dX0_stopAt_6 rfl rfl ?_
  refine J_put (q := 10) (ty := .int) X dX0_stopAt_7 fX0_15 rfl (by decide +kernel) rfl rfl hB (by omega) (Nat.le_of_ble_eq_true rfl) rfl (fun Ew7 hkq7 hsq7 => ?_)
  replace hB : Ew7 5 = .inr (0, [.int (jI _), .int (jI _), .int (jI _), .int (jI _), .int (jI _)]) := hkq7
  replace hF : ∀ j : Nat, j ≠ 5 → Ew7 j = E0 j := fun j hj => (hsq7 j (by omega)).trans (hF j hj)
  refine J_iconst (q := 11) X dX0_stopAt_10 rfl ?_
  refine J_zret X R dX0_stopAt_11 (nrw_z (by omega)) ?_
  rw [hE0] at hF
  exact ⟨0, rfl, rfl, hB, hF⟩

set_option maxRecDepth 100000 in
set_option maxHeartbeats 4000000 in
theorem c_X0_stopInQuote {l : Launch} {Γ : JG} {ad : Nat → Nat} {E : Nat → va_E} {b0 b1 b2 b3 b4 : Int} {v w u : Int} (hB : E 5 = .inr (0, [.int (jI b0), .int (jI b1), .int (jI b2), .int (jI b3), .int (jI b4)])) : JM l Γ yX0_stopInQuote cX0_stopInQuote 4 (some .boolean) 1 22 0 0 ad 95 E [.ref (ad 5), .int (jI v), .int (jI w), .int (jI u)] (pI (fun z E' => z = 0 ∧ E' 5 = .inr (0, [.int (jI v), .int (jI w), .int (jI b2), .int (jI b3), .int (jI u)]) ∧ ∀ j : Nat, j ≠ 5 → E' j = E j)) := by
  refine JM_intro (own := RX0) [some (.ref (ad 5)), some (.int (jI v)), some (.int (jI w)), some (.int (jI u))] rfl rfl rfl (Nat.le_of_ble_eq_true rfl) ?_
  intro Ω X R hin
  obtain ⟨E0, hE0⟩ : ∃ E0 : Nat → va_E, E0 = E := ⟨_, rfl⟩
  have hF : ∀ j : Nat, j ≠ 5 → E j = E0 j := fun _ _ => by rw [hE0]
  refine J_aload_n (q := 1) X dX0_stopInQuote_0 rfl rfl ?_
  refine J_iload_n (q := 2) X dX0_stopInQuote_1 rfl rfl ?_
  refine J_put (q := 5) (ty := .int) X dX0_stopInQuote_2 fX0_24 rfl (by decide +kernel) rfl rfl hB (by omega) (Nat.le_of_ble_eq_true rfl) rfl (fun Ew2 hkq2 hsq2 => ?_)
  replace hB : Ew2 5 = .inr (0, [.int (jI _), .int (jI _), .int (jI _), .int (jI _), .int (jI _)]) := hkq2
  replace hF : ∀ j : Nat, j ≠ 5 → Ew2 j = E0 j := fun j hj => (hsq2 j (by omega)).trans (hF j hj)
  refine J_aload_n (q := 6) X dX0_stopInQuote_5 rfl rfl ?_
  refine J_iload_n (q := 7) X dX0_stopInQuote_6 rfl rfl ?_
  refine J_iload_n (q := 8) X dX0_stopInQuote_7 rfl rfl ?_
  refine J_callI (q := 11) (jrV X mX0_27 dX0_stopInQuote_8 (c_X0_stopAt hB) hB (by omega) rfl rfl rfl rfl (Nat.le_of_ble_eq_true rfl) (by decide)) rfl (fun zq8 Ew8 hpq8 => ?_)
  obtain ⟨hzq8, kB, hsq8⟩ := hpq8
  replace hB := kB
  replace hF : ∀ j : Nat, j ≠ 5 → Ew8 j = E0 j := fun j hj => (hsq8 j (by omega)).trans (hF j hj)
  refine J_zret X R dX0_stopInQuote_11 (nrw_z (by omega)) ?_
  rw [hE0] at hF
  exact ⟨zq8, rfl, hzq8, hB, hF⟩

set_option maxRecDepth 100000 in
set_option maxHeartbeats 4000000 in
theorem c_X0_part {l : Launch} {Γ : JG} {ad : Nat → Nat} {E : Nat → va_E} {b0 b1 b2 b3 b4 : Int} {w : Int} (hB : E 5 = .inr (0, [.int (jI b0), .int (jI b1), .int (jI b2), .int (jI b3), .int (jI b4)])) (hw : 0 ≤ w ∧ w ≤ 2) (hb : 0 ≤ b0 ∧ b0 ≤ 6) : JM l Γ yX0_part cX0_part 2 (some .int) 0 0 0 0 ad 95 E [.ref (ad 5), .int (jI w)] (pP (if b0 = 0 ∨ b0 = 6 then -4 else if w = 0 then b2 else if w = 1 then b3 else b4) E) := by
  refine JM_intro (own := RX0) [some (.ref (ad 5)), some (.int (jI w))] rfl rfl rfl (Nat.le_of_ble_eq_true rfl) ?_
  intro Ω X R hin
  refine J_aload_n (q := 1) X dX0_part_0 rfl rfl ?_
  refine J_get (q := 4) X dX0_part_1 fX0_9 hB (by omega) rfl rfl ?_
  refine J_if_eq (q := 7) (tgt := 16) X dX0_part_4 (by decide) rfl (by omega) (fun cq4 => ?_) (fun cq4 => ?_)
  · refine J_bipush (q := 18) X dX0_part_16 rfl (by decide) ?_
    refine J_iret X R dX0_part_18 ?_
    exact ⟨by first | (rw [if_pos (by omega)]; done) | (rw [if_neg (by omega), if_pos (by omega)]; done) | (rw [if_neg (by omega), if_neg (by omega), if_pos (by omega)]; done) | (rw [if_neg (by omega), if_neg (by omega), if_neg (by omega)]; done), rfl⟩
  · refine J_aload_n (q := 8) X dX0_part_7 rfl rfl ?_
    refine J_get (q := 11) X dX0_part_8 fX0_9 hB (by omega) rfl rfl ?_
    refine J_bipush (q := 13) X dX0_part_11 rfl (by decide) ?_
    refine J_icmp_ne (q := 16) (tgt := 19) X dX0_part_13 (by decide) rfl (by omega) (by omega) (fun cq13 => ?_) (fun cq13 => ?_)
    · refine J_iload_n (q := 20) X dX0_part_19 rfl rfl ?_
      rcases (show (w ≠ 0 ∧ w ≠ 1) ∨ w = 0 ∨ w = 1 by omega) with hsw | hsw | hsw
      · refine J_lookup (tgt := 58) (off := 38) X dX0_part_20 (by decide) (by omega) (by simp only [Op.lookupswitch.offset_cons, Op.lookupswitch.offset]; first | (repeat rw [if_neg (by omega)]) | simp; done) (by decide) ?_
        refine J_aload_n (q := 59) X dX0_part_58 rfl rfl ?_
        refine J_get (q := 62) X dX0_part_59 fX0_24 hB (by omega) rfl rfl ?_
        refine J_iret X R dX0_part_62 ?_
        exact ⟨by first | (rw [if_pos (by omega)]; done) | (rw [if_neg (by omega), if_pos (by omega)]; done) | (rw [if_neg (by omega), if_neg (by omega), if_pos (by omega)]; done) | (rw [if_neg (by omega), if_neg (by omega), if_neg (by omega)]; done), rfl⟩
      · refine J_lookup (tgt := 48) (off := 28) X dX0_part_20 (by decide) (by omega) (by rw [hsw]; decide) (by decide) ?_
        refine J_aload_n (q := 49) X dX0_part_48 rfl rfl ?_
        refine J_get (q := 52) X dX0_part_49 fX0_18 hB (by omega) rfl rfl ?_
        refine J_iret X R dX0_part_52 ?_
        exact ⟨by first | (rw [if_pos (by omega)]; done) | (rw [if_neg (by omega), if_pos (by omega)]; done) | (rw [if_neg (by omega), if_neg (by omega), if_pos (by omega)]; done) | (rw [if_neg (by omega), if_neg (by omega), if_neg (by omega)]; done), rfl⟩
      · refine J_lookup (tgt := 53) (off := 33) X dX0_part_20 (by decide) (by omega) (by rw [hsw]; decide) (by decide) ?_
        refine J_aload_n (q := 54) X dX0_part_53 rfl rfl ?_
        refine J_get (q := 57) X dX0_part_54 fX0_21 hB (by omega) rfl rfl ?_
        refine J_iret X R dX0_part_57 ?_
        exact ⟨by first | (rw [if_pos (by omega)]; done) | (rw [if_neg (by omega), if_pos (by omega)]; done) | (rw [if_neg (by omega), if_neg (by omega), if_pos (by omega)]; done) | (rw [if_neg (by omega), if_neg (by omega), if_neg (by omega)]; done), rfl⟩
    · refine J_bipush (q := 18) X dX0_part_16 rfl (by decide) ?_
      refine J_iret X R dX0_part_18 ?_
      exact ⟨by first | (rw [if_pos (by omega)]; done) | (rw [if_neg (by omega), if_pos (by omega)]; done) | (rw [if_neg (by omega), if_neg (by omega), if_pos (by omega)]; done) | (rw [if_neg (by omega), if_neg (by omega), if_neg (by omega)]; done), rfl⟩

set_option maxRecDepth 100000 in
set_option maxHeartbeats 4000000 in
theorem c_X4_makeNew {l : Launch} {Γ : JG} {ad : Nat → Nat} {E : Nat → va_E} {r c : Nat} {th la n : Int} {f : Int → Int} {k m : Int} (hS : E r = .inr (4, [.ref (ad c), .int (jI th), .int (jI la), .int (jI n)])) (hC : E c = aI Γ 40 f) (hr : r < 95 ∧ c < 95 ∧ r ≠ c) (hm : 0 ≤ m ∧ m ≤ 40) : JM l Γ yX4_makeNew cX4_makeNew 4 none 0 0 0 0 ad 95 E [.ref (ad r), .int (jI k), .int (jI m)] (pV (fun E' => E' r = .inr (4, [.ref (ad c), .int (jI 1), .int (jI k), .int (jI m)]) ∧ E' c = aI Γ 40 (fun t => if 0 ≤ t ∧ t < m then 0 else f t) ∧ ∀ j : Nat, j ≠ r ∧ j ≠ c → E' j = E j)) := by
  refine JM_intro (own := RX4) [some (.ref (ad r)), some (.int (jI k)), some (.int (jI m)), none] rfl rfl rfl (Nat.le_of_ble_eq_true rfl) ?_
  intro Ω X R hin
  obtain ⟨E0, hE0⟩ : ∃ E0 : Nat → va_E, E0 = E := ⟨_, rfl⟩
  have hF : ∀ j : Nat, j ≠ r ∧ j ≠ c → E j = E0 j := fun _ _ => by rw [hE0]
  refine J_aload_n (q := 1) X dX4_makeNew_0 rfl rfl ?_
  refine J_iconst (q := 2) X dX4_makeNew_1 rfl ?_
  refine J_put (q := 5) (ty := .boolean) X dX4_makeNew_2 fX4_15 rfl (by decide +kernel) (nrw_z (by omega)) (fit_z (by omega)) hS (by omega) (Nat.le_of_ble_eq_true rfl) rfl (fun Ew2 hkq2 hsq2 => ?_)
  replace hS : Ew2 r = .inr (4, [.ref (ad c), .int (jI _), .int (jI _), .int (jI _)]) := hkq2
  replace hC := (hsq2 c (by omega)).trans hC
  replace hF : ∀ j : Nat, j ≠ r ∧ j ≠ c → Ew2 j = E0 j := fun j hj => (hsq2 j (by omega)).trans (hF j hj)
  refine J_aload_n (q := 6) X dX4_makeNew_5 rfl rfl ?_
  refine J_iload_n (q := 7) X dX4_makeNew_6 rfl rfl ?_
  refine J_put (q := 10) (ty := .int) X dX4_makeNew_7 fX4_19 rfl (by decide +kernel) rfl rfl hS (by omega) (Nat.le_of_ble_eq_true rfl) rfl (fun Ew7 hkq7 hsq7 => ?_)
  replace hS : Ew7 r = .inr (4, [.ref (ad c), .int (jI _), .int (jI _), .int (jI _)]) := hkq7
  replace hC := (hsq7 c (by omega)).trans hC
  replace hF : ∀ j : Nat, j ≠ r ∧ j ≠ c → Ew7 j = E0 j := fun j hj => (hsq7 j (by omega)).trans (hF j hj)
  refine J_aload_n (q := 11) X dX4_makeNew_10 rfl rfl ?_
  refine J_iload_n (q := 12) X dX4_makeNew_11 rfl rfl ?_
  refine J_put (q := 15) (ty := .int) X dX4_makeNew_12 fX4_23 rfl (by decide +kernel) rfl rfl hS (by omega) (Nat.le_of_ble_eq_true rfl) rfl (fun Ew12 hkq12 hsq12 => ?_)
  replace hS : Ew12 r = .inr (4, [.ref (ad c), .int (jI _), .int (jI _), .int (jI _)]) := hkq12
  replace hC := (hsq12 c (by omega)).trans hC
  replace hF : ∀ j : Nat, j ≠ r ∧ j ≠ c → Ew12 j = E0 j := fun j hj => (hsq12 j (by omega)).trans (hF j hj)
  refine J_iconst (q := 16) X dX4_makeNew_15 rfl ?_
  refine J_istore_n (q := 17) X dX4_makeNew_16 (by decide) rfl rfl ?_
  have lp17 : ∀ (mm : Nat) (i : Int) (g : Int → Int) (E : Nat → va_E) (hi : 0 ≤ i ∧ i ≤ m) (hg : ∀ t : Int, g t = if 0 ≤ t ∧ t < i then 0 else f t) (hS : E r = .inr (4, [.ref (ad c), .int (jI 1), .int (jI k), .int (jI m)])) (hC : E c = aI Γ 40 g) (hF : ∀ j : Nat, j ≠ r ∧ j ≠ c → E j = E0 j) (hmm : m - i + 1 ≤ (mm : Int)), J l Γ Ω 4 ad 95 0 0 E 17 [some (.ref (ad r)), some (.int (jI k)), some (.int (jI m)), some (.int (jI i))] [] := by
    intro mm
    induction mm with
    | zero => intro i g E hi hg hS hC hF hmm; exfalso; omega
    | succ mm ih17 =>
      intro i g E hi hg hS hC hF hmm
      refine J_iload_n (q := 18) X dX4_makeNew_17 rfl rfl ?_
      refine J_iload_n (q := 19) X dX4_makeNew_18 rfl rfl ?_
      refine J_icmp_ge (q := 22) (tgt := 35) X dX4_makeNew_19 (by decide) rfl (by omega) (by omega) (fun cq19 => ?_) (fun cq19 => ?_)
      · refine J_vret X R dX4_makeNew_35 ?_
        rw [hE0] at hF
        have hge : g = fun t => if 0 ≤ t ∧ t < m then 0 else f t := by
          funext t
          rw [hg t, show i = m by omega]
        rw [hge] at hC
        exact ⟨rfl, hS, hC, hF⟩
      · refine J_aload_n (q := 23) X dX4_makeNew_22 rfl rfl ?_
        refine J_get (q := 26) X dX4_makeNew_23 fX4_9 hS (by omega) rfl rfl ?_
        refine J_iload_n (q := 27) X dX4_makeNew_26 rfl rfl ?_
        refine J_iconst (q := 28) X dX4_makeNew_27 rfl ?_
        refine J_iast (q := 29) X dX4_makeNew_28 hC (by omega) (by omega) (by decide) rfl (fun Ew28 hkq28 hsq28 => ?_)
        replace hC := hkq28
        replace hS := (hsq28 r (by omega)).trans hS
        replace hF : ∀ j : Nat, j ≠ r ∧ j ≠ c → Ew28 j = E0 j := fun j hj => (hsq28 j (by omega)).trans (hF j hj)
        refine J_iinc (q := 32) X dX4_makeNew_29 rfl (by decide) rfl rfl ?_
        refine J_goto (q := 17) X dX4_makeNew_32 (by decide) ?_
        refine ih17 _ _ _ (by omega) (fun t => ?_) hS hC hF (by omega)
        simp only [iu, hg t]
        repeat' split
        all_goals first | rfl | (exfalso; omega)
  exact lp17 100 _ f _ (by omega) (fun t => by rw [if_neg (by omega)]) hS hC hF (by omega)

set_option maxRecDepth 100000 in
set_option maxHeartbeats 4000000 in
theorem c_X4_faultAt {l : Launch} {Γ : JG} {ad : Nat → Nat} {E : Nat → va_E} {r c : Nat} {th la n : Int} {f : Int → Int} {w i : Int} (hS : E r = .inr (4, [.ref (ad c), .int (jI th), .int (jI la), .int (jI n)])) (hC : E c = aI Γ 40 f) (hr : r < 95 ∧ c < 95 ∧ r ≠ c) (hth : th = 0 ∨ th = 1) (hla : 0 ≤ la ∧ la ≤ 2) (hn : 0 ≤ n ∧ n ≤ 40) (hw : -2147483648 ≤ w ∧ w < 2147483648) (hi : -2147483648 ≤ i ∧ i < 2147483648) : JM l Γ yX4_faultAt cX4_faultAt 3 (some .int) 0 0 0 0 ad 95 E [.ref (ad r), .int (jI w), .int (jI i)] (pP (if th = 0 then 1 else if w ≠ la then 3 else if i < 0 ∨ n ≤ i then 2 else 0) E) := by
  refine JM_intro (own := RX4) [some (.ref (ad r)), some (.int (jI w)), some (.int (jI i))] rfl rfl rfl (Nat.le_of_ble_eq_true rfl) ?_
  intro Ω X R hin
  refine J_aload_n (q := 1) X dX4_faultAt_0 rfl rfl ?_
  refine J_get (q := 4) X dX4_faultAt_1 fX4_15 hS (by omega) rfl rfl ?_
  refine J_if_ne (q := 7) (tgt := 9) X dX4_faultAt_4 (by decide) rfl (by omega) (fun cq4 => ?_) (fun cq4 => ?_)
  · refine J_iload_n (q := 10) X dX4_faultAt_9 rfl rfl ?_
    refine J_aload_n (q := 11) X dX4_faultAt_10 rfl rfl ?_
    refine J_get (q := 14) X dX4_faultAt_11 fX4_19 hS (by omega) rfl rfl ?_
    refine J_icmp_eq (q := 17) (tgt := 19) X dX4_faultAt_14 (by decide) rfl (by omega) (by omega) (fun cq14 => ?_) (fun cq14 => ?_)
    · refine J_iload_n (q := 20) X dX4_faultAt_19 rfl rfl ?_
      refine J_if_lt (q := 23) (tgt := 31) X dX4_faultAt_20 (by decide) rfl (by omega) (fun cq20 => ?_) (fun cq20 => ?_)
      · refine J_iconst (q := 32) X dX4_faultAt_31 rfl ?_
        refine J_goto (q := 36) X dX4_faultAt_32 (by decide) ?_
        refine J_iret X R dX4_faultAt_36 ?_
        exact ⟨by repeat (first | (rw [if_pos (by omega)]; done) | rw [if_neg (by omega)]), rfl⟩
      · refine J_iload_n (q := 24) X dX4_faultAt_23 rfl rfl ?_
        refine J_aload_n (q := 25) X dX4_faultAt_24 rfl rfl ?_
        refine J_get (q := 28) X dX4_faultAt_25 fX4_23 hS (by omega) rfl rfl ?_
        refine J_icmp_lt (q := 31) (tgt := 35) X dX4_faultAt_28 (by decide) rfl (by omega) (by omega) (fun cq28 => ?_) (fun cq28 => ?_)
        · refine J_iconst (q := 36) X dX4_faultAt_35 rfl ?_
          refine J_iret X R dX4_faultAt_36 ?_
          exact ⟨by repeat (first | (rw [if_pos (by omega)]; done) | rw [if_neg (by omega)]), rfl⟩
        · refine J_iconst (q := 32) X dX4_faultAt_31 rfl ?_
          refine J_goto (q := 36) X dX4_faultAt_32 (by decide) ?_
          refine J_iret X R dX4_faultAt_36 ?_
          exact ⟨by repeat (first | (rw [if_pos (by omega)]; done) | rw [if_neg (by omega)]), rfl⟩
    · refine J_iconst (q := 18) X dX4_faultAt_17 rfl ?_
      refine J_iret X R dX4_faultAt_18 ?_
      exact ⟨by repeat (first | (rw [if_pos (by omega)]; done) | rw [if_neg (by omega)]), rfl⟩
  · refine J_iconst (q := 8) X dX4_faultAt_7 rfl ?_
    refine J_iret X R dX4_faultAt_8 ?_
    exact ⟨by repeat (first | (rw [if_pos (by omega)]; done) | rw [if_neg (by omega)]), rfl⟩

set_option maxRecDepth 100000 in
set_option maxHeartbeats 4000000 in
theorem c_X4_setCell {l : Launch} {Γ : JG} {ad : Nat → Nat} {E : Nat → va_E} {r c : Nat} {th la n : Int} {f : Int → Int} {i v : Int} (hS : E r = .inr (4, [.ref (ad c), .int (jI th), .int (jI la), .int (jI n)])) (hC : E c = aI Γ 40 f) (hr : r < 95 ∧ c < 95 ∧ r ≠ c) (hth : th = 0 ∨ th = 1) (hla : 0 ≤ la ∧ la ≤ 2) (hn : 0 ≤ n ∧ n ≤ 40) (hi : 0 ≤ i ∧ i < 40) : JM l Γ yX4_setCell cX4_setCell 3 none 0 0 0 0 ad 95 E [.ref (ad r), .int (jI i), .int (jI v)] (pV (fun E' => E' c = aI Γ 40 (iu f i (lanev la v)) ∧ ∀ j : Nat, j ≠ c → E' j = E j)) := by
  refine JM_intro (own := RX4) [some (.ref (ad r)), some (.int (jI i)), some (.int (jI v))] rfl rfl rfl (Nat.le_of_ble_eq_true rfl) ?_
  intro Ω X R hin
  obtain ⟨E0, hE0⟩ : ∃ E0 : Nat → va_E, E0 = E := ⟨_, rfl⟩
  have hF : ∀ j : Nat, j ≠ c → E j = E0 j := fun _ _ => by rw [hE0]
  refine J_aload_n (q := 1) X dX4_setCell_0 rfl rfl ?_
  refine J_get (q := 4) X dX4_setCell_1 fX4_19 hS (by omega) rfl rfl ?_
  rcases (show (la ≠ 0 ∧ la ≠ 1) ∨ la = 0 ∨ la = 1 by omega) with hsw | hsw | hsw
  · refine J_lookup (tgt := 54) (off := 50) X dX4_setCell_4 (by decide) (by omega) (by simp only [Op.lookupswitch.offset_cons, Op.lookupswitch.offset]; first | (repeat rw [if_neg (by omega)]) | simp; done) (by decide) ?_
    refine J_aload_n (q := 55) X dX4_setCell_54 rfl rfl ?_
    refine J_get (q := 58) X dX4_setCell_55 fX4_9 hS (by omega) rfl rfl ?_
    refine J_iload_n (q := 59) X dX4_setCell_58 rfl rfl ?_
    refine J_iload_n (q := 60) X dX4_setCell_59 rfl rfl ?_
    refine J_iast (q := 61) X dX4_setCell_60 hC (by omega) (by omega) (by decide) rfl (fun Ew60 hkq60 hsq60 => ?_)
    replace hC := hkq60
    replace hS := (hsq60 r (by omega)).trans hS
    replace hF : ∀ j : Nat, j ≠ c → Ew60 j = E0 j := fun j hj => (hsq60 j (by omega)).trans (hF j hj)
    refine J_vret X R dX4_setCell_61 ?_
    rw [hE0] at hF
    refine ⟨rfl, ?_, hF⟩
    unfold lanev
    first | (rw [if_pos (by omega)]; exact hC) | (rw [if_neg (by omega), if_pos (by omega)]; exact hC) | (rw [if_neg (by omega), if_neg (by omega)]; exact hC)
  · refine J_lookup (tgt := 32) (off := 28) X dX4_setCell_4 (by decide) (by omega) (by rw [hsw]; decide) (by decide) ?_
    refine J_aload_n (q := 33) X dX4_setCell_32 rfl rfl ?_
    refine J_get (q := 36) X dX4_setCell_33 fX4_9 hS (by omega) rfl rfl ?_
    refine J_iload_n (q := 37) X dX4_setCell_36 rfl rfl ?_
    refine J_iload_n (q := 38) X dX4_setCell_37 rfl rfl ?_
    refine J_i2b (q := 39) X dX4_setCell_38 rfl (jI_i2b v) ?_
    refine J_iast (q := 40) X dX4_setCell_39 hC (by omega) (by omega) (by decide) rfl (fun Ew39 hkq39 hsq39 => ?_)
    replace hC := hkq39
    replace hS := (hsq39 r (by omega)).trans hS
    replace hF : ∀ j : Nat, j ≠ c → Ew39 j = E0 j := fun j hj => (hsq39 j (by omega)).trans (hF j hj)
    refine J_goto (q := 61) X dX4_setCell_40 (by decide) ?_
    refine J_vret X R dX4_setCell_61 ?_
    rw [hE0] at hF
    refine ⟨rfl, ?_, hF⟩
    unfold lanev
    first | (rw [if_pos (by omega)]; exact hC) | (rw [if_neg (by omega), if_pos (by omega)]; exact hC) | (rw [if_neg (by omega), if_neg (by omega)]; exact hC)
  · refine J_lookup (tgt := 43) (off := 39) X dX4_setCell_4 (by decide) (by omega) (by rw [hsw]; decide) (by decide) ?_
    refine J_aload_n (q := 44) X dX4_setCell_43 rfl rfl ?_
    refine J_get (q := 47) X dX4_setCell_44 fX4_9 hS (by omega) rfl rfl ?_
    refine J_iload_n (q := 48) X dX4_setCell_47 rfl rfl ?_
    refine J_iload_n (q := 49) X dX4_setCell_48 rfl rfl ?_
    refine J_i2s (q := 50) X dX4_setCell_49 rfl (jI_i2s v) ?_
    refine J_iast (q := 51) X dX4_setCell_50 hC (by omega) (by omega) (by decide) rfl (fun Ew50 hkq50 hsq50 => ?_)
    replace hC := hkq50
    replace hS := (hsq50 r (by omega)).trans hS
    replace hF : ∀ j : Nat, j ≠ c → Ew50 j = E0 j := fun j hj => (hsq50 j (by omega)).trans (hF j hj)
    refine J_goto (q := 61) X dX4_setCell_51 (by decide) ?_
    refine J_vret X R dX4_setCell_61 ?_
    rw [hE0] at hF
    refine ⟨rfl, ?_, hF⟩
    unfold lanev
    first | (rw [if_pos (by omega)]; exact hC) | (rw [if_neg (by omega), if_pos (by omega)]; exact hC) | (rw [if_neg (by omega), if_neg (by omega)]; exact hC)
