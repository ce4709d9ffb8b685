set_option maxRecDepth 100000 in
set_option maxHeartbeats 4000000 in
theorem c_X3_hasSign {l : Launch} {Γ : JG} {ad : Nat → Nat} {E : Nat → va_E} {r c : Nat} {n : Int} {f : Int → Int} {i : Int}  (hR : E r = .inr (3, [.ref (ad c), .int (jI n)])) (hC : E c = aI Γ 60 f) (hr : r < 95 ∧ c < 95 ∧ r ≠ c) (hn : 0 ≤ n ∧ n ≤ 60) (hi : -2147483648 ≤ i ∧ i < 2147483648) : JM l Γ yX3_hasSign cX3_hasSign 2 (some .boolean) 0 0 0 0 ad 95 E [.ref (ad r), .int (jI i)] (pP (bI (0 ≤ i ∧ i < n)) E) := by
  refine JM_intro (own := RX3) [some (.ref (ad r)), some (.int (jI i))] rfl rfl rfl (Nat.le_of_ble_eq_true rfl) ?_
  intro Ω X R hin
  refine J_iload_n (q := 1) X dX3_hasSign_0 rfl rfl ?_
  refine J_if_lt (q := 4) (tgt := 16) X dX3_hasSign_1 (by decide) rfl (by omega) (fun cq1 => ?_) (fun cq1 => ?_)
  · refine J_iconst (q := 17) X dX3_hasSign_16 rfl ?_
    refine J_zret X R dX3_hasSign_17 (nrw_z (by omega)) ?_
    exact ⟨by unfold bI; first | (rw [if_pos (by omega)]; done) | (rw [if_neg (by omega)]; done), rfl⟩
  · refine J_iload_n (q := 5) X dX3_hasSign_4 rfl rfl ?_
    refine J_aload_n (q := 6) X dX3_hasSign_5 rfl rfl ?_
    refine J_get (q := 9) X dX3_hasSign_6 fX3_15 hR (by omega) rfl rfl ?_
    refine J_icmp_ge (q := 12) (tgt := 16) X dX3_hasSign_9 (by decide) rfl (by omega) (by omega) (fun cq9 => ?_) (fun cq9 => ?_)
    · refine J_iconst (q := 17) X dX3_hasSign_16 rfl ?_
      refine J_zret X R dX3_hasSign_17 (nrw_z (by omega)) ?_
      exact ⟨by unfold bI; first | (rw [if_pos (by omega)]; done) | (rw [if_neg (by omega)]; done), rfl⟩
    · refine J_iconst (q := 13) X dX3_hasSign_12 rfl ?_
      refine J_goto (q := 17) X dX3_hasSign_13 (by decide) ?_
      refine J_zret X R dX3_hasSign_17 (nrw_z (by omega)) ?_
      exact ⟨by unfold bI; first | (rw [if_pos (by omega)]; done) | (rw [if_neg (by omega)]; done), rfl⟩

set_option maxRecDepth 100000 in
set_option maxHeartbeats 4000000 in
theorem c_X3_hasPlace {l : Launch} {Γ : JG} {ad : Nat → Nat} {E : Nat → va_E} {r c : Nat} {n : Int} {f : Int → Int} {i : Int}  (hR : E r = .inr (3, [.ref (ad c), .int (jI n)])) (hC : E c = aI Γ 60 f) (hr : r < 95 ∧ c < 95 ∧ r ≠ c) (hn : 0 ≤ n ∧ n ≤ 60) (hi : -2147483648 ≤ i ∧ i < 2147483648) : JM l Γ yX3_hasPlace cX3_hasPlace 2 (some .boolean) 0 0 0 0 ad 95 E [.ref (ad r), .int (jI i)] (pP (bI (0 ≤ i ∧ i ≤ n)) E) := by
  refine JM_intro (own := RX3) [some (.ref (ad r)), some (.int (jI i))] rfl rfl rfl (Nat.le_of_ble_eq_true rfl) ?_
  intro Ω X R hin
  refine J_iload_n (q := 1) X dX3_hasPlace_0 rfl rfl ?_
  refine J_if_lt (q := 4) (tgt := 16) X dX3_hasPlace_1 (by decide) rfl (by omega) (fun cq1 => ?_) (fun cq1 => ?_)
  · refine J_iconst (q := 17) X dX3_hasPlace_16 rfl ?_
    refine J_zret X R dX3_hasPlace_17 (nrw_z (by omega)) ?_
    exact ⟨by unfold bI; first | (rw [if_pos (by omega)]; done) | (rw [if_neg (by omega)]; done), rfl⟩
  · refine J_iload_n (q := 5) X dX3_hasPlace_4 rfl rfl ?_
    refine J_aload_n (q := 6) X dX3_hasPlace_5 rfl rfl ?_
    refine J_get (q := 9) X dX3_hasPlace_6 fX3_15 hR (by omega) rfl rfl ?_
    refine J_icmp_gt (q := 12) (tgt := 16) X dX3_hasPlace_9 (by decide) rfl (by omega) (by omega) (fun cq9 => ?_) (fun cq9 => ?_)
    · refine J_iconst (q := 17) X dX3_hasPlace_16 rfl ?_
      refine J_zret X R dX3_hasPlace_17 (nrw_z (by omega)) ?_
      exact ⟨by unfold bI; first | (rw [if_pos (by omega)]; done) | (rw [if_neg (by omega)]; done), rfl⟩
    · refine J_iconst (q := 13) X dX3_hasPlace_12 rfl ?_
      refine J_goto (q := 17) X dX3_hasPlace_13 (by decide) ?_
      refine J_zret X R dX3_hasPlace_17 (nrw_z (by omega)) ?_
      exact ⟨by unfold bI; first | (rw [if_pos (by omega)]; done) | (rw [if_neg (by omega)]; done), rfl⟩

set_option maxRecDepth 100000 in
set_option maxHeartbeats 4000000 in
theorem c_X3_hasPart {l : Launch} {Γ : JG} {ad : Nat → Nat} {E : Nat → va_E} {r c : Nat} {n : Int} {f : Int → Int} {i m : Int}  (hR : E r = .inr (3, [.ref (ad c), .int (jI n)])) (hC : E c = aI Γ 60 f) (hr : r < 95 ∧ c < 95 ∧ r ≠ c) (hn : 0 ≤ n ∧ n ≤ 60) (hi : -2147483648 ≤ i ∧ i < 2147483648) (hm : -2147483648 ≤ m ∧ m < 2147483648) : JM l Γ yX3_hasPart cX3_hasPart 3 (some .boolean) 1 21 0 0 ad 95 E [.ref (ad r), .int (jI i), .int (jI m)] (pP (bI (0 ≤ i ∧ i < n ∧ 1 ≤ m ∧ m ≤ n - i)) E) := by
  refine JM_intro (own := RX3) [some (.ref (ad r)), some (.int (jI i)), some (.int (jI m))] rfl rfl rfl (Nat.le_of_ble_eq_true rfl) ?_
  intro Ω X R hin
  refine J_aload_n (q := 1) X dX3_hasPart_0 rfl rfl ?_
  refine J_iload_n (q := 2) X dX3_hasPart_1 rfl rfl ?_
  refine J_callP (q := 5) (jrV X mX3_19 dX3_hasPart_2 (c_X3_hasSign hR hC (by omega) (by omega) (by omega)) hR (by omega) rfl rfl rfl rfl (Nat.le_of_ble_eq_true rfl) (by decide)) rfl ?_
  refine J_if_eqB (q := 8) (tgt := 27) X dX3_hasPart_5 (by decide) rfl (fun cq5 => ?_) (fun cq5 => ?_)
  · refine J_iconst (q := 28) X dX3_hasPart_27 rfl ?_
    refine J_zret X R dX3_hasPart_28 (nrw_z (by omega)) ?_
    exact ⟨by unfold bI; first | (rw [if_pos (by omega)]; done) | (rw [if_neg (by omega)]; done), rfl⟩
  · refine J_iload_n (q := 9) X dX3_hasPart_8 rfl rfl ?_
    refine J_iconst (q := 10) X dX3_hasPart_9 rfl ?_
    refine J_icmp_lt (q := 13) (tgt := 27) X dX3_hasPart_10 (by decide) rfl (by omega) (by omega) (fun cq10 => ?_) (fun cq10 => ?_)
    · refine J_iconst (q := 28) X dX3_hasPart_27 rfl ?_
      refine J_zret X R dX3_hasPart_28 (nrw_z (by omega)) ?_
      exact ⟨by unfold bI; first | (rw [if_pos (by omega)]; done) | (rw [if_neg (by omega)]; done), rfl⟩
    · refine J_iload_n (q := 14) X dX3_hasPart_13 rfl rfl ?_
      refine J_aload_n (q := 15) X dX3_hasPart_14 rfl rfl ?_
      refine J_get (q := 18) X dX3_hasPart_15 fX3_15 hR (by omega) rfl rfl ?_
      refine J_iload_n (q := 19) X dX3_hasPart_18 rfl rfl ?_
      refine J_isub (q := 20) X dX3_hasPart_19 rfl ?_
      refine J_icmp_gt (q := 23) (tgt := 27) X dX3_hasPart_20 (by decide) rfl (by omega) (by omega) (fun cq20 => ?_) (fun cq20 => ?_)
      · refine J_iconst (q := 28) X dX3_hasPart_27 rfl ?_
        refine J_zret X R dX3_hasPart_28 (nrw_z (by omega)) ?_
        exact ⟨by unfold bI; first | (rw [if_pos (by omega)]; done) | (rw [if_neg (by omega)]; done), rfl⟩
      · refine J_iconst (q := 24) X dX3_hasPart_23 rfl ?_
        refine J_goto (q := 28) X dX3_hasPart_24 (by decide) ?_
        refine J_zret X R dX3_hasPart_28 (nrw_z (by omega)) ?_
        exact ⟨by unfold bI; first | (rw [if_pos (by omega)]; done) | (rw [if_neg (by omega)]; done), rfl⟩

set_option maxRecDepth 100000 in
set_option maxHeartbeats 4000000 in
theorem c_X3_room {l : Launch} {Γ : JG} {ad : Nat → Nat} {E : Nat → va_E} {r c : Nat} {n : Int} {f : Int → Int}  (hR : E r = .inr (3, [.ref (ad c), .int (jI n)])) (hC : E c = aI Γ 60 f) (hr : r < 95 ∧ c < 95 ∧ r ≠ c) (hn : 0 ≤ n ∧ n ≤ 60) : JM l Γ yX3_room cX3_room 1 (some .int) 0 0 0 0 ad 95 E [.ref (ad r)] (pP (60 - n) E) := by
  refine JM_intro (own := RX3) [some (.ref (ad r))] rfl rfl rfl (Nat.le_of_ble_eq_true rfl) ?_
  intro Ω X R hin
  refine J_bipush (q := 2) X dX3_room_0 rfl (by decide) ?_
  refine J_aload_n (q := 3) X dX3_room_2 rfl rfl ?_
  refine J_get (q := 6) X dX3_room_3 fX3_15 hR (by omega) rfl rfl ?_
  refine J_isub (q := 7) X dX3_room_6 rfl ?_
  refine J_iret X R dX3_room_7 ?_
  exact ⟨rfl, rfl⟩

set_option maxRecDepth 100000 in
set_option maxHeartbeats 4000000 in
theorem c_X3_byteAt {l : Launch} {Γ : JG} {ad : Nat → Nat} {E : Nat → va_E} {r c : Nat} {n : Int} {f : Int → Int} {i : Int}  (hR : E r = .inr (3, [.ref (ad c), .int (jI n)])) (hC : E c = aI Γ 60 f) (hr : r < 95 ∧ c < 95 ∧ r ≠ c) (hn : 0 ≤ n ∧ n ≤ 60) (hi : 0 ≤ i ∧ i < 60) : JM l Γ yX3_byteAt cX3_byteAt 2 (some .int) 0 0 0 0 ad 95 E [.ref (ad r), .int (jI i)] (pP (f i % 128) E) := by
  refine JM_intro (own := RX3) [some (.ref (ad r)), some (.int (jI i))] rfl rfl rfl (Nat.le_of_ble_eq_true rfl) ?_
  intro Ω X R hin
  refine J_aload_n (q := 1) X dX3_byteAt_0 rfl rfl ?_
  refine J_get (q := 4) X dX3_byteAt_1 fX3_9 hR (by omega) rfl rfl ?_
  refine J_iload_n (q := 5) X dX3_byteAt_4 rfl rfl ?_
  refine J_iald (q := 6) X dX3_byteAt_5 hC (by omega) (by omega) (by decide) rfl ?_
  refine J_bipush (q := 8) X dX3_byteAt_6 rfl (by decide) ?_
  refine J_iand (q := 9) X dX3_byteAt_8 rfl (jI_and127 _) ?_
  refine J_iret X R dX3_byteAt_9 ?_
  exact ⟨rfl, rfl⟩

set_option maxRecDepth 100000 in
set_option maxHeartbeats 4000000 in
theorem c_X3_markedAt {l : Launch} {Γ : JG} {ad : Nat → Nat} {E : Nat → va_E} {r c : Nat} {n : Int} {f : Int → Int} {i : Int}  (hR : E r = .inr (3, [.ref (ad c), .int (jI n)])) (hC : E c = aI Γ 60 f) (hr : r < 95 ∧ c < 95 ∧ r ≠ c) (hn : 0 ≤ n ∧ n ≤ 60) (hi : 0 ≤ i ∧ i < 60) (hf : 0 ≤ f i ∧ f i < 256) : JM l Γ yX3_markedAt cX3_markedAt 2 (some .boolean) 0 0 0 0 ad 95 E [.ref (ad r), .int (jI i)] (pP (bI (128 ≤ f i)) E) := by
  refine JM_intro (own := RX3) [some (.ref (ad r)), some (.int (jI i))] rfl rfl rfl (Nat.le_of_ble_eq_true rfl) ?_
  intro Ω X R hin
  refine J_aload_n (q := 1) X dX3_markedAt_0 rfl rfl ?_
  refine J_get (q := 4) X dX3_markedAt_1 fX3_9 hR (by omega) rfl rfl ?_
  refine J_iload_n (q := 5) X dX3_markedAt_4 rfl rfl ?_
  refine J_iald (q := 6) X dX3_markedAt_5 hC (by omega) (by omega) (by decide) rfl ?_
  refine J_sipush (q := 9) X dX3_markedAt_6 rfl (by decide) ?_
  refine J_iand (q := 10) X dX3_markedAt_9 rfl (jI_and128 hf) ?_
  have hsp : (if 128 ≤ f i then (128 : Int) else 0) = 0 ∨ (if 128 ≤ f i then (128 : Int) else 0) = 128 := by split <;> simp
  refine J_if_eq (q := 13) (tgt := 17) X dX3_markedAt_10 (by decide) rfl (by omega) (fun cq10 => ?_) (fun cq10 => ?_)
  · refine J_iconst (q := 18) X dX3_markedAt_17 rfl ?_
    refine J_zret X R dX3_markedAt_18 (nrw_z (by omega)) ?_
    exact ⟨by unfold bI; split at cq10 <;> first | (rw [if_pos (by omega)]; done) | (rw [if_neg (by omega)]; done) | omega, rfl⟩
  · refine J_iconst (q := 14) X dX3_markedAt_13 rfl ?_
    refine J_goto (q := 18) X dX3_markedAt_14 (by decide) ?_
    refine J_zret X R dX3_markedAt_18 (nrw_z (by omega)) ?_
    exact ⟨by unfold bI; split at cq10 <;> first | (rw [if_pos (by omega)]; done) | (rw [if_neg (by omega)]; done) | omega, rfl⟩

set_option maxRecDepth 100000 in
set_option maxHeartbeats 4000000 in
theorem c_X3_setByte {l : Launch} {Γ : JG} {ad : Nat → Nat} {E : Nat → va_E} {r c : Nat} {n : Int} {f : Int → Int} {i v : Int}  (hR : E r = .inr (3, [.ref (ad c), .int (jI n)])) (hC : E c = aI Γ 60 f) (hr : r < 95 ∧ c < 95 ∧ r ≠ c) (hn : 0 ≤ n ∧ n ≤ 60) (hi : 0 ≤ i ∧ i < 60) : JM l Γ yX3_setByte cX3_setByte 3 none 0 0 0 0 ad 95 E [.ref (ad r), .int (jI i), .int (jI v)] (pV (fun E' => E' c = aI Γ 60 (iu f i v) ∧ ∀ j : Nat, j ≠ c → E' j = E j)) := by
  refine JM_intro (own := RX3) [some (.ref (ad r)), some (.int (jI i)), some (.int (jI v))] rfl rfl rfl (Nat.le_of_ble_eq_true rfl) ?_
  intro Ω X R hin
  obtain ⟨E0, hE0⟩ : ∃ E0 : Nat → va_E, E0 = E := ⟨_, rfl⟩
  have hF : ∀ j : Nat, j ≠ c → E j = E0 j := fun _ _ => by rw [hE0]
  refine J_aload_n (q := 1) X dX3_setByte_0 rfl rfl ?_
  refine J_get (q := 4) X dX3_setByte_1 fX3_9 hR (by omega) rfl rfl ?_
  refine J_iload_n (q := 5) X dX3_setByte_4 rfl rfl ?_
  refine J_iload_n (q := 6) X dX3_setByte_5 rfl rfl ?_
  refine J_iast (q := 7) X dX3_setByte_6 hC (by omega) (by omega) (by decide) rfl (fun Ew6 hkq6 hsq6 => ?_)
  replace hC := hkq6
  replace hR := (hsq6 r (by omega)).trans hR
  replace hF : ∀ j : Nat, j ≠ c → Ew6 j = E0 j := fun j hj => (hsq6 j (by omega)).trans (hF j hj)
  refine J_vret X R dX3_setByte_7 ?_
  rw [hE0] at hF
  exact ⟨rfl, hC, hF⟩

set_option maxRecDepth 100000 in
set_option maxHeartbeats 4000000 in
theorem c_X3_setMark {l : Launch} {Γ : JG} {ad : Nat → Nat} {E : Nat → va_E} {r c : Nat} {n : Int} {f : Int → Int} {i x : Int}  (hR : E r = .inr (3, [.ref (ad c), .int (jI n)])) (hC : E c = aI Γ 60 f) (hr : r < 95 ∧ c < 95 ∧ r ≠ c) (hn : 0 ≤ n ∧ n ≤ 60) (hi : 0 ≤ i ∧ i < 60) (hx : x = 0 ∨ x = 1) : JM l Γ yX3_setMark cX3_setMark 3 none 1 21 0 0 ad 95 E [.ref (ad r), .int (jI i), .int (jI x)] (pV (fun E' => E' c = aI Γ 60 (iu f i (f i % 128 + 128 * x)) ∧ ∀ j : Nat, j ≠ c → E' j = E j)) := by
  refine JM_intro (own := RX3) [some (.ref (ad r)), some (.int (jI i)), some (.int (jI x))] rfl rfl rfl (Nat.le_of_ble_eq_true rfl) ?_
  intro Ω X R hin
  obtain ⟨E0, hE0⟩ : ∃ E0 : Nat → va_E, E0 = E := ⟨_, rfl⟩
  have hF : ∀ j : Nat, j ≠ c → E j = E0 j := fun _ _ => by rw [hE0]
  refine J_aload_n (q := 1) X dX3_setMark_0 rfl rfl ?_
  refine J_get (q := 4) X dX3_setMark_1 fX3_9 hR (by omega) rfl rfl ?_
  refine J_iload_n (q := 5) X dX3_setMark_4 rfl rfl ?_
  refine J_iload_n (q := 6) X dX3_setMark_5 rfl rfl ?_
  refine J_if_eq (q := 9) (tgt := 21) X dX3_setMark_6 (by decide) rfl (by omega) (fun cq6 => ?_) (fun cq6 => ?_)
  · refine J_aload_n (q := 22) X dX3_setMark_21 rfl rfl ?_
    refine J_iload_n (q := 23) X dX3_setMark_22 rfl rfl ?_
    refine J_callP (q := 26) (jrV X mX3_23 dX3_setMark_23 (c_X3_byteAt hR hC (by omega) (by omega) (by omega)) hR (by omega) rfl rfl rfl rfl (Nat.le_of_ble_eq_true rfl) (by decide)) rfl ?_
    refine J_iast (q := 27) X dX3_setMark_26 hC (by omega) (by omega) (by decide) rfl (fun Ew26 hkq26 hsq26 => ?_)
    replace hC := hkq26
    replace hR := (hsq26 r (by omega)).trans hR
    replace hF : ∀ j : Nat, j ≠ c → Ew26 j = E0 j := fun j hj => (hsq26 j (by omega)).trans (hF j hj)
    refine J_vret X R dX3_setMark_27 ?_
    rw [hE0] at hF
    refine ⟨rfl, ?_, hF⟩
    first | (rw [show f i % 128 + 128 * x = f i % 128 by omega]; exact hC) | (rw [show f i % 128 + 128 * x = f i % 128 + 128 by omega]; exact hC)
  · refine J_aload_n (q := 10) X dX3_setMark_9 rfl rfl ?_
    refine J_iload_n (q := 11) X dX3_setMark_10 rfl rfl ?_
    refine J_callP (q := 14) (jrV X mX3_23 dX3_setMark_11 (c_X3_byteAt hR hC (by omega) (by omega) (by omega)) hR (by omega) rfl rfl rfl rfl (Nat.le_of_ble_eq_true rfl) (by decide)) rfl ?_
    refine J_sipush (q := 17) X dX3_setMark_14 rfl (by decide) ?_
    refine J_ior (q := 18) X dX3_setMark_17 rfl (jI_or128 (by omega)) ?_
    refine J_goto (q := 26) X dX3_setMark_18 (by decide) ?_
    refine J_iast (q := 27) X dX3_setMark_26 hC (by omega) (by omega) (by decide) rfl (fun Ew26 hkq26 hsq26 => ?_)
    replace hC := hkq26
    replace hR := (hsq26 r (by omega)).trans hR
    replace hF : ∀ j : Nat, j ≠ c → Ew26 j = E0 j := fun j hj => (hsq26 j (by omega)).trans (hF j hj)
    refine J_vret X R dX3_setMark_27 ?_
    rw [hE0] at hF
    refine ⟨rfl, ?_, hF⟩
    first | (rw [show f i % 128 + 128 * x = f i % 128 by omega]; exact hC) | (rw [show f i % 128 + 128 * x = f i % 128 + 128 by omega]; exact hC)

set_option maxRecDepth 100000 in
set_option maxHeartbeats 4000000 in
theorem c_X3_become {l : Launch} {Γ : JG} {ad : Nat → Nat} {E : Nat → va_E} {r c : Nat} {n : Int} {f : Int → Int} {r2 c2 : Nat} {n2 : Int} {f2 : Int → Int} (hR : E r = .inr (3, [.ref (ad c), .int (jI n)])) (hC : E c = aI Γ 60 f) (hS : E r2 = .inr (3, [.ref (ad c2), .int (jI n2)])) (hD : E c2 = aI Γ 60 f2) (hr : r < 95 ∧ c < 95 ∧ r ≠ c ∧ r2 < 95 ∧ c2 < 95 ∧ r2 ≠ r ∧ c2 ≠ c ∧ r ≠ c2 ∧ c ≠ r2) (hn2 : 0 ≤ n2 ∧ n2 ≤ 60) : JM l Γ yX3_become cX3_become 2 none 1 48 0 0 ad 95 E [.ref (ad r), .ref (ad r2)] (pV (fun E' => E' r = .inr (3, [.ref (ad c), .int (jI (n2))]) ∧ E' c = aI Γ 60 (icp f2 f 0 0 n2) ∧ ∀ j : Nat, j ≠ r ∧ j ≠ c → E' j = E j)) := by
  refine JM_intro (own := RX3) [some (.ref (ad r)), some (.ref (ad r2))] rfl rfl rfl (Nat.le_of_ble_eq_true rfl) ?_
  intro Ω X R hin
  obtain ⟨E0, hE0⟩ : ∃ E0 : Nat → va_E, E0 = E := ⟨_, rfl⟩
  have hF : ∀ j : Nat, j ≠ r ∧ j ≠ c → E j = E0 j := fun _ _ => by rw [hE0]
  refine J_aload_n (q := 1) X dX3_become_0 rfl rfl ?_
  refine J_aload_n (q := 2) X dX3_become_1 rfl rfl ?_
  refine J_get (q := 5) X dX3_become_2 fX3_15 hS (by omega) rfl rfl ?_
  refine J_put (q := 8) (ty := .int) X dX3_become_5 fX3_15 rfl (by decide +kernel) rfl rfl hR (by omega) (Nat.le_of_ble_eq_true rfl) rfl (fun Ew5 hkq5 hsq5 => ?_)
  replace hR : Ew5 r = .inr (3, [.ref (ad c), .int (jI _)]) := hkq5
  replace hC := (hsq5 c (by omega)).trans hC
  replace hS := (hsq5 r2 (by omega)).trans hS
  replace hD := (hsq5 c2 (by omega)).trans hD
  replace hF : ∀ j : Nat, j ≠ r ∧ j ≠ c → Ew5 j = E0 j := fun j hj => (hsq5 j (by omega)).trans (hF j hj)
  refine J_aload_n (q := 9) X dX3_become_8 rfl rfl ?_
  refine J_get (q := 12) X dX3_become_9 fX3_9 hS (by omega) rfl rfl ?_
  refine J_iconst (q := 13) X dX3_become_12 rfl ?_
  refine J_aload_n (q := 14) X dX3_become_13 rfl rfl ?_
  refine J_get (q := 17) X dX3_become_14 fX3_9 hR (by omega) rfl rfl ?_
  refine J_iconst (q := 18) X dX3_become_17 rfl ?_
  refine J_aload_n (q := 19) X dX3_become_18 rfl rfl ?_
  refine J_get (q := 22) X dX3_become_19 fX3_15 hR (by omega) rfl rfl ?_
  refine J_copy (q := 25) X dX3_become_22 mX3_27 wCopy hD (by omega) hC (by omega) (by omega) (by omega) (by omega) (by decide) (by decide) (Nat.le_of_ble_eq_true rfl) rfl (fun Ew22 hkq22 hsq22 => ?_)
  replace hC := hkq22
  replace hR := (hsq22 r (by omega)).trans hR
  replace hS := (hsq22 r2 (by omega)).trans hS
  replace hD := (hsq22 c2 (by omega)).trans hD
  replace hF : ∀ j : Nat, j ≠ r ∧ j ≠ c → Ew22 j = E0 j := fun j hj => (hsq22 j (by omega)).trans (hF j hj)
  refine J_vret X R dX3_become_25 ?_
  rw [hE0] at hF
  exact ⟨rfl, hR, hC, hF⟩

set_option maxRecDepth 100000 in
set_option maxHeartbeats 4000000 in
theorem c_X3_clear {l : Launch} {Γ : JG} {ad : Nat → Nat} {E : Nat → va_E} {r c : Nat} {n : Int} {f : Int → Int}  (hR : E r = .inr (3, [.ref (ad c), .int (jI n)])) (hC : E c = aI Γ 60 f) (hr : r < 95 ∧ c < 95 ∧ r ≠ c) (hn : 0 ≤ n ∧ n ≤ 60) : JM l Γ yX3_clear cX3_clear 1 none 0 0 0 0 ad 95 E [.ref (ad r)] (pV (fun E' => E' r = .inr (3, [.ref (ad c), .int (jI 0)]) ∧ ∀ j : Nat, j ≠ r → E' j = E j)) := by
  refine JM_intro (own := RX3) [some (.ref (ad r))] rfl rfl rfl (Nat.le_of_ble_eq_true rfl) ?_
  intro Ω X R hin
  obtain ⟨E0, hE0⟩ : ∃ E0 : Nat → va_E, E0 = E := ⟨_, rfl⟩
  have hF : ∀ j : Nat, j ≠ r → E j = E0 j := fun _ _ => by rw [hE0]
  refine J_aload_n (q := 1) X dX3_clear_0 rfl rfl ?_
  refine J_iconst (q := 2) X dX3_clear_1 rfl ?_
  refine J_put (q := 5) (ty := .int) X dX3_clear_2 fX3_15 rfl (by decide +kernel) rfl rfl hR (by omega) (Nat.le_of_ble_eq_true rfl) rfl (fun Ew2 hkq2 hsq2 => ?_)
  replace hR : Ew2 r = .inr (3, [.ref (ad c), .int (jI _)]) := hkq2
  replace hC := (hsq2 c (by omega)).trans hC
  replace hF : ∀ j : Nat, j ≠ r → Ew2 j = E0 j := fun j hj => (hsq2 j (by omega)).trans (hF j hj)
  refine J_vret X R dX3_clear_5 ?_
  rw [hE0] at hF
  exact ⟨rfl, hR, hF⟩

set_option maxRecDepth 100000 in
set_option maxHeartbeats 4000000 in
theorem c_X3_openGap {l : Launch} {Γ : JG} {ad : Nat → Nat} {E : Nat → va_E} {r c : Nat} {n : Int} {f : Int → Int} {p m : Int}  (hR : E r = .inr (3, [.ref (ad c), .int (jI n)])) (hC : E c = aI Γ 60 f) (hr : r < 95 ∧ c < 95 ∧ r ≠ c) (hn : 0 ≤ n ∧ n ≤ 60) (hp : 0 ≤ p ∧ p ≤ n ∧ 0 ≤ m ∧ n + m ≤ 60) : JM l Γ yX3_openGap cX3_openGap 3 none 1 48 0 0 ad 95 E [.ref (ad r), .int (jI p), .int (jI m)] (pV (fun E' => E' r = .inr (3, [.ref (ad c), .int (jI (n + m))]) ∧ E' c = aI Γ 60 (icp f f p (p + m) (n - p)) ∧ ∀ j : Nat, j ≠ r ∧ j ≠ c → E' j = E j)) := by
  refine JM_intro (own := RX3) [some (.ref (ad r)), some (.int (jI p)), some (.int (jI m))] rfl rfl rfl (Nat.le_of_ble_eq_true rfl) ?_
  intro Ω X R hin
  obtain ⟨E0, hE0⟩ : ∃ E0 : Nat → va_E, E0 = E := ⟨_, rfl⟩
  have hF : ∀ j : Nat, j ≠ r ∧ j ≠ c → E j = E0 j := fun _ _ => by rw [hE0]
  refine J_aload_n (q := 1) X dX3_openGap_0 rfl rfl ?_
  refine J_get (q := 4) X dX3_openGap_1 fX3_9 hR (by omega) rfl rfl ?_
  refine J_iload_n (q := 5) X dX3_openGap_4 rfl rfl ?_
  refine J_aload_n (q := 6) X dX3_openGap_5 rfl rfl ?_
  refine J_get (q := 9) X dX3_openGap_6 fX3_9 hR (by omega) rfl rfl ?_
  refine J_iload_n (q := 10) X dX3_openGap_9 rfl rfl ?_
  refine J_iload_n (q := 11) X dX3_openGap_10 rfl rfl ?_
  refine J_iadd (q := 12) X dX3_openGap_11 rfl ?_
  refine J_aload_n (q := 13) X dX3_openGap_12 rfl rfl ?_
  refine J_get (q := 16) X dX3_openGap_13 fX3_15 hR (by omega) rfl rfl ?_
  refine J_iload_n (q := 17) X dX3_openGap_16 rfl rfl ?_
  refine J_isub (q := 18) X dX3_openGap_17 rfl ?_
  refine J_copy (q := 21) X dX3_openGap_18 mX3_27 wCopy hC (by omega) hC (by omega) (by omega) (by omega) (by omega) (by decide) (by decide) (Nat.le_of_ble_eq_true rfl) rfl (fun Ew18 hkq18 hsq18 => ?_)
  replace hC := hkq18
  replace hR := (hsq18 r (by omega)).trans hR
  replace hF : ∀ j : Nat, j ≠ r ∧ j ≠ c → Ew18 j = E0 j := fun j hj => (hsq18 j (by omega)).trans (hF j hj)
  refine J_aload_n (q := 22) X dX3_openGap_21 rfl rfl ?_
  refine J_dup (q := 23) X dX3_openGap_22 rfl rfl ?_
  refine J_get (q := 26) X dX3_openGap_23 fX3_15 hR (by omega) rfl rfl ?_
  refine J_iload_n (q := 27) X dX3_openGap_26 rfl rfl ?_
  refine J_iadd (q := 28) X dX3_openGap_27 rfl ?_
  refine J_put (q := 31) (ty := .int) X dX3_openGap_28 fX3_15 rfl (by decide +kernel) rfl rfl hR (by omega) (Nat.le_of_ble_eq_true rfl) rfl (fun Ew28 hkq28 hsq28 => ?_)
  replace hR : Ew28 r = .inr (3, [.ref (ad c), .int (jI _)]) := hkq28
  replace hC := (hsq28 c (by omega)).trans hC
  replace hF : ∀ j : Nat, j ≠ r ∧ j ≠ c → Ew28 j = E0 j := fun j hj => (hsq28 j (by omega)).trans (hF j hj)
  refine J_vret X R dX3_openGap_31 ?_
  rw [hE0] at hF
  exact ⟨rfl, hR, hC, hF⟩

set_option maxRecDepth 100000 in
set_option maxHeartbeats 4000000 in
theorem c_X3_bringIn {l : Launch} {Γ : JG} {ad : Nat → Nat} {E : Nat → va_E} {r c : Nat} {n : Int} {f : Int → Int} {p v : Int}  (hR : E r = .inr (3, [.ref (ad c), .int (jI n)])) (hC : E c = aI Γ 60 f) (hr : r < 95 ∧ c < 95 ∧ r ≠ c) (hn : 0 ≤ n ∧ n ≤ 60) (hp : 0 ≤ p ∧ p ≤ n ∧ n < 60) : JM l Γ yX3_bringIn cX3_bringIn 3 none 2 70 0 0 ad 95 E [.ref (ad r), .int (jI p), .int (jI v)] (pV (fun E' => E' r = .inr (3, [.ref (ad c), .int (jI (n + 1))]) ∧ E' c = aI Γ 60 (iu (icp f f p (p + 1) (n - p)) p v) ∧ ∀ j : Nat, j ≠ r ∧ j ≠ c → E' j = E j)) := by
  refine JM_intro (own := RX3) [some (.ref (ad r)), some (.int (jI p)), some (.int (jI v))] rfl rfl rfl (Nat.le_of_ble_eq_true rfl) ?_
  intro Ω X R hin
  obtain ⟨E0, hE0⟩ : ∃ E0 : Nat → va_E, E0 = E := ⟨_, rfl⟩
  have hF : ∀ j : Nat, j ≠ r ∧ j ≠ c → E j = E0 j := fun _ _ => by rw [hE0]
  refine J_aload_n (q := 1) X dX3_bringIn_0 rfl rfl ?_
  refine J_iload_n (q := 2) X dX3_bringIn_1 rfl rfl ?_
  refine J_iconst (q := 3) X dX3_bringIn_2 rfl ?_
  refine J_callV (q := 6) (jrV X mX3_33 dX3_bringIn_3 (c_X3_openGap hR hC (by omega) (by omega) (by omega)) hR (by omega) rfl rfl rfl rfl (Nat.le_of_ble_eq_true rfl) (by decide)) rfl (fun Ew3 hpq3 => ?_)
  obtain ⟨kR, kC, hsq3⟩ := hpq3
  replace hR := kR
  replace hC := kC
  replace hF : ∀ j : Nat, j ≠ r ∧ j ≠ c → Ew3 j = E0 j := fun j hj => (hsq3 j (by omega)).trans (hF j hj)
  refine J_aload_n (q := 7) X dX3_bringIn_6 rfl rfl ?_
  refine J_get (q := 10) X dX3_bringIn_7 fX3_9 hR (by omega) rfl rfl ?_
  refine J_iload_n (q := 11) X dX3_bringIn_10 rfl rfl ?_
  refine J_iload_n (q := 12) X dX3_bringIn_11 rfl rfl ?_
  refine J_iast (q := 13) X dX3_bringIn_12 hC (by omega) (by omega) (by decide) rfl (fun Ew12 hkq12 hsq12 => ?_)
  replace hC := hkq12
  replace hR := (hsq12 r (by omega)).trans hR
  replace hF : ∀ j : Nat, j ≠ r ∧ j ≠ c → Ew12 j = E0 j := fun j hj => (hsq12 j (by omega)).trans (hF j hj)
  refine J_vret X R dX3_bringIn_13 ?_
  rw [hE0] at hF
  exact ⟨rfl, hR, hC, hF⟩

set_option maxRecDepth 100000 in
set_option maxHeartbeats 4000000 in
theorem c_X3_takeOut {l : Launch} {Γ : JG} {ad : Nat → Nat} {E : Nat → va_E} {r c : Nat} {n : Int} {f : Int → Int} {a m : Int}  (hR : E r = .inr (3, [.ref (ad c), .int (jI n)])) (hC : E c = aI Γ 60 f) (hr : r < 95 ∧ c < 95 ∧ r ≠ c) (hn : 0 ≤ n ∧ n ≤ 60) (ha : 0 ≤ a ∧ 0 ≤ m ∧ a + m ≤ n) : JM l Γ yX3_takeOut cX3_takeOut 3 none 1 48 0 0 ad 95 E [.ref (ad r), .int (jI a), .int (jI m)] (pV (fun E' => E' r = .inr (3, [.ref (ad c), .int (jI (n - m))]) ∧ E' c = aI Γ 60 (icp f f (a + m) a (n - a - m)) ∧ ∀ j : Nat, j ≠ r ∧ j ≠ c → E' j = E j)) := by
  refine JM_intro (own := RX3) [some (.ref (ad r)), some (.int (jI a)), some (.int (jI m))] rfl rfl rfl (Nat.le_of_ble_eq_true rfl) ?_
  intro Ω X R hin
  obtain ⟨E0, hE0⟩ : ∃ E0 : Nat → va_E, E0 = E := ⟨_, rfl⟩
  have hF : ∀ j : Nat, j ≠ r ∧ j ≠ c → E j = E0 j := fun _ _ => by rw [hE0]
  refine J_aload_n (q := 1) X dX3_takeOut_0 rfl rfl ?_
  refine J_get (q := 4) X dX3_takeOut_1 fX3_9 hR (by omega) rfl rfl ?_
  refine J_iload_n (q := 5) X dX3_takeOut_4 rfl rfl ?_
  refine J_iload_n (q := 6) X dX3_takeOut_5 rfl rfl ?_
  refine J_iadd (q := 7) X dX3_takeOut_6 rfl ?_
  refine J_aload_n (q := 8) X dX3_takeOut_7 rfl rfl ?_
  refine J_get (q := 11) X dX3_takeOut_8 fX3_9 hR (by omega) rfl rfl ?_
  refine J_iload_n (q := 12) X dX3_takeOut_11 rfl rfl ?_
  refine J_aload_n (q := 13) X dX3_takeOut_12 rfl rfl ?_
  refine J_get (q := 16) X dX3_takeOut_13 fX3_15 hR (by omega) rfl rfl ?_
  refine J_iload_n (q := 17) X dX3_takeOut_16 rfl rfl ?_
  refine J_isub (q := 18) X dX3_takeOut_17 rfl ?_
  refine J_iload_n (q := 19) X dX3_takeOut_18 rfl rfl ?_
  refine J_isub (q := 20) X dX3_takeOut_19 rfl ?_
  refine J_copy (q := 23) X dX3_takeOut_20 mX3_27 wCopy hC (by omega) hC (by omega) (by omega) (by omega) (by omega) (by decide) (by decide) (Nat.le_of_ble_eq_true rfl) rfl (fun Ew20 hkq20 hsq20 => ?_)
  replace hC := hkq20
  replace hR := (hsq20 r (by omega)).trans hR
  replace hF : ∀ j : Nat, j ≠ r ∧ j ≠ c → Ew20 j = E0 j := fun j hj => (hsq20 j (by omega)).trans (hF j hj)
  refine J_aload_n (q := 24) X dX3_takeOut_23 rfl rfl ?_
  refine J_dup (q := 25) X dX3_takeOut_24 rfl rfl ?_
  refine J_get (q := 28) X dX3_takeOut_25 fX3_15 hR (by omega) rfl rfl ?_
  refine J_iload_n (q := 29) X dX3_takeOut_28 rfl rfl ?_
  refine J_isub (q := 30) X dX3_takeOut_29 rfl ?_
  refine J_put (q := 33) (ty := .int) X dX3_takeOut_30 fX3_15 rfl (by decide +kernel) rfl rfl hR (by omega) (Nat.le_of_ble_eq_true rfl) rfl (fun Ew30 hkq30 hsq30 => ?_)
  replace hR : Ew30 r = .inr (3, [.ref (ad c), .int (jI _)]) := hkq30
  replace hC := (hsq30 c (by omega)).trans hC
  replace hF : ∀ j : Nat, j ≠ r ∧ j ≠ c → Ew30 j = E0 j := fun j hj => (hsq30 j (by omega)).trans (hF j hj)
  refine J_vret X R dX3_takeOut_33 ?_
  rw [hE0] at hF
  exact ⟨rfl, hR, hC, hF⟩

set_option maxRecDepth 100000 in
set_option maxHeartbeats 4000000 in
theorem c_X3_reverse {l : Launch} {Γ : JG} {ad : Nat → Nat} {E : Nat → va_E} {r c : Nat} {n : Int} {f : Int → Int} {a b : Int}  (hR : E r = .inr (3, [.ref (ad c), .int (jI n)])) (hC : E c = aI Γ 60 f) (hr : r < 95 ∧ c < 95 ∧ r ≠ c) (hn : 0 ≤ n ∧ n ≤ 60) (ha : 0 ≤ a ∧ a ≤ b ∧ b ≤ 60) : JM l Γ yX3_reverse cX3_reverse 6 none 0 0 0 0 ad 95 E [.ref (ad r), .int (jI a), .int (jI b)] (pV (fun E' => E' c = aI Γ 60 (rv f a b) ∧ ∀ j : Nat, j ≠ c → E' j = E j)) := by
  refine JM_intro (own := RX3) [some (.ref (ad r)), some (.int (jI a)), some (.int (jI b)), none, none, none] rfl rfl rfl (Nat.le_of_ble_eq_true rfl) ?_
  intro Ω X R hin
  obtain ⟨E0, hE0⟩ : ∃ E0 : Nat → va_E, E0 = E := ⟨_, rfl⟩
  have hF : ∀ j : Nat, j ≠ c → E j = E0 j := fun _ _ => by rw [hE0]
  refine J_iload_n (q := 1) X dX3_reverse_0 rfl rfl ?_
  refine J_iconst (q := 2) X dX3_reverse_1 rfl ?_
  refine J_isub (q := 3) X dX3_reverse_2 rfl ?_
  refine J_istore_n (q := 4) X dX3_reverse_3 (by decide) rfl rfl ?_
  refine J_iload_n (q := 5) X dX3_reverse_4 rfl rfl ?_
  refine J_istore (q := 7) X dX3_reverse_5 (by decide) rfl rfl ?_
  have lp7 : ∀ (m : Nat) (i jj : Int) (g : Int → Int) (E : Nat → va_E) (hi : a ≤ i ∧ i + jj = a + b - 1 ∧ i ≤ jj + 1) (hg : ∀ t : Int, g t = if (a ≤ t ∧ t < i) ∨ (jj < t ∧ t < b) then f (a + b - 1 - t) else f t) (hR : E r = .inr (3, [.ref (ad c), .int (jI n)])) (hC : E c = aI Γ 60 g) (hF : ∀ j : Nat, j ≠ c → E j = E0 j) (hm : jj - i + 2 ≤ (m : Int)), J l Γ Ω 6 ad 95 0 0 E 7 [some (.ref (ad r)), some (.int (jI a)), some (.int (jI b)), some (.int (jI jj)), some (.int (jI i)), none] [] := by
    intro m
    induction m with
    | zero => intro i jj g E hi hg hR hC hF hm; exfalso; omega
    | succ m ih7 =>
      intro i jj g E hi hg hR hC hF hm
      refine J_iload (q := 9) X dX3_reverse_7 rfl rfl ?_
      refine J_iload_n (q := 10) X dX3_reverse_9 rfl rfl ?_
      refine J_icmp_ge (q := 13) (tgt := 52) X dX3_reverse_10 (by decide) rfl (by omega) (by omega) (fun cq10 => ?_) (fun cq10 => ?_)
      · refine J_vret X R dX3_reverse_52 ?_
        rw [hE0] at hF
        have hge : g = rv f a b := by
          funext t
          rw [hg t]
          simp only [rv]
          repeat' split
          all_goals first | rfl | (exfalso; omega) | (congr 1; omega)
        rw [hge] at hC
        exact ⟨rfl, hC, hF⟩
      · refine J_aload_n (q := 14) X dX3_reverse_13 rfl rfl ?_
        refine J_get (q := 17) X dX3_reverse_14 fX3_9 hR (by omega) rfl rfl ?_
        refine J_iload (q := 19) X dX3_reverse_17 rfl rfl ?_
        refine J_iald (q := 20) X dX3_reverse_19 hC (by omega) (by omega) (by decide) rfl ?_
        refine J_istore (q := 22) X dX3_reverse_20 (by decide) rfl rfl ?_
        refine J_aload_n (q := 23) X dX3_reverse_22 rfl rfl ?_
        refine J_get (q := 26) X dX3_reverse_23 fX3_9 hR (by omega) rfl rfl ?_
        refine J_iload (q := 28) X dX3_reverse_26 rfl rfl ?_
        refine J_aload_n (q := 29) X dX3_reverse_28 rfl rfl ?_
        refine J_get (q := 32) X dX3_reverse_29 fX3_9 hR (by omega) rfl rfl ?_
        refine J_iload_n (q := 33) X dX3_reverse_32 rfl rfl ?_
        refine J_iald (q := 34) X dX3_reverse_33 hC (by omega) (by omega) (by decide) rfl ?_
        refine J_iast (q := 35) X dX3_reverse_34 hC (by omega) (by omega) (by decide) rfl (fun Ew34 hkq34 hsq34 => ?_)
        replace hC := hkq34
        replace hR := (hsq34 r (by omega)).trans hR
        replace hF : ∀ j : Nat, j ≠ c → Ew34 j = E0 j := fun j hj => (hsq34 j (by omega)).trans (hF j hj)
        refine J_aload_n (q := 36) X dX3_reverse_35 rfl rfl ?_
        refine J_get (q := 39) X dX3_reverse_36 fX3_9 hR (by omega) rfl rfl ?_
        refine J_iload_n (q := 40) X dX3_reverse_39 rfl rfl ?_
        refine J_iload (q := 42) X dX3_reverse_40 rfl rfl ?_
        refine J_iast (q := 43) X dX3_reverse_42 hC (by omega) (by omega) (by decide) rfl (fun Ew42 hkq42 hsq42 => ?_)
        replace hC := hkq42
        replace hR := (hsq42 r (by omega)).trans hR
        replace hF : ∀ j : Nat, j ≠ c → Ew42 j = E0 j := fun j hj => (hsq42 j (by omega)).trans (hF j hj)
        refine J_iinc (q := 46) X dX3_reverse_43 rfl (by decide) rfl rfl ?_
        refine J_iinc (q := 49) X dX3_reverse_46 rfl (by decide) rfl rfl ?_
        refine J_goto (q := 7) X dX3_reverse_49 (by decide) ?_
        refine J_kill 5 ?_
        refine ih7 _ _ _ _ (by omega) (fun t => ?_) hR hC hF (by omega)
        have hgi : g i = f i := by rw [hg i, if_neg (by omega)]
        have hgj : g jj = f jj := by rw [hg jj, if_neg (by omega)]
        simp only [iu, hgi, hgj, hg t]
        repeat' split
        all_goals first | rfl | (exfalso; omega) | (congr 1; omega)
  exact lp7 100 _ _ f E (by omega) (fun t => by rw [if_neg (by omega)]) hR hC hF (by omega)

set_option maxRecDepth 100000 in
set_option maxHeartbeats 4000000 in
theorem c_X3_swapParts {l : Launch} {Γ : JG} {ad : Nat → Nat} {E : Nat → va_E} {r c : Nat} {n : Int} {f : Int → Int} {a m b : Int}  (hR : E r = .inr (3, [.ref (ad c), .int (jI n)])) (hC : E c = aI Γ 60 f) (hr : r < 95 ∧ c < 95 ∧ r ≠ c) (hn : 0 ≤ n ∧ n ≤ 60) (ha : 0 ≤ a ∧ a ≤ m ∧ m ≤ b ∧ b ≤ 60) : JM l Γ yX3_swapParts cX3_swapParts 4 none 1 25 0 0 ad 95 E [.ref (ad r), .int (jI a), .int (jI m), .int (jI b)] (pV (fun E' => E' c = aI Γ 60 (sw f a m b) ∧ ∀ j : Nat, j ≠ c → E' j = E j)) := by
  refine JM_intro (own := RX3) [some (.ref (ad r)), some (.int (jI a)), some (.int (jI m)), some (.int (jI b))] rfl rfl rfl (Nat.le_of_ble_eq_true rfl) ?_
  intro Ω X R hin
  obtain ⟨E0, hE0⟩ : ∃ E0 : Nat → va_E, E0 = E := ⟨_, rfl⟩
  have hF : ∀ j : Nat, j ≠ c → E j = E0 j := fun _ _ => by rw [hE0]
  refine J_aload_n (q := 1) X dX3_swapParts_0 rfl rfl ?_
  refine J_iload_n (q := 2) X dX3_swapParts_1 rfl rfl ?_
  refine J_iload_n (q := 3) X dX3_swapParts_2 rfl rfl ?_
  refine J_callV (q := 6) (jrV X mX3_41 dX3_swapParts_3 (c_X3_reverse hR hC (by omega) (by omega) (by omega)) hR (by omega) rfl rfl rfl rfl (Nat.le_of_ble_eq_true rfl) (by decide)) rfl (fun Ew3 hpq3 => ?_)
  obtain ⟨kC, hsq3⟩ := hpq3
  replace hC := kC
  replace hR := (hsq3 r (by omega)).trans hR
  replace hF : ∀ j : Nat, j ≠ c → Ew3 j = E0 j := fun j hj => (hsq3 j (by omega)).trans (hF j hj)
  refine J_aload_n (q := 7) X dX3_swapParts_6 rfl rfl ?_
  refine J_iload_n (q := 8) X dX3_swapParts_7 rfl rfl ?_
  refine J_iload_n (q := 9) X dX3_swapParts_8 rfl rfl ?_
  refine J_callV (q := 12) (jrV X mX3_41 dX3_swapParts_9 (c_X3_reverse hR hC (by omega) (by omega) (by omega)) hR (by omega) rfl rfl rfl rfl (Nat.le_of_ble_eq_true rfl) (by decide)) rfl (fun Ew9 hpq9 => ?_)
  obtain ⟨kC, hsq9⟩ := hpq9
  replace hC := kC
  replace hR := (hsq9 r (by omega)).trans hR
  replace hF : ∀ j : Nat, j ≠ c → Ew9 j = E0 j := fun j hj => (hsq9 j (by omega)).trans (hF j hj)
  refine J_aload_n (q := 13) X dX3_swapParts_12 rfl rfl ?_
  refine J_iload_n (q := 14) X dX3_swapParts_13 rfl rfl ?_
  refine J_iload_n (q := 15) X dX3_swapParts_14 rfl rfl ?_
  refine J_callV (q := 18) (jrV X mX3_41 dX3_swapParts_15 (c_X3_reverse hR hC (by omega) (by omega) (by omega)) hR (by omega) rfl rfl rfl rfl (Nat.le_of_ble_eq_true rfl) (by decide)) rfl (fun Ew15 hpq15 => ?_)
  obtain ⟨kC, hsq15⟩ := hpq15
  replace hC := kC
  replace hR := (hsq15 r (by omega)).trans hR
  replace hF : ∀ j : Nat, j ≠ c → Ew15 j = E0 j := fun j hj => (hsq15 j (by omega)).trans (hF j hj)
  refine J_vret X R dX3_swapParts_18 ?_
  rw [hE0] at hF
  rw [rv3 f (by omega)] at hC
  exact ⟨rfl, hC, hF⟩

set_option maxRecDepth 100000 in
set_option maxHeartbeats 4000000 in
theorem c_X3_shift {l : Launch} {Γ : JG} {ad : Nat → Nat} {E : Nat → va_E} {r c : Nat} {n : Int} {f : Int → Int} {a m p : Int}  (hR : E r = .inr (3, [.ref (ad c), .int (jI n)])) (hC : E c = aI Γ 60 f) (hr : r < 95 ∧ c < 95 ∧ r ≠ c) (hn : 0 ≤ n ∧ n ≤ 60) (ha : 0 ≤ a ∧ 1 ≤ m ∧ a + m ≤ n ∧ 0 ≤ p ∧ p ≤ n ∧ (p ≤ a ∨ a + m ≤ p)) : JM l Γ yX3_shift cX3_shift 4 none 2 48 0 0 ad 95 E [.ref (ad r), .int (jI a), .int (jI m), .int (jI p)] (pV (fun E' => E' c = aI Γ 60 (if p ≤ a then sw f p a (a + m) else sw f a (a + m) p) ∧ ∀ j : Nat, j ≠ c → E' j = E j)) := by
  refine JM_intro (own := RX3) [some (.ref (ad r)), some (.int (jI a)), some (.int (jI m)), some (.int (jI p))] rfl rfl rfl (Nat.le_of_ble_eq_true rfl) ?_
  intro Ω X R hin
  obtain ⟨E0, hE0⟩ : ∃ E0 : Nat → va_E, E0 = E := ⟨_, rfl⟩
  have hF : ∀ j : Nat, j ≠ c → E j = E0 j := fun _ _ => by rw [hE0]
  refine J_iload_n (q := 1) X dX3_shift_0 rfl rfl ?_
  refine J_iload_n (q := 2) X dX3_shift_1 rfl rfl ?_
  refine J_icmp_gt (q := 5) (tgt := 17) X dX3_shift_2 (by decide) rfl (by omega) (by omega) (fun cq2 => ?_) (fun cq2 => ?_)
  · refine J_aload_n (q := 18) X dX3_shift_17 rfl rfl ?_
    refine J_iload_n (q := 19) X dX3_shift_18 rfl rfl ?_
    refine J_iload_n (q := 20) X dX3_shift_19 rfl rfl ?_
    refine J_iload_n (q := 21) X dX3_shift_20 rfl rfl ?_
    refine J_iadd (q := 22) X dX3_shift_21 rfl ?_
    refine J_iload_n (q := 23) X dX3_shift_22 rfl rfl ?_
    refine J_callV (q := 26) (jrV X mX3_37 dX3_shift_23 (c_X3_swapParts hR hC (by omega) (by omega) (by omega)) hR (by omega) rfl rfl rfl rfl (Nat.le_of_ble_eq_true rfl) (by decide)) rfl (fun Ew23 hpq23 => ?_)
    obtain ⟨kC, hsq23⟩ := hpq23
    replace hC := kC
    replace hR := (hsq23 r (by omega)).trans hR
    replace hF : ∀ j : Nat, j ≠ c → Ew23 j = E0 j := fun j hj => (hsq23 j (by omega)).trans (hF j hj)
    refine J_vret X R dX3_shift_26 ?_
    rw [hE0] at hF
    first | (rw [if_pos (by omega)]; exact ⟨rfl, hC, hF⟩) | (rw [if_neg (by omega)]; exact ⟨rfl, hC, hF⟩)
  · refine J_aload_n (q := 6) X dX3_shift_5 rfl rfl ?_
    refine J_iload_n (q := 7) X dX3_shift_6 rfl rfl ?_
    refine J_iload_n (q := 8) X dX3_shift_7 rfl rfl ?_
    refine J_iload_n (q := 9) X dX3_shift_8 rfl rfl ?_
    refine J_iload_n (q := 10) X dX3_shift_9 rfl rfl ?_
    refine J_iadd (q := 11) X dX3_shift_10 rfl ?_
    refine J_callV (q := 14) (jrV X mX3_37 dX3_shift_11 (c_X3_swapParts hR hC (by omega) (by omega) (by omega)) hR (by omega) rfl rfl rfl rfl (Nat.le_of_ble_eq_true rfl) (by decide)) rfl (fun Ew11 hpq11 => ?_)
    obtain ⟨kC, hsq11⟩ := hpq11
    replace hC := kC
    replace hR := (hsq11 r (by omega)).trans hR
    replace hF : ∀ j : Nat, j ≠ c → Ew11 j = E0 j := fun j hj => (hsq11 j (by omega)).trans (hF j hj)
    refine J_goto (q := 26) X dX3_shift_14 (by decide) ?_
    refine J_vret X R dX3_shift_26 ?_
    rw [hE0] at hF
    first | (rw [if_pos (by omega)]; exact ⟨rfl, hC, hF⟩) | (rw [if_neg (by omega)]; exact ⟨rfl, hC, hF⟩)

set_option maxRecDepth 100000 in
set_option maxHeartbeats 4000000 in
theorem c_X3_repeat {l : Launch} {Γ : JG} {ad : Nat → Nat} {E : Nat → va_E} {r c : Nat} {n : Int} {f : Int → Int} {a m p : Int}  (hR : E r = .inr (3, [.ref (ad c), .int (jI n)])) (hC : E c = aI Γ 60 f) (hr : r < 95 ∧ c < 95 ∧ r ≠ c) (hn : 0 ≤ n ∧ n ≤ 60) (ha : 0 ≤ a ∧ 1 ≤ m ∧ a + m ≤ n ∧ 0 ≤ p ∧ p ≤ n ∧ n + m ≤ 60) : JM l Γ yX3_repeat cX3_repeat 6 none 2 70 0 0 ad 95 E [.ref (ad r), .int (jI a), .int (jI m), .int (jI p)] (pV (fun E' => E' r = .inr (3, [.ref (ad c), .int (jI (n + m))]) ∧ E' c = aI Γ 60 (fun t => if t < p then f t else if t < p + m then f (a + (t - p)) else if t < n + m then f (t - m) else f t) ∧ ∀ j : Nat, j ≠ r ∧ j ≠ c → E' j = E j)) := by
  refine JM_intro (own := RX3) [some (.ref (ad r)), some (.int (jI a)), some (.int (jI m)), some (.int (jI p)), none, none] rfl rfl rfl (Nat.le_of_ble_eq_true rfl) ?_
  intro Ω X R hin
  obtain ⟨E0, hE0⟩ : ∃ E0 : Nat → va_E, E0 = E := ⟨_, rfl⟩
  have hF : ∀ j : Nat, j ≠ r ∧ j ≠ c → E j = E0 j := fun _ _ => by rw [hE0]
  refine J_aload_n (q := 1) X dX3_repeat_0 rfl rfl ?_
  refine J_iload_n (q := 2) X dX3_repeat_1 rfl rfl ?_
  refine J_iload_n (q := 3) X dX3_repeat_2 rfl rfl ?_
  refine J_callV (q := 6) (jrV X mX3_33 dX3_repeat_3 (c_X3_openGap hR hC (by omega) (by omega) (by omega)) hR (by omega) rfl rfl rfl rfl (Nat.le_of_ble_eq_true rfl) (by decide)) rfl (fun Ew3 hpq3 => ?_)
  obtain ⟨kR, kC, hsq3⟩ := hpq3
  replace hR := kR
  replace hC := kC
  replace hF : ∀ j : Nat, j ≠ r ∧ j ≠ c → Ew3 j = E0 j := fun j hj => (hsq3 j (by omega)).trans (hF j hj)
  refine J_iconst (q := 7) X dX3_repeat_6 rfl ?_
  refine J_istore (q := 9) X dX3_repeat_7 (by decide) rfl rfl ?_
  have lp9 : ∀ (mm : Nat) (i : Int) (g : Int → Int) (E : Nat → va_E) (hi : 0 ≤ i ∧ i ≤ m) (hg : ∀ t : Int, g t = if t < p then f t else if t < p + i then f (a + (t - p)) else if t < p + m then f t else if t < n + m then f (t - m) else f t) (hR : E r = .inr (3, [.ref (ad c), .int (jI (n + m))])) (hC : E c = aI Γ 60 g) (hF : ∀ j : Nat, j ≠ r ∧ j ≠ c → E j = E0 j) (hm : m - i + 1 ≤ (mm : Int)), J l Γ Ω 6 ad 95 0 0 E 9 [some (.ref (ad r)), some (.int (jI a)), some (.int (jI m)), some (.int (jI p)), some (.int (jI i)), none] [] := by
    intro mm
    induction mm with
    | zero => intro i g E hi hg hR hC hF hm; exfalso; omega
    | succ mm ih9 =>
      intro i g E hi hg hR hC hF hm
      refine J_iload (q := 11) X dX3_repeat_9 rfl rfl ?_
      refine J_iload_n (q := 12) X dX3_repeat_11 rfl rfl ?_
      refine J_icmp_ge (q := 15) (tgt := 60) X dX3_repeat_12 (by decide) rfl (by omega) (by omega) (fun cq12 => ?_) (fun cq12 => ?_)
      · refine J_vret X R dX3_repeat_60 ?_
        rw [hE0] at hF
        have hge : g = fun t => if t < p then f t else if t < p + m then f (a + (t - p)) else if t < n + m then f (t - m) else f t := by
          funext t
          rw [hg t]
          repeat' split
          all_goals first | rfl | (exfalso; omega) | (congr 1; omega)
        rw [hge] at hC
        exact ⟨rfl, hR, hC, hF⟩
      · refine J_iload_n (q := 16) X dX3_repeat_15 rfl rfl ?_
        refine J_iload (q := 18) X dX3_repeat_16 rfl rfl ?_
        refine J_iadd (q := 19) X dX3_repeat_18 rfl ?_
        refine J_iload_n (q := 20) X dX3_repeat_19 rfl rfl ?_
        refine J_icmp_ge (q := 23) (tgt := 30) X dX3_repeat_20 (by decide) rfl (by omega) (by omega) (fun cq20 => ?_) (fun cq20 => ?_)
        · refine J_iload_n (q := 31) X dX3_repeat_30 rfl rfl ?_
          refine J_iload (q := 33) X dX3_repeat_31 rfl rfl ?_
          refine J_iadd (q := 34) X dX3_repeat_33 rfl ?_
          refine J_iload_n (q := 35) X dX3_repeat_34 rfl rfl ?_
          refine J_iadd (q := 36) X dX3_repeat_35 rfl ?_
          refine J_istore (q := 38) X dX3_repeat_36 (by decide) rfl rfl ?_
          refine J_aload_n (q := 39) X dX3_repeat_38 rfl rfl ?_
          refine J_get (q := 42) X dX3_repeat_39 fX3_9 hR (by omega) rfl rfl ?_
          refine J_iload_n (q := 43) X dX3_repeat_42 rfl rfl ?_
          refine J_iload (q := 45) X dX3_repeat_43 rfl rfl ?_
          refine J_iadd (q := 46) X dX3_repeat_45 rfl ?_
          refine J_aload_n (q := 47) X dX3_repeat_46 rfl rfl ?_
          refine J_get (q := 50) X dX3_repeat_47 fX3_9 hR (by omega) rfl rfl ?_
          refine J_iload (q := 52) X dX3_repeat_50 rfl rfl ?_
          refine J_iald (q := 53) X dX3_repeat_52 hC (by omega) (by omega) (by decide) rfl ?_
          refine J_iast (q := 54) X dX3_repeat_53 hC (by omega) (by omega) (by decide) rfl (fun Ew53 hkq53 hsq53 => ?_)
          replace hC := hkq53
          replace hR := (hsq53 r (by omega)).trans hR
          replace hF : ∀ j : Nat, j ≠ r ∧ j ≠ c → Ew53 j = E0 j := fun j hj => (hsq53 j (by omega)).trans (hF j hj)
          refine J_iinc (q := 57) X dX3_repeat_54 rfl (by decide) rfl rfl ?_
          refine J_goto (q := 9) X dX3_repeat_57 (by decide) ?_
          refine J_kill 5 ?_
          refine ih9 _ _ _ (by omega) (fun t => ?_) hR hC hF (by omega)
          simp only [iu, hg]
          repeat' split
          all_goals first | rfl | (exfalso; omega) | (congr 1; omega)
        · refine J_iload_n (q := 24) X dX3_repeat_23 rfl rfl ?_
          refine J_iload (q := 26) X dX3_repeat_24 rfl rfl ?_
          refine J_iadd (q := 27) X dX3_repeat_26 rfl ?_
          refine J_goto (q := 36) X dX3_repeat_27 (by decide) ?_
          refine J_istore (q := 38) X dX3_repeat_36 (by decide) rfl rfl ?_
          refine J_aload_n (q := 39) X dX3_repeat_38 rfl rfl ?_
          refine J_get (q := 42) X dX3_repeat_39 fX3_9 hR (by omega) rfl rfl ?_
          refine J_iload_n (q := 43) X dX3_repeat_42 rfl rfl ?_
          refine J_iload (q := 45) X dX3_repeat_43 rfl rfl ?_
          refine J_iadd (q := 46) X dX3_repeat_45 rfl ?_
          refine J_aload_n (q := 47) X dX3_repeat_46 rfl rfl ?_
          refine J_get (q := 50) X dX3_repeat_47 fX3_9 hR (by omega) rfl rfl ?_
          refine J_iload (q := 52) X dX3_repeat_50 rfl rfl ?_
          refine J_iald (q := 53) X dX3_repeat_52 hC (by omega) (by omega) (by decide) rfl ?_
          refine J_iast (q := 54) X dX3_repeat_53 hC (by omega) (by omega) (by decide) rfl (fun Ew53 hkq53 hsq53 => ?_)
          replace hC := hkq53
          replace hR := (hsq53 r (by omega)).trans hR
          replace hF : ∀ j : Nat, j ≠ r ∧ j ≠ c → Ew53 j = E0 j := fun j hj => (hsq53 j (by omega)).trans (hF j hj)
          refine J_iinc (q := 57) X dX3_repeat_54 rfl (by decide) rfl rfl ?_
          refine J_goto (q := 9) X dX3_repeat_57 (by decide) ?_
          refine J_kill 5 ?_
          refine ih9 _ _ _ (by omega) (fun t => ?_) hR hC hF (by omega)
          simp only [iu, hg]
          repeat' split
          all_goals first | rfl | (exfalso; omega) | (congr 1; omega)
  refine lp9 100 _ _ _ (by omega) (fun t => ?_) hR hC hF (by omega)
  simp only [icp]
  repeat' split
  all_goals first | rfl | (exfalso; omega) | (congr 1; omega)

set_option maxRecDepth 100000 in
set_option maxHeartbeats 4000000 in
theorem c_X3_openingSigns {l : Launch} {Γ : JG} {ad : Nat → Nat} {E : Nat → va_E} {r c : Nat} {n : Int} {f : Int → Int}  (hR : E r = .inr (3, [.ref (ad c), .int (jI n)])) (hC : E c = aI Γ 60 f) (hr : r < 95 ∧ c < 95 ∧ r ≠ c) (hn : 0 ≤ n ∧ n ≤ 60) : JM l Γ yX3_openingSigns cX3_openingSigns 3 (some .int) 1 21 0 0 ad 95 E [.ref (ad r)] (pP (smI (fun j => bI (opn (f j % 128))) n) E) := by
  refine JM_intro (own := RX3) [some (.ref (ad r)), none, none] rfl rfl rfl (Nat.le_of_ble_eq_true rfl) ?_
  intro Ω X R hin
  refine J_iconst (q := 1) X dX3_openingSigns_0 rfl ?_
  refine J_istore_n (q := 2) X dX3_openingSigns_1 (by decide) rfl rfl ?_
  refine J_iconst (q := 3) X dX3_openingSigns_2 rfl ?_
  refine J_istore_n (q := 4) X dX3_openingSigns_3 (by decide) rfl rfl ?_
  have lp4 : ∀ (m : Nat) (i : Int) (hi : 0 ≤ i ∧ i ≤ n) (hm : n - i + 1 ≤ (m : Int)), J l Γ Ω 3 ad 95 0 0 E 4 [some (.ref (ad r)), some (.int (jI (smI (fun j => bI (opn (f j % 128))) i))), some (.int (jI i))] [] := by
    intro m
    induction m with
    | zero => intro i hi hm; exfalso; omega
    | succ m ih4 =>
      intro i hi hm
      refine J_iload_n (q := 5) X dX3_openingSigns_4 rfl rfl ?_
      refine J_aload_n (q := 6) X dX3_openingSigns_5 rfl rfl ?_
      refine J_get (q := 9) X dX3_openingSigns_6 fX3_15 hR (by omega) rfl rfl ?_
      refine J_icmp_ge (q := 12) (tgt := 32) X dX3_openingSigns_9 (by decide) rfl (by omega) (by omega) (fun cq9 => ?_) (fun cq9 => ?_)
      · refine J_iload_n (q := 33) X dX3_openingSigns_32 rfl rfl ?_
        refine J_iret X R dX3_openingSigns_33 ?_
        exact ⟨by rw [show i = n by omega], rfl⟩
      · refine J_iload_n (q := 13) X dX3_openingSigns_12 rfl rfl ?_
        refine J_aload_n (q := 14) X dX3_openingSigns_13 rfl rfl ?_
        refine J_iload_n (q := 15) X dX3_openingSigns_14 rfl rfl ?_
        refine J_callP (q := 18) (jrV X mX3_23 dX3_openingSigns_15 (c_X3_byteAt hR hC (by omega) (by omega) (by omega)) hR (by omega) rfl rfl rfl rfl (Nat.le_of_ble_eq_true rfl) (by decide)) rfl ?_
        refine J_callP (q := 21) (jrS X mX3_59 dX3_openingSigns_18 (c_X5_opens (by omega)) rfl rfl (Nat.le_of_ble_eq_true rfl) (by decide)) rfl ?_
        refine J_callP (q := 24) (jrS X mX3_49 dX3_openingSigns_21 (c_X9_oneIf (by first | omega | exact bI_bd _)) rfl rfl (Nat.le_of_ble_eq_true rfl) (by decide)) rfl ?_
        refine J_iadd (q := 25) X dX3_openingSigns_24 rfl ?_
        refine J_istore_n (q := 26) X dX3_openingSigns_25 (by decide) rfl rfl ?_
        refine J_iinc (q := 29) X dX3_openingSigns_26 rfl (by decide) rfl rfl ?_
        refine J_goto (q := 4) X dX3_openingSigns_29 (by decide) ?_
        rw [← smI_succ (fun j => bI (opn (f j % 128))) (by omega : (0:Int) ≤ i)]
        exact ih4 _ (by omega) (by omega)
  exact lp4 100 0 (by omega) (by omega)

set_option maxRecDepth 100000 in
set_option maxHeartbeats 4000000 in
theorem c_X3_closingSigns {l : Launch} {Γ : JG} {ad : Nat → Nat} {E : Nat → va_E} {r c : Nat} {n : Int} {f : Int → Int}  (hR : E r = .inr (3, [.ref (ad c), .int (jI n)])) (hC : E c = aI Γ 60 f) (hr : r < 95 ∧ c < 95 ∧ r ≠ c) (hn : 0 ≤ n ∧ n ≤ 60) : JM l Γ yX3_closingSigns cX3_closingSigns 3 (some .int) 1 21 0 0 ad 95 E [.ref (ad r)] (pP (smI (fun j => bI (clo (f j % 128))) n) E) := by
  refine JM_intro (own := RX3) [some (.ref (ad r)), none, none] rfl rfl rfl (Nat.le_of_ble_eq_true rfl) ?_
  intro Ω X R hin
  refine J_iconst (q := 1) X dX3_closingSigns_0 rfl ?_
  refine J_istore_n (q := 2) X dX3_closingSigns_1 (by decide) rfl rfl ?_
  refine J_iconst (q := 3) X dX3_closingSigns_2 rfl ?_
  refine J_istore_n (q := 4) X dX3_closingSigns_3 (by decide) rfl rfl ?_
  have lp4 : ∀ (m : Nat) (i : Int) (hi : 0 ≤ i ∧ i ≤ n) (hm : n - i + 1 ≤ (m : Int)), J l Γ Ω 3 ad 95 0 0 E 4 [some (.ref (ad r)), some (.int (jI (smI (fun j => bI (clo (f j % 128))) i))), some (.int (jI i))] [] := by
    intro m
    induction m with
    | zero => intro i hi hm; exfalso; omega
    | succ m ih4 =>
      intro i hi hm
      refine J_iload_n (q := 5) X dX3_closingSigns_4 rfl rfl ?_
      refine J_aload_n (q := 6) X dX3_closingSigns_5 rfl rfl ?_
      refine J_get (q := 9) X dX3_closingSigns_6 fX3_15 hR (by omega) rfl rfl ?_
      refine J_icmp_ge (q := 12) (tgt := 32) X dX3_closingSigns_9 (by decide) rfl (by omega) (by omega) (fun cq9 => ?_) (fun cq9 => ?_)
      · refine J_iload_n (q := 33) X dX3_closingSigns_32 rfl rfl ?_
        refine J_iret X R dX3_closingSigns_33 ?_
        exact ⟨by rw [show i = n by omega], rfl⟩
      · refine J_iload_n (q := 13) X dX3_closingSigns_12 rfl rfl ?_
        refine J_aload_n (q := 14) X dX3_closingSigns_13 rfl rfl ?_
        refine J_iload_n (q := 15) X dX3_closingSigns_14 rfl rfl ?_
        refine J_callP (q := 18) (jrV X mX3_23 dX3_closingSigns_15 (c_X3_byteAt hR hC (by omega) (by omega) (by omega)) hR (by omega) rfl rfl rfl rfl (Nat.le_of_ble_eq_true rfl) (by decide)) rfl ?_
        refine J_callP (q := 21) (jrS X mX3_62 dX3_closingSigns_18 (c_X5_closes (by omega)) rfl rfl (Nat.le_of_ble_eq_true rfl) (by decide)) rfl ?_
        refine J_callP (q := 24) (jrS X mX3_49 dX3_closingSigns_21 (c_X9_oneIf (by first | omega | exact bI_bd _)) rfl rfl (Nat.le_of_ble_eq_true rfl) (by decide)) rfl ?_
        refine J_iadd (q := 25) X dX3_closingSigns_24 rfl ?_
        refine J_istore_n (q := 26) X dX3_closingSigns_25 (by decide) rfl rfl ?_
        refine J_iinc (q := 29) X dX3_closingSigns_26 rfl (by decide) rfl rfl ?_
        refine J_goto (q := 4) X dX3_closingSigns_29 (by decide) ?_
        rw [← smI_succ (fun j => bI (clo (f j % 128))) (by omega : (0:Int) ≤ i)]
        exact ih4 _ (by omega) (by omega)
  exact lp4 100 0 (by omega) (by omega)
