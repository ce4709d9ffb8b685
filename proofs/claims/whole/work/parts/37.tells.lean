/-! what the telling calls answer -/
def qFault (s : KS) : Int := s.b0
def qReason (s : KS) (w : Int) : Int := if w < 0 ∨ 2 < w then -1 else if s.b0 = 0 ∨ s.b0 = 6 then -4 else if w = 0 then s.b2 else if w = 1 then s.b3 else s.b4
def qRule (s : KS) (w : Int) : Int := if w = 0 then s.n else if w = 1 then lin s.f s.n + 1 else if 2 ≤ w ∧ w ≤ 7 then smI (fun j => bI (bel s.f s.n w j)) s.n else if w = 8 then s.p else if w = 9 then s.a else if w = 10 then mx (lvl s.f s.n) s.n.toNat else -1
def qSign (s : KS) (i w : Int) : Int := if ¬ (0 ≤ i ∧ i < s.n) then -1 else if w = 0 then s.f i % 128 else if w = 1 then dep s.f i else if w = 2 then lvl s.f s.n i else if w = 3 then prt 3 s.f s.n i else if w = 4 then alF s.f s.n i else if w = 5 then bI (cla s.f s.n i) else if w = 6 then bI (128 ≤ s.f i) else if w = 7 then bI (hid s.f s.n i) else if w = 8 then lin s.f i else -1
def qLow (s : KS) (i j : Int) : Int := if ¬ (0 ≤ i ∧ i ≤ j ∧ j ≤ s.n) then -1 else mn (dep s.f) i (j - i + 1).toNat
def qAround (s : KS) (i kd : Int) : Int := if ¬ (0 ≤ i ∧ i < s.n ∧ 0 ≤ kd ∧ kd ≤ 3) then -1 else arF s.f s.n i kd
def qWhole (s : KS) (i : Int) : Int := if ¬ (0 ≤ i ∧ i ≤ s.n) then -1 else wt s.f s.n i
def qBare (s : KS) (i w : Int) : Int := if ¬ (0 ≤ i ∧ i ≤ s.n) then -1 else if w = 0 then nbF s.f s.n i else if w = 1 then lbF s.f s.n i else -1
def qLongest (s : KS) (w : Int) : Int := if w < 0 ∨ 1 < w then -1 else if w = 0 then (lgF s.f s.n s.n.toNat).1 else wt s.f s.n (lgF s.f s.n s.n.toNat).1 - (lgF s.f s.n s.n.toNat).1
def qSeen (s : KS) (k : Int) : Int := if k < 0 then -1 else snF s.f s.n k
def qTorn (s : KS) : Int := s.tor
def qCount (s : KS) (w : Int) : Int := if w = 0 then s.kp 0 + s.kp 1 else if w = 1 then s.tl else if w = 2 then (if s.th 0 = 0 then -4 else s.sn 0) else if w = 3 then smI (fun j => bI (opn (s.f j % 128))) s.n else if w = 4 then smI (fun j => bI (clo (s.f j % 128))) s.n else -1
set_option maxRecDepth 100000 in
set_option maxHeartbeats 4000000 in
theorem c_X9_fault {l : Launch} {Γ : JG} {ad : Nat → Nat} {E : Nat → va_E} {s : KS} (hc : KI Γ ad E s) : JM l Γ yX9_fault cX9_fault 1 (some .int) 0 0 0 0 ad 95 E [.ref (ad 0)] (pP (qFault s) E) := by
  refine JM_intro (own := RX9) [some (.ref (ad 0))] rfl rfl rfl (Nat.le_of_ble_eq_true rfl) ?_
  intro Ω X R hin
  obtain ⟨hj, hk⟩ := id hc
  obtain ⟨hk0, -⟩ := id hk
  obtain ⟨x, mk, ti, k0, ka, kb, kv, dm, b1, df, ma, pa, al, hp, de, sl, le, hi, hFk, hRd, hK, hT, hY, hBl, hDr, hDC, hMk, hB, hR, hC, hP, hA, hH, hD, hS, hV, hZ, hHs, hSt, hHR, hHC, hIm, hIR, hIC, hKp, hSh, hSR, hSC, hdm, hmk, hQ⟩ := hj
  have hv := hk0.hv
  obtain ⟨hn, -⟩ := id hv
  have ho := hk0.ho
  have htb := hk0.htb
  obtain ⟨htl, -⟩ := id htb
  have hb := hk0.hb
  obtain ⟨hpa, hal, hde, hsl, hle, hhi⟩ := id hQ
  refine J_aload_n (q := 1) X dX9_fault_0 rfl rfl ?_
  refine J_get (q := 4) X dX9_fault_1 fX9_10 hFk (by omega) rfl rfl ?_
  refine J_get (q := 7) X dX9_fault_4 fX9_75 hRd (by omega) rfl rfl ?_
  refine J_get (q := 10) X dX9_fault_7 fX9_95 hBl (by omega) rfl rfl ?_
  refine J_iret X R dX9_fault_10 ?_
  exact ⟨rfl, rfl⟩

set_option maxRecDepth 100000 in
set_option maxHeartbeats 4000000 in
theorem c_X9_torn {l : Launch} {Γ : JG} {ad : Nat → Nat} {E : Nat → va_E} {s : KS} (hc : KI Γ ad E s) : JM l Γ yX9_torn cX9_torn 1 (some .int) 0 0 0 0 ad 95 E [.ref (ad 0)] (pP (qTorn s) E) := by
  refine JM_intro (own := RX9) [some (.ref (ad 0))] rfl rfl rfl (Nat.le_of_ble_eq_true rfl) ?_
  intro Ω X R hin
  obtain ⟨hj, hk⟩ := id hc
  obtain ⟨hk0, -⟩ := id hk
  obtain ⟨x, mk, ti, k0, ka, kb, kv, dm, b1, df, ma, pa, al, hp, de, sl, le, hi, hFk, hRd, hK, hT, hY, hBl, hDr, hDC, hMk, hB, hR, hC, hP, hA, hH, hD, hS, hV, hZ, hHs, hSt, hHR, hHC, hIm, hIR, hIC, hKp, hSh, hSR, hSC, hdm, hmk, hQ⟩ := hj
  have hv := hk0.hv
  obtain ⟨hn, -⟩ := id hv
  have ho := hk0.ho
  have htb := hk0.htb
  obtain ⟨htl, -⟩ := id htb
  have hb := hk0.hb
  obtain ⟨hpa, hal, hde, hsl, hle, hhi⟩ := id hQ
  refine J_aload_n (q := 1) X dX9_torn_0 rfl rfl ?_
  refine J_get (q := 4) X dX9_torn_1 fX9_256 hFk (by omega) rfl rfl ?_
  refine J_iret X R dX9_torn_4 ?_
  exact ⟨rfl, rfl⟩

set_option maxRecDepth 100000 in
set_option maxHeartbeats 4000000 in
theorem c_X9_reason {l : Launch} {Γ : JG} {ad : Nat → Nat} {E : Nat → va_E} {s : KS} {w : Int} (hc : KI Γ ad E s) (hbw : -2147483648 ≤ w ∧ w < 2147483648) : JM l Γ yX9_reason cX9_reason 2 (some .int) 1 21 0 0 ad 95 E [.ref (ad 0), .int (jI w)] (pP (qReason s w) E) := by
  refine JM_intro (own := RX9) [some (.ref (ad 0)), some (.int (jI w))] rfl rfl rfl (Nat.le_of_ble_eq_true rfl) ?_
  intro Ω X R hin
  obtain ⟨hj, hk⟩ := id hc
  obtain ⟨hk0, -⟩ := id hk
  obtain ⟨x, mk, ti, k0, ka, kb, kv, dm, b1, df, ma, pa, al, hp, de, sl, le, hi, hFk, hRd, hK, hT, hY, hBl, hDr, hDC, hMk, hB, hR, hC, hP, hA, hH, hD, hS, hV, hZ, hHs, hSt, hHR, hHC, hIm, hIR, hIC, hKp, hSh, hSR, hSC, hdm, hmk, hQ⟩ := hj
  have hv := hk0.hv
  obtain ⟨hn, -⟩ := id hv
  have ho := hk0.ho
  have htb := hk0.htb
  obtain ⟨htl, -⟩ := id htb
  have hb := hk0.hb
  obtain ⟨hpa, hal, hde, hsl, hle, hhi⟩ := id hQ
  refine J_iload_n (q := 1) X dX9_reason_0 rfl rfl ?_
  refine J_if_lt (q := 4) (tgt := 9) X dX9_reason_1 (by decide) rfl (by omega) (fun cq1 => ?_) (fun cq1 => ?_)
  · refine J_iconst (q := 10) X dX9_reason_9 rfl ?_
    refine J_iret X R dX9_reason_10 ?_
    exact ⟨by rw [show qReason s w = -1 by unfold qReason; repeat (first | (rw [if_pos (by omega)]; done) | (rw [if_neg (by omega)]; done) | rw [if_neg (by omega)])], rfl⟩
  · refine J_iload_n (q := 5) X dX9_reason_4 rfl rfl ?_
    refine J_iconst (q := 6) X dX9_reason_5 rfl ?_
    refine J_icmp_le (q := 9) (tgt := 11) X dX9_reason_6 (by decide) rfl (by omega) (by omega) (fun cq6 => ?_) (fun cq6 => ?_)
    · refine J_aload_n (q := 12) X dX9_reason_11 rfl rfl ?_
      refine J_get (q := 15) X dX9_reason_12 fX9_10 hFk (by omega) rfl rfl ?_
      refine J_get (q := 18) X dX9_reason_15 fX9_75 hRd (by omega) rfl rfl ?_
      refine J_iload_n (q := 19) X dX9_reason_18 rfl rfl ?_
      refine J_callP (q := 22) (jrV X mX9_98 dX9_reason_19 (c_X0_part hBl (by omega) (by omega)) hBl (by omega) rfl rfl rfl rfl (Nat.le_of_ble_eq_true rfl) (by decide)) rfl ?_
      refine J_iret X R dX9_reason_22 ?_
      exact ⟨by rw [show qReason s w = _ from if_neg (by omega)], rfl⟩
    · refine J_iconst (q := 10) X dX9_reason_9 rfl ?_
      refine J_iret X R dX9_reason_10 ?_
      exact ⟨by rw [show qReason s w = -1 by unfold qReason; repeat (first | (rw [if_pos (by omega)]; done) | (rw [if_neg (by omega)]; done) | rw [if_neg (by omega)])], rfl⟩

set_option maxRecDepth 100000 in
set_option maxHeartbeats 4000000 in
theorem c_X9_rule {l : Launch} {Γ : JG} {ad : Nat → Nat} {E : Nat → va_E} {s : KS} {w : Int} (hc : KI Γ ad E s) (hbw : -2147483648 ≤ w ∧ w < 2147483648) : JM l Γ yX9_rule cX9_rule 2 (some .int) 5 106 0 0 ad 95 E [.ref (ad 0), .int (jI w)] (pP (qRule s w) E) := by
  refine JM_intro (own := RX9) [some (.ref (ad 0)), some (.int (jI w))] rfl rfl rfl (Nat.le_of_ble_eq_true rfl) ?_
  intro Ω X R hin
  obtain ⟨hj, hk⟩ := id hc
  obtain ⟨hk0, -⟩ := id hk
  obtain ⟨x, mk, ti, k0, ka, kb, kv, dm, b1, df, ma, pa, al, hp, de, sl, le, hi, hFk, hRd, hK, hT, hY, hBl, hDr, hDC, hMk, hB, hR, hC, hP, hA, hH, hD, hS, hV, hZ, hHs, hSt, hHR, hHC, hIm, hIR, hIC, hKp, hSh, hSR, hSC, hdm, hmk, hQ⟩ := hj
  have hv := hk0.hv
  obtain ⟨hn, -⟩ := id hv
  have ho := hk0.ho
  have htb := hk0.htb
  obtain ⟨htl, -⟩ := id htb
  have hb := hk0.hb
  obtain ⟨hpa, hal, hde, hsl, hle, hhi⟩ := id hQ
  refine J_iload_n (q := 1) X dX9_rule_0 rfl rfl ?_
  rcases (show (w < 0 ∨ 10 < w) ∨ w = 0 ∨ w = 1 ∨ w = 2 ∨ w = 3 ∨ w = 4 ∨ w = 5 ∨ w = 6 ∨ w = 7 ∨ w = 8 ∨ w = 9 ∨ w = 10 by omega) with hsw | hsw | hsw | hsw | hsw | hsw | hsw | hsw | hsw | hsw | hsw | hsw
  · refine J_tableOut (tgt := 119) X dX9_rule_1 (by omega) hsw (by decide) ?_
    refine J_iconst (q := 120) X dX9_rule_119 rfl ?_
    refine J_iret X R dX9_rule_120 ?_
    exact ⟨by rw [show qRule s w = -1 by unfold qRule; repeat (first | (rw [if_pos (by omega)]; done) | (rw [if_neg (by omega)]; done) | rw [if_neg (by omega)])], rfl⟩
  · refine J_tableIn (tgt := 60) (v := 0) (off := 59) X dX9_rule_1 hsw (by decide) rfl (by decide) ?_
    refine J_aload_n (q := 61) X dX9_rule_60 rfl rfl ?_
    refine J_get (q := 64) X dX9_rule_61 fX9_32 hFk (by omega) rfl rfl ?_
    refine J_get (q := 67) X dX9_rule_64 fX9_102 hR (by omega) rfl rfl ?_
    refine J_iret X R dX9_rule_67 ?_
    exact ⟨by rw [show qRule s w = s.n by unfold qRule; repeat (first | (rw [if_pos (by omega)]; done) | (rw [if_neg (by omega)]; done) | rw [if_neg (by omega)])], rfl⟩
  · refine J_tableIn (tgt := 68) (v := 1) (off := 67) X dX9_rule_1 hsw (by decide) rfl (by decide) ?_
    refine J_aload_n (q := 69) X dX9_rule_68 rfl rfl ?_
    refine J_get (q := 72) X dX9_rule_69 fX9_24 hFk (by omega) rfl rfl ?_
    refine J_get (q := 75) X dX9_rule_72 fX9_105 hB (by omega) rfl rfl ?_
    refine J_aload_n (q := 76) X dX9_rule_75 rfl rfl ?_
    refine J_get (q := 79) X dX9_rule_76 fX9_32 hFk (by omega) rfl rfl ?_
    refine J_get (q := 82) X dX9_rule_79 fX9_102 hR (by omega) rfl rfl ?_
    refine J_iald (q := 83) X dX9_rule_82 hS (by omega) (by omega) (by decide) rfl ?_
    refine J_iconst (q := 84) X dX9_rule_83 rfl ?_
    refine J_iadd (q := 85) X dX9_rule_84 rfl ?_
    refine J_iret X R dX9_rule_85 ?_
    rw [hsl s.n (by omega) (by omega)]
    exact ⟨by rw [show qRule s w = lin s.f s.n + 1 by unfold qRule; repeat (first | (rw [if_pos (by omega)]; done) | (rw [if_neg (by omega)]; done) | rw [if_neg (by omega)])], rfl⟩
  · refine J_tableIn (tgt := 86) (v := 2) (off := 85) X dX9_rule_1 hsw (by decide) rfl (by decide) ?_
    refine J_aload_n (q := 87) X dX9_rule_86 rfl rfl ?_
    refine J_get (q := 90) X dX9_rule_87 fX9_24 hFk (by omega) rfl rfl ?_
    refine J_iload_n (q := 91) X dX9_rule_90 rfl rfl ?_
    refine J_callP (q := 94) (jrV X mX9_109 dX9_rule_91 (c_X1_tally hB hR hC hP hS hZ hv hpa hsl hhi (by omega)) hB (by omega) rfl rfl rfl rfl (Nat.le_of_ble_eq_true rfl) (by decide)) rfl ?_
    refine J_iret X R dX9_rule_94 ?_
    exact ⟨by rw [show qRule s w = smI (fun j => bI (bel s.f s.n w j)) s.n by unfold qRule; repeat (first | (rw [if_pos (by omega)]; done) | (rw [if_neg (by omega)]; done) | rw [if_neg (by omega)])], rfl⟩
  · refine J_tableIn (tgt := 86) (v := 3) (off := 85) X dX9_rule_1 hsw (by decide) rfl (by decide) ?_
    refine J_aload_n (q := 87) X dX9_rule_86 rfl rfl ?_
    refine J_get (q := 90) X dX9_rule_87 fX9_24 hFk (by omega) rfl rfl ?_
    refine J_iload_n (q := 91) X dX9_rule_90 rfl rfl ?_
    refine J_callP (q := 94) (jrV X mX9_109 dX9_rule_91 (c_X1_tally hB hR hC hP hS hZ hv hpa hsl hhi (by omega)) hB (by omega) rfl rfl rfl rfl (Nat.le_of_ble_eq_true rfl) (by decide)) rfl ?_
    refine J_iret X R dX9_rule_94 ?_
    exact ⟨by rw [show qRule s w = smI (fun j => bI (bel s.f s.n w j)) s.n by unfold qRule; repeat (first | (rw [if_pos (by omega)]; done) | (rw [if_neg (by omega)]; done) | rw [if_neg (by omega)])], rfl⟩
  · refine J_tableIn (tgt := 86) (v := 4) (off := 85) X dX9_rule_1 hsw (by decide) rfl (by decide) ?_
    refine J_aload_n (q := 87) X dX9_rule_86 rfl rfl ?_
    refine J_get (q := 90) X dX9_rule_87 fX9_24 hFk (by omega) rfl rfl ?_
    refine J_iload_n (q := 91) X dX9_rule_90 rfl rfl ?_
    refine J_callP (q := 94) (jrV X mX9_109 dX9_rule_91 (c_X1_tally hB hR hC hP hS hZ hv hpa hsl hhi (by omega)) hB (by omega) rfl rfl rfl rfl (Nat.le_of_ble_eq_true rfl) (by decide)) rfl ?_
    refine J_iret X R dX9_rule_94 ?_
    exact ⟨by rw [show qRule s w = smI (fun j => bI (bel s.f s.n w j)) s.n by unfold qRule; repeat (first | (rw [if_pos (by omega)]; done) | (rw [if_neg (by omega)]; done) | rw [if_neg (by omega)])], rfl⟩
  · refine J_tableIn (tgt := 86) (v := 5) (off := 85) X dX9_rule_1 hsw (by decide) rfl (by decide) ?_
    refine J_aload_n (q := 87) X dX9_rule_86 rfl rfl ?_
    refine J_get (q := 90) X dX9_rule_87 fX9_24 hFk (by omega) rfl rfl ?_
    refine J_iload_n (q := 91) X dX9_rule_90 rfl rfl ?_
    refine J_callP (q := 94) (jrV X mX9_109 dX9_rule_91 (c_X1_tally hB hR hC hP hS hZ hv hpa hsl hhi (by omega)) hB (by omega) rfl rfl rfl rfl (Nat.le_of_ble_eq_true rfl) (by decide)) rfl ?_
    refine J_iret X R dX9_rule_94 ?_
    exact ⟨by rw [show qRule s w = smI (fun j => bI (bel s.f s.n w j)) s.n by unfold qRule; repeat (first | (rw [if_pos (by omega)]; done) | (rw [if_neg (by omega)]; done) | rw [if_neg (by omega)])], rfl⟩
  · refine J_tableIn (tgt := 86) (v := 6) (off := 85) X dX9_rule_1 hsw (by decide) rfl (by decide) ?_
    refine J_aload_n (q := 87) X dX9_rule_86 rfl rfl ?_
    refine J_get (q := 90) X dX9_rule_87 fX9_24 hFk (by omega) rfl rfl ?_
    refine J_iload_n (q := 91) X dX9_rule_90 rfl rfl ?_
    refine J_callP (q := 94) (jrV X mX9_109 dX9_rule_91 (c_X1_tally hB hR hC hP hS hZ hv hpa hsl hhi (by omega)) hB (by omega) rfl rfl rfl rfl (Nat.le_of_ble_eq_true rfl) (by decide)) rfl ?_
    refine J_iret X R dX9_rule_94 ?_
    exact ⟨by rw [show qRule s w = smI (fun j => bI (bel s.f s.n w j)) s.n by unfold qRule; repeat (first | (rw [if_pos (by omega)]; done) | (rw [if_neg (by omega)]; done) | rw [if_neg (by omega)])], rfl⟩
  · refine J_tableIn (tgt := 86) (v := 7) (off := 85) X dX9_rule_1 hsw (by decide) rfl (by decide) ?_
    refine J_aload_n (q := 87) X dX9_rule_86 rfl rfl ?_
    refine J_get (q := 90) X dX9_rule_87 fX9_24 hFk (by omega) rfl rfl ?_
    refine J_iload_n (q := 91) X dX9_rule_90 rfl rfl ?_
    refine J_callP (q := 94) (jrV X mX9_109 dX9_rule_91 (c_X1_tally hB hR hC hP hS hZ hv hpa hsl hhi (by omega)) hB (by omega) rfl rfl rfl rfl (Nat.le_of_ble_eq_true rfl) (by decide)) rfl ?_
    refine J_iret X R dX9_rule_94 ?_
    exact ⟨by rw [show qRule s w = smI (fun j => bI (bel s.f s.n w j)) s.n by unfold qRule; repeat (first | (rw [if_pos (by omega)]; done) | (rw [if_neg (by omega)]; done) | rw [if_neg (by omega)])], rfl⟩
  · refine J_tableIn (tgt := 95) (v := 8) (off := 94) X dX9_rule_1 hsw (by decide) rfl (by decide) ?_
    refine J_aload_n (q := 96) X dX9_rule_95 rfl rfl ?_
    refine J_get (q := 99) X dX9_rule_96 fX9_36 hFk (by omega) rfl rfl ?_
    refine J_get (q := 102) X dX9_rule_99 fX9_112 hHs (by omega) rfl rfl ?_
    refine J_iret X R dX9_rule_102 ?_
    exact ⟨by rw [show qRule s w = s.p by unfold qRule; repeat (first | (rw [if_pos (by omega)]; done) | (rw [if_neg (by omega)]; done) | rw [if_neg (by omega)])], rfl⟩
  · refine J_tableIn (tgt := 103) (v := 9) (off := 102) X dX9_rule_1 hsw (by decide) rfl (by decide) ?_
    refine J_aload_n (q := 104) X dX9_rule_103 rfl rfl ?_
    refine J_get (q := 107) X dX9_rule_104 fX9_36 hFk (by omega) rfl rfl ?_
    refine J_get (q := 110) X dX9_rule_107 fX9_115 hHs (by omega) rfl rfl ?_
    refine J_iret X R dX9_rule_110 ?_
    exact ⟨by rw [show qRule s w = s.a by unfold qRule; repeat (first | (rw [if_pos (by omega)]; done) | (rw [if_neg (by omega)]; done) | rw [if_neg (by omega)])], rfl⟩
  · refine J_tableIn (tgt := 111) (v := 10) (off := 110) X dX9_rule_1 hsw (by decide) rfl (by decide) ?_
    refine J_aload_n (q := 112) X dX9_rule_111 rfl rfl ?_
    refine J_get (q := 115) X dX9_rule_112 fX9_24 hFk (by omega) rfl rfl ?_
    refine J_callP (q := 118) (jrV X mX9_118 dX9_rule_115 (c_X1_greatestLevel hB hR hC hV hv hle) hB (by omega) rfl rfl rfl rfl (Nat.le_of_ble_eq_true rfl) (by decide)) rfl ?_
    refine J_iret X R dX9_rule_118 ?_
    exact ⟨by rw [show qRule s w = mx (lvl s.f s.n) s.n.toNat by unfold qRule; repeat (first | (rw [if_pos (by omega)]; done) | (rw [if_neg (by omega)]; done) | rw [if_neg (by omega)])], rfl⟩

set_option maxRecDepth 100000 in
set_option maxHeartbeats 4000000 in
theorem c_X9_sign {l : Launch} {Γ : JG} {ad : Nat → Nat} {E : Nat → va_E} {s : KS} {i w : Int} (hc : KI Γ ad E s) (hbi : -2147483648 ≤ i ∧ i < 2147483648) (hbw : -2147483648 ≤ w ∧ w < 2147483648) : JM l Γ yX9_sign cX9_sign 3 (some .int) 2 43 0 0 ad 95 E [.ref (ad 0), .int (jI i), .int (jI w)] (pP (qSign s i w) E) := by
  refine JM_intro (own := RX9) [some (.ref (ad 0)), some (.int (jI i)), some (.int (jI w))] rfl rfl rfl (Nat.le_of_ble_eq_true rfl) ?_
  intro Ω X R hin
  obtain ⟨hj, hk⟩ := id hc
  obtain ⟨hk0, -⟩ := id hk
  obtain ⟨x, mk, ti, k0, ka, kb, kv, dm, b1, df, ma, pa, al, hp, de, sl, le, hi, hFk, hRd, hK, hT, hY, hBl, hDr, hDC, hMk, hB, hR, hC, hP, hA, hH, hD, hS, hV, hZ, hHs, hSt, hHR, hHC, hIm, hIR, hIC, hKp, hSh, hSR, hSC, hdm, hmk, hQ⟩ := hj
  have hv := hk0.hv
  obtain ⟨hn, -⟩ := id hv
  have ho := hk0.ho
  have htb := hk0.htb
  obtain ⟨htl, -⟩ := id htb
  have hb := hk0.hb
  obtain ⟨hpa, hal, hde, hsl, hle, hhi⟩ := id hQ
  refine J_aload_n (q := 1) X dX9_sign_0 rfl rfl ?_
  refine J_get (q := 4) X dX9_sign_1 fX9_32 hFk (by omega) rfl rfl ?_
  refine J_iload_n (q := 5) X dX9_sign_4 rfl rfl ?_
  refine J_callP (q := 8) (jrV X mX9_121 dX9_sign_5 (c_X3_hasSign hR hC (by omega) (by omega) (by omega)) hR (by omega) rfl rfl rfl rfl (Nat.le_of_ble_eq_true rfl) (by decide)) rfl ?_
  refine J_if_neB (q := 11) (tgt := 13) X dX9_sign_8 (by decide) rfl (fun cq8 => ?_) (fun cq8 => ?_)
  · refine J_iload_n (q := 14) X dX9_sign_13 rfl rfl ?_
    rcases (show (w < 0 ∨ 8 < w) ∨ w = 0 ∨ w = 1 ∨ w = 2 ∨ w = 3 ∨ w = 4 ∨ w = 5 ∨ w = 6 ∨ w = 7 ∨ w = 8 by omega) with hsw | hsw | hsw | hsw | hsw | hsw | hsw | hsw | hsw | hsw
    · refine J_tableOut (tgt := 160) X dX9_sign_14 (by omega) hsw (by decide) ?_
      refine J_iconst (q := 161) X dX9_sign_160 rfl ?_
      refine J_iret X R dX9_sign_161 ?_
      exact ⟨by rw [show qSign s i w = -1 by unfold qSign; repeat (first | (rw [if_pos (by omega)]; done) | (rw [if_neg (by omega)]; done) | rw [if_neg (by omega)])], rfl⟩
    · refine J_tableIn (tgt := 64) (v := 0) (off := 50) X dX9_sign_14 hsw (by decide) rfl (by decide) ?_
      refine J_aload_n (q := 65) X dX9_sign_64 rfl rfl ?_
      refine J_get (q := 68) X dX9_sign_65 fX9_32 hFk (by omega) rfl rfl ?_
      refine J_iload_n (q := 69) X dX9_sign_68 rfl rfl ?_
      refine J_callP (q := 72) (jrV X mX9_125 dX9_sign_69 (c_X3_byteAt hR hC (by omega) (by omega) (by omega)) hR (by omega) rfl rfl rfl rfl (Nat.le_of_ble_eq_true rfl) (by decide)) rfl ?_
      refine J_iret X R dX9_sign_72 ?_
      exact ⟨by rw [show qSign s i w = s.f i % 128 by unfold qSign; repeat (first | (rw [if_pos (by omega)]; done) | (rw [if_neg (by omega)]; done) | rw [if_neg (by omega)])], rfl⟩
    · refine J_tableIn (tgt := 73) (v := 1) (off := 59) X dX9_sign_14 hsw (by decide) rfl (by decide) ?_
      refine J_aload_n (q := 74) X dX9_sign_73 rfl rfl ?_
      refine J_get (q := 77) X dX9_sign_74 fX9_24 hFk (by omega) rfl rfl ?_
      refine J_get (q := 80) X dX9_sign_77 fX9_128 hB (by omega) rfl rfl ?_
      refine J_iload_n (q := 81) X dX9_sign_80 rfl rfl ?_
      refine J_iald (q := 82) X dX9_sign_81 hD (by omega) (by omega) (by decide) rfl ?_
      refine J_iret X R dX9_sign_82 ?_
      rw [hde i (by omega) (by omega)]
      exact ⟨by rw [show qSign s i w = dep s.f i by unfold qSign; repeat (first | (rw [if_pos (by omega)]; done) | (rw [if_neg (by omega)]; done) | rw [if_neg (by omega)])], rfl⟩
    · refine J_tableIn (tgt := 83) (v := 2) (off := 69) X dX9_sign_14 hsw (by decide) rfl (by decide) ?_
      refine J_aload_n (q := 84) X dX9_sign_83 rfl rfl ?_
      refine J_get (q := 87) X dX9_sign_84 fX9_24 hFk (by omega) rfl rfl ?_
      refine J_get (q := 90) X dX9_sign_87 fX9_131 hB (by omega) rfl rfl ?_
      refine J_iload_n (q := 91) X dX9_sign_90 rfl rfl ?_
      refine J_iald (q := 92) X dX9_sign_91 hV (by omega) (by omega) (by decide) rfl ?_
      refine J_iret X R dX9_sign_92 ?_
      rw [hle i (by omega) (by omega)]
      exact ⟨by rw [show qSign s i w = lvl s.f s.n i by unfold qSign; repeat (first | (rw [if_pos (by omega)]; done) | (rw [if_neg (by omega)]; done) | rw [if_neg (by omega)])], rfl⟩
    · refine J_tableIn (tgt := 93) (v := 3) (off := 79) X dX9_sign_14 hsw (by decide) rfl (by decide) ?_
      refine J_aload_n (q := 94) X dX9_sign_93 rfl rfl ?_
      refine J_get (q := 97) X dX9_sign_94 fX9_24 hFk (by omega) rfl rfl ?_
      refine J_get (q := 100) X dX9_sign_97 fX9_134 hB (by omega) rfl rfl ?_
      refine J_iload_n (q := 101) X dX9_sign_100 rfl rfl ?_
      refine J_iald (q := 102) X dX9_sign_101 hP (by omega) (by omega) (by decide) rfl ?_
      refine J_iret X R dX9_sign_102 ?_
      rw [hpa i (by omega) (by omega)]
      exact ⟨by rw [show qSign s i w = prt 3 s.f s.n i by unfold qSign; repeat (first | (rw [if_pos (by omega)]; done) | (rw [if_neg (by omega)]; done) | rw [if_neg (by omega)])], rfl⟩
    · refine J_tableIn (tgt := 103) (v := 4) (off := 89) X dX9_sign_14 hsw (by decide) rfl (by decide) ?_
      refine J_aload_n (q := 104) X dX9_sign_103 rfl rfl ?_
      refine J_get (q := 107) X dX9_sign_104 fX9_24 hFk (by omega) rfl rfl ?_
      refine J_get (q := 110) X dX9_sign_107 fX9_137 hB (by omega) rfl rfl ?_
      refine J_iload_n (q := 111) X dX9_sign_110 rfl rfl ?_
      refine J_iald (q := 112) X dX9_sign_111 hA (by omega) (by omega) (by decide) rfl ?_
      refine J_iret X R dX9_sign_112 ?_
      rw [hal i (by omega) (by omega)]
      exact ⟨by rw [show qSign s i w = alF s.f s.n i by unfold qSign; repeat (first | (rw [if_pos (by omega)]; done) | (rw [if_neg (by omega)]; done) | rw [if_neg (by omega)])], rfl⟩
    · refine J_tableIn (tgt := 113) (v := 5) (off := 99) X dX9_sign_14 hsw (by decide) rfl (by decide) ?_
      refine J_aload_n (q := 114) X dX9_sign_113 rfl rfl ?_
      refine J_get (q := 117) X dX9_sign_114 fX9_24 hFk (by omega) rfl rfl ?_
      refine J_iload_n (q := 118) X dX9_sign_117 rfl rfl ?_
      refine J_callP (q := 121) (jrV X mX9_140 dX9_sign_118 (c_X1_clashes hB hR hC hP hv hpa (by omega)) hB (by omega) rfl rfl rfl rfl (Nat.le_of_ble_eq_true rfl) (by decide)) rfl ?_
      refine J_callP (q := 124) (jrS X mX9_143 dX9_sign_121 (c_X9_oneIf (by first | omega | exact bI_bd _)) rfl rfl (Nat.le_of_ble_eq_true rfl) (by decide)) rfl ?_
      refine J_iret X R dX9_sign_124 ?_
      exact ⟨by rw [show qSign s i w = bI (cla s.f s.n i) by unfold qSign; repeat (first | (rw [if_pos (by omega)]; done) | (rw [if_neg (by omega)]; done) | rw [if_neg (by omega)])], rfl⟩
    · refine J_tableIn (tgt := 125) (v := 6) (off := 111) X dX9_sign_14 hsw (by decide) rfl (by decide) ?_
      refine J_aload_n (q := 126) X dX9_sign_125 rfl rfl ?_
      refine J_get (q := 129) X dX9_sign_126 fX9_32 hFk (by omega) rfl rfl ?_
      refine J_iload_n (q := 130) X dX9_sign_129 rfl rfl ?_
      refine J_callP (q := 133) (jrV X mX9_147 dX9_sign_130 (c_X3_markedAt hR hC (by omega) (by omega) (by omega) ((hv.2 i (by omega) (by omega)).1)) hR (by omega) rfl rfl rfl rfl (Nat.le_of_ble_eq_true rfl) (by decide)) rfl ?_
      refine J_callP (q := 136) (jrS X mX9_143 dX9_sign_133 (c_X9_oneIf (by first | omega | exact bI_bd _)) rfl rfl (Nat.le_of_ble_eq_true rfl) (by decide)) rfl ?_
      refine J_iret X R dX9_sign_136 ?_
      exact ⟨by rw [show qSign s i w = bI (128 ≤ s.f i) by unfold qSign; repeat (first | (rw [if_pos (by omega)]; done) | (rw [if_neg (by omega)]; done) | rw [if_neg (by omega)])], rfl⟩
    · refine J_tableIn (tgt := 137) (v := 7) (off := 123) X dX9_sign_14 hsw (by decide) rfl (by decide) ?_
      refine J_aload_n (q := 138) X dX9_sign_137 rfl rfl ?_
      refine J_get (q := 141) X dX9_sign_138 fX9_24 hFk (by omega) rfl rfl ?_
      refine J_get (q := 144) X dX9_sign_141 fX9_150 hB (by omega) rfl rfl ?_
      refine J_iload_n (q := 145) X dX9_sign_144 rfl rfl ?_
      refine J_zald (q := 146) X dX9_sign_145 hZ (by omega) (by omega) (by decide) rfl ?_
      refine J_callP (q := 149) (jrS X mX9_143 dX9_sign_146 (c_X9_oneIf (by rw [hhi i (by omega) (by omega)]; exact bI_bd _)) rfl rfl (Nat.le_of_ble_eq_true rfl) (by decide)) rfl ?_
      refine J_iret X R dX9_sign_149 ?_
      rw [hhi i (by omega) (by omega)]
      exact ⟨by rw [show qSign s i w = bI (hid s.f s.n i) by unfold qSign; repeat (first | (rw [if_pos (by omega)]; done) | (rw [if_neg (by omega)]; done) | rw [if_neg (by omega)])], rfl⟩
    · refine J_tableIn (tgt := 150) (v := 8) (off := 136) X dX9_sign_14 hsw (by decide) rfl (by decide) ?_
      refine J_aload_n (q := 151) X dX9_sign_150 rfl rfl ?_
      refine J_get (q := 154) X dX9_sign_151 fX9_24 hFk (by omega) rfl rfl ?_
      refine J_get (q := 157) X dX9_sign_154 fX9_105 hB (by omega) rfl rfl ?_
      refine J_iload_n (q := 158) X dX9_sign_157 rfl rfl ?_
      refine J_iald (q := 159) X dX9_sign_158 hS (by omega) (by omega) (by decide) rfl ?_
      refine J_iret X R dX9_sign_159 ?_
      rw [hsl i (by omega) (by omega)]
      exact ⟨by rw [show qSign s i w = lin s.f i by unfold qSign; repeat (first | (rw [if_pos (by omega)]; done) | (rw [if_neg (by omega)]; done) | rw [if_neg (by omega)])], rfl⟩
  · refine J_iconst (q := 12) X dX9_sign_11 rfl ?_
    refine J_iret X R dX9_sign_12 ?_
    exact ⟨by rw [show qSign s i w = -1 by unfold qSign; repeat (first | (rw [if_pos (by omega)]; done) | (rw [if_neg (by omega)]; done) | rw [if_neg (by omega)])], rfl⟩

set_option maxRecDepth 100000 in
set_option maxHeartbeats 4000000 in
theorem c_X9_low {l : Launch} {Γ : JG} {ad : Nat → Nat} {E : Nat → va_E} {s : KS} {i j : Int} (hc : KI Γ ad E s) (hbi : -2147483648 ≤ i ∧ i < 2147483648) (hbj : -2147483648 ≤ j ∧ j < 2147483648) : JM l Γ yX9_low cX9_low 3 (some .int) 2 45 0 0 ad 95 E [.ref (ad 0), .int (jI i), .int (jI j)] (pP (qLow s i j) E) := by
  refine JM_intro (own := RX9) [some (.ref (ad 0)), some (.int (jI i)), some (.int (jI j))] rfl rfl rfl (Nat.le_of_ble_eq_true rfl) ?_
  intro Ω X R hin
  obtain ⟨hj, hk⟩ := id hc
  obtain ⟨hk0, -⟩ := id hk
  obtain ⟨x, mk, ti, k0, ka, kb, kv, dm, b1, df, ma, pa, al, hp, de, sl, le, hi, hFk, hRd, hK, hT, hY, hBl, hDr, hDC, hMk, hB, hR, hC, hP, hA, hH, hD, hS, hV, hZ, hHs, hSt, hHR, hHC, hIm, hIR, hIC, hKp, hSh, hSR, hSC, hdm, hmk, hQ⟩ := hj
  have hv := hk0.hv
  obtain ⟨hn, -⟩ := id hv
  have ho := hk0.ho
  have htb := hk0.htb
  obtain ⟨htl, -⟩ := id htb
  have hb := hk0.hb
  obtain ⟨hpa, hal, hde, hsl, hle, hhi⟩ := id hQ
  refine J_aload_n (q := 1) X dX9_low_0 rfl rfl ?_
  refine J_get (q := 4) X dX9_low_1 fX9_32 hFk (by omega) rfl rfl ?_
  refine J_iload_n (q := 5) X dX9_low_4 rfl rfl ?_
  refine J_callP (q := 8) (jrV X mX9_153 dX9_low_5 (c_X3_hasPlace hR hC (by omega) (by omega) (by omega)) hR (by omega) rfl rfl rfl rfl (Nat.le_of_ble_eq_true rfl) (by decide)) rfl ?_
  refine J_if_eqB (q := 11) (tgt := 27) X dX9_low_8 (by decide) rfl (fun cq8 => ?_) (fun cq8 => ?_)
  · refine J_iconst (q := 28) X dX9_low_27 rfl ?_
    refine J_iret X R dX9_low_28 ?_
    exact ⟨by rw [show qLow s i j = -1 by unfold qLow; repeat (first | (rw [if_pos (by omega)]; done) | (rw [if_neg (by omega)]; done) | rw [if_neg (by omega)])], rfl⟩
  · refine J_aload_n (q := 12) X dX9_low_11 rfl rfl ?_
    refine J_get (q := 15) X dX9_low_12 fX9_32 hFk (by omega) rfl rfl ?_
    refine J_iload_n (q := 16) X dX9_low_15 rfl rfl ?_
    refine J_callP (q := 19) (jrV X mX9_153 dX9_low_16 (c_X3_hasPlace hR hC (by omega) (by omega) (by omega)) hR (by omega) rfl rfl rfl rfl (Nat.le_of_ble_eq_true rfl) (by decide)) rfl ?_
    refine J_if_eqB (q := 22) (tgt := 27) X dX9_low_19 (by decide) rfl (fun cq19 => ?_) (fun cq19 => ?_)
    · refine J_iconst (q := 28) X dX9_low_27 rfl ?_
      refine J_iret X R dX9_low_28 ?_
      exact ⟨by rw [show qLow s i j = -1 by unfold qLow; repeat (first | (rw [if_pos (by omega)]; done) | (rw [if_neg (by omega)]; done) | rw [if_neg (by omega)])], rfl⟩
    · refine J_iload_n (q := 23) X dX9_low_22 rfl rfl ?_
      refine J_iload_n (q := 24) X dX9_low_23 rfl rfl ?_
      refine J_icmp_ge (q := 27) (tgt := 29) X dX9_low_24 (by decide) rfl (by omega) (by omega) (fun cq24 => ?_) (fun cq24 => ?_)
      · refine J_aload_n (q := 30) X dX9_low_29 rfl rfl ?_
        refine J_get (q := 33) X dX9_low_30 fX9_24 hFk (by omega) rfl rfl ?_
        refine J_iload_n (q := 34) X dX9_low_33 rfl rfl ?_
        refine J_iload_n (q := 35) X dX9_low_34 rfl rfl ?_
        refine J_callP (q := 38) (jrV X mX9_156 dX9_low_35 (c_X1_leastDepth hB hR hC hD hv hde (by omega)) hB (by omega) rfl rfl rfl rfl (Nat.le_of_ble_eq_true rfl) (by decide)) rfl ?_
        refine J_iret X R dX9_low_38 ?_
        exact ⟨by rw [show qLow s i j = mn (dep s.f) i (j - i + 1).toNat by unfold qLow; repeat (first | (rw [if_pos (by omega)]; done) | (rw [if_neg (by omega)]; done) | rw [if_neg (by omega)])], rfl⟩
      · refine J_iconst (q := 28) X dX9_low_27 rfl ?_
        refine J_iret X R dX9_low_28 ?_
        exact ⟨by rw [show qLow s i j = -1 by unfold qLow; repeat (first | (rw [if_pos (by omega)]; done) | (rw [if_neg (by omega)]; done) | rw [if_neg (by omega)])], rfl⟩

set_option maxRecDepth 100000 in
set_option maxHeartbeats 4000000 in
theorem c_X9_around {l : Launch} {Γ : JG} {ad : Nat → Nat} {E : Nat → va_E} {s : KS} {i kd : Int} (hc : KI Γ ad E s) (hbi : -2147483648 ≤ i ∧ i < 2147483648) (hbkd : -2147483648 ≤ kd ∧ kd < 2147483648) : JM l Γ yX9_around cX9_around 3 (some .int) 4 85 0 0 ad 95 E [.ref (ad 0), .int (jI i), .int (jI kd)] (pP (qAround s i kd) E) := by
  refine JM_intro (own := RX9) [some (.ref (ad 0)), some (.int (jI i)), some (.int (jI kd))] rfl rfl rfl (Nat.le_of_ble_eq_true rfl) ?_
  intro Ω X R hin
  obtain ⟨hj, hk⟩ := id hc
  obtain ⟨hk0, -⟩ := id hk
  obtain ⟨x, mk, ti, k0, ka, kb, kv, dm, b1, df, ma, pa, al, hp, de, sl, le, hi, hFk, hRd, hK, hT, hY, hBl, hDr, hDC, hMk, hB, hR, hC, hP, hA, hH, hD, hS, hV, hZ, hHs, hSt, hHR, hHC, hIm, hIR, hIC, hKp, hSh, hSR, hSC, hdm, hmk, hQ⟩ := hj
  have hv := hk0.hv
  obtain ⟨hn, -⟩ := id hv
  have ho := hk0.ho
  have htb := hk0.htb
  obtain ⟨htl, -⟩ := id htb
  have hb := hk0.hb
  obtain ⟨hpa, hal, hde, hsl, hle, hhi⟩ := id hQ
  refine J_aload_n (q := 1) X dX9_around_0 rfl rfl ?_
  refine J_get (q := 4) X dX9_around_1 fX9_32 hFk (by omega) rfl rfl ?_
  refine J_iload_n (q := 5) X dX9_around_4 rfl rfl ?_
  refine J_callP (q := 8) (jrV X mX9_121 dX9_around_5 (c_X3_hasSign hR hC (by omega) (by omega) (by omega)) hR (by omega) rfl rfl rfl rfl (Nat.le_of_ble_eq_true rfl) (by decide)) rfl ?_
  refine J_if_eqB (q := 11) (tgt := 20) X dX9_around_8 (by decide) rfl (fun cq8 => ?_) (fun cq8 => ?_)
  · refine J_iconst (q := 21) X dX9_around_20 rfl ?_
    refine J_iret X R dX9_around_21 ?_
    exact ⟨by rw [show qAround s i kd = -1 by unfold qAround; repeat (first | (rw [if_pos (by omega)]; done) | (rw [if_neg (by omega)]; done) | rw [if_neg (by omega)])], rfl⟩
  · refine J_iload_n (q := 12) X dX9_around_11 rfl rfl ?_
    refine J_if_lt (q := 15) (tgt := 20) X dX9_around_12 (by decide) rfl (by omega) (fun cq12 => ?_) (fun cq12 => ?_)
    · refine J_iconst (q := 21) X dX9_around_20 rfl ?_
      refine J_iret X R dX9_around_21 ?_
      exact ⟨by rw [show qAround s i kd = -1 by unfold qAround; repeat (first | (rw [if_pos (by omega)]; done) | (rw [if_neg (by omega)]; done) | rw [if_neg (by omega)])], rfl⟩
    · refine J_iload_n (q := 16) X dX9_around_15 rfl rfl ?_
      refine J_iconst (q := 17) X dX9_around_16 rfl ?_
      refine J_icmp_le (q := 20) (tgt := 22) X dX9_around_17 (by decide) rfl (by omega) (by omega) (fun cq17 => ?_) (fun cq17 => ?_)
      · refine J_aload_n (q := 23) X dX9_around_22 rfl rfl ?_
        refine J_get (q := 26) X dX9_around_23 fX9_24 hFk (by omega) rfl rfl ?_
        refine J_iload_n (q := 27) X dX9_around_26 rfl rfl ?_
        refine J_iload_n (q := 28) X dX9_around_27 rfl rfl ?_
        refine J_callP (q := 31) (jrV X mX9_160 dX9_around_28 (c_X1_innermostAround hB hR hC hP hA hv hpa hal (by omega) (by omega)) hB (by omega) rfl rfl rfl rfl (Nat.le_of_ble_eq_true rfl) (by decide)) rfl ?_
        refine J_iret X R dX9_around_31 ?_
        exact ⟨by rw [show qAround s i kd = arF s.f s.n i kd by unfold qAround; repeat (first | (rw [if_pos (by omega)]; done) | (rw [if_neg (by omega)]; done) | rw [if_neg (by omega)])], rfl⟩
      · refine J_iconst (q := 21) X dX9_around_20 rfl ?_
        refine J_iret X R dX9_around_21 ?_
        exact ⟨by rw [show qAround s i kd = -1 by unfold qAround; repeat (first | (rw [if_pos (by omega)]; done) | (rw [if_neg (by omega)]; done) | rw [if_neg (by omega)])], rfl⟩

set_option maxRecDepth 100000 in
set_option maxHeartbeats 4000000 in
theorem c_X9_whole {l : Launch} {Γ : JG} {ad : Nat → Nat} {E : Nat → va_E} {s : KS} {i : Int} (hc : KI Γ ad E s) (hbi : -2147483648 ≤ i ∧ i < 2147483648) : JM l Γ yX9_whole cX9_whole 2 (some .int) 3 62 0 0 ad 95 E [.ref (ad 0), .int (jI i)] (pP (qWhole s i) E) := by
  refine JM_intro (own := RX9) [some (.ref (ad 0)), some (.int (jI i))] rfl rfl rfl (Nat.le_of_ble_eq_true rfl) ?_
  intro Ω X R hin
  obtain ⟨hj, hk⟩ := id hc
  obtain ⟨hk0, -⟩ := id hk
  obtain ⟨x, mk, ti, k0, ka, kb, kv, dm, b1, df, ma, pa, al, hp, de, sl, le, hi, hFk, hRd, hK, hT, hY, hBl, hDr, hDC, hMk, hB, hR, hC, hP, hA, hH, hD, hS, hV, hZ, hHs, hSt, hHR, hHC, hIm, hIR, hIC, hKp, hSh, hSR, hSC, hdm, hmk, hQ⟩ := hj
  have hv := hk0.hv
  obtain ⟨hn, -⟩ := id hv
  have ho := hk0.ho
  have htb := hk0.htb
  obtain ⟨htl, -⟩ := id htb
  have hb := hk0.hb
  obtain ⟨hpa, hal, hde, hsl, hle, hhi⟩ := id hQ
  refine J_aload_n (q := 1) X dX9_whole_0 rfl rfl ?_
  refine J_get (q := 4) X dX9_whole_1 fX9_32 hFk (by omega) rfl rfl ?_
  refine J_iload_n (q := 5) X dX9_whole_4 rfl rfl ?_
  refine J_callP (q := 8) (jrV X mX9_153 dX9_whole_5 (c_X3_hasPlace hR hC (by omega) (by omega) (by omega)) hR (by omega) rfl rfl rfl rfl (Nat.le_of_ble_eq_true rfl) (by decide)) rfl ?_
  refine J_if_neB (q := 11) (tgt := 13) X dX9_whole_8 (by decide) rfl (fun cq8 => ?_) (fun cq8 => ?_)
  · refine J_aload_n (q := 14) X dX9_whole_13 rfl rfl ?_
    refine J_get (q := 17) X dX9_whole_14 fX9_24 hFk (by omega) rfl rfl ?_
    refine J_iload_n (q := 18) X dX9_whole_17 rfl rfl ?_
    refine J_callP (q := 21) (jrV X mX9_163 dX9_whole_18 (c_X1_wholeTill hB hR hC hP hv hpa (by omega)) hB (by omega) rfl rfl rfl rfl (Nat.le_of_ble_eq_true rfl) (by decide)) rfl ?_
    refine J_iret X R dX9_whole_21 ?_
    exact ⟨by rw [show qWhole s i = wt s.f s.n i by unfold qWhole; repeat (first | (rw [if_pos (by omega)]; done) | (rw [if_neg (by omega)]; done) | rw [if_neg (by omega)])], rfl⟩
  · refine J_iconst (q := 12) X dX9_whole_11 rfl ?_
    refine J_iret X R dX9_whole_12 ?_
    exact ⟨by rw [show qWhole s i = -1 by unfold qWhole; repeat (first | (rw [if_pos (by omega)]; done) | (rw [if_neg (by omega)]; done) | rw [if_neg (by omega)])], rfl⟩

set_option maxRecDepth 100000 in
set_option maxHeartbeats 4000000 in
theorem c_X9_bare {l : Launch} {Γ : JG} {ad : Nat → Nat} {E : Nat → va_E} {s : KS} {i w : Int} (hc : KI Γ ad E s) (hbi : -2147483648 ≤ i ∧ i < 2147483648) (hbw : -2147483648 ≤ w ∧ w < 2147483648) : JM l Γ yX9_bare cX9_bare 3 (some .int) 4 83 0 0 ad 95 E [.ref (ad 0), .int (jI i), .int (jI w)] (pP (qBare s i w) E) := by
  refine JM_intro (own := RX9) [some (.ref (ad 0)), some (.int (jI i)), some (.int (jI w))] rfl rfl rfl (Nat.le_of_ble_eq_true rfl) ?_
  intro Ω X R hin
  obtain ⟨hj, hk⟩ := id hc
  obtain ⟨hk0, -⟩ := id hk
  obtain ⟨x, mk, ti, k0, ka, kb, kv, dm, b1, df, ma, pa, al, hp, de, sl, le, hi, hFk, hRd, hK, hT, hY, hBl, hDr, hDC, hMk, hB, hR, hC, hP, hA, hH, hD, hS, hV, hZ, hHs, hSt, hHR, hHC, hIm, hIR, hIC, hKp, hSh, hSR, hSC, hdm, hmk, hQ⟩ := hj
  have hv := hk0.hv
  obtain ⟨hn, -⟩ := id hv
  have ho := hk0.ho
  have htb := hk0.htb
  obtain ⟨htl, -⟩ := id htb
  have hb := hk0.hb
  obtain ⟨hpa, hal, hde, hsl, hle, hhi⟩ := id hQ
  refine J_aload_n (q := 1) X dX9_bare_0 rfl rfl ?_
  refine J_get (q := 4) X dX9_bare_1 fX9_32 hFk (by omega) rfl rfl ?_
  refine J_iload_n (q := 5) X dX9_bare_4 rfl rfl ?_
  refine J_callP (q := 8) (jrV X mX9_153 dX9_bare_5 (c_X3_hasPlace hR hC (by omega) (by omega) (by omega)) hR (by omega) rfl rfl rfl rfl (Nat.le_of_ble_eq_true rfl) (by decide)) rfl ?_
  refine J_if_neB (q := 11) (tgt := 13) X dX9_bare_8 (by decide) rfl (fun cq8 => ?_) (fun cq8 => ?_)
  · refine J_iload_n (q := 14) X dX9_bare_13 rfl rfl ?_
    rcases (show (w ≠ 0 ∧ w ≠ 1) ∨ w = 0 ∨ w = 1 by omega) with hsw | hsw | hsw
    · refine J_lookup (tgt := 58) (off := 44) X dX9_bare_14 (by decide) (by omega) (by simp only [Op.lookupswitch.offset_cons, Op.lookupswitch.offset]; first | (repeat rw [if_neg (by omega)]) | simp; done) (by decide) ?_
      refine J_iconst (q := 59) X dX9_bare_58 rfl ?_
      refine J_iret X R dX9_bare_59 ?_
      exact ⟨by rw [show qBare s i w = -1 by unfold qBare; repeat (first | (rw [if_pos (by omega)]; done) | (rw [if_neg (by omega)]; done) | rw [if_neg (by omega)])], rfl⟩
    · refine J_lookup (tgt := 40) (off := 26) X dX9_bare_14 (by decide) (by omega) (by rw [hsw]; decide) (by decide) ?_
      refine J_aload_n (q := 41) X dX9_bare_40 rfl rfl ?_
      refine J_get (q := 44) X dX9_bare_41 fX9_24 hFk (by omega) rfl rfl ?_
      refine J_iload_n (q := 45) X dX9_bare_44 rfl rfl ?_
      refine J_callP (q := 48) (jrV X mX9_166 dX9_bare_45 (c_X1_nextBare hB hR hC hP hv hpa (by omega)) hB (by omega) rfl rfl rfl rfl (Nat.le_of_ble_eq_true rfl) (by decide)) rfl ?_
      refine J_iret X R dX9_bare_48 ?_
      exact ⟨by rw [show qBare s i w = nbF s.f s.n i by unfold qBare; repeat (first | (rw [if_pos (by omega)]; done) | (rw [if_neg (by omega)]; done) | rw [if_neg (by omega)])], rfl⟩
    · refine J_lookup (tgt := 49) (off := 35) X dX9_bare_14 (by decide) (by omega) (by rw [hsw]; decide) (by decide) ?_
      refine J_aload_n (q := 50) X dX9_bare_49 rfl rfl ?_
      refine J_get (q := 53) X dX9_bare_50 fX9_24 hFk (by omega) rfl rfl ?_
      refine J_iload_n (q := 54) X dX9_bare_53 rfl rfl ?_
      refine J_callP (q := 57) (jrV X mX9_169 dX9_bare_54 (c_X1_lastBare hB hR hC hP hv hpa (by omega)) hB (by omega) rfl rfl rfl rfl (Nat.le_of_ble_eq_true rfl) (by decide)) rfl ?_
      refine J_iret X R dX9_bare_57 ?_
      exact ⟨by rw [show qBare s i w = lbF s.f s.n i by unfold qBare; repeat (first | (rw [if_pos (by omega)]; done) | (rw [if_neg (by omega)]; done) | rw [if_neg (by omega)])], rfl⟩
  · refine J_iconst (q := 12) X dX9_bare_11 rfl ?_
    refine J_iret X R dX9_bare_12 ?_
    exact ⟨by rw [show qBare s i w = -1 by unfold qBare; repeat (first | (rw [if_pos (by omega)]; done) | (rw [if_neg (by omega)]; done) | rw [if_neg (by omega)])], rfl⟩

set_option maxRecDepth 100000 in
set_option maxHeartbeats 4000000 in
theorem c_X9_longest {l : Launch} {Γ : JG} {ad : Nat → Nat} {E : Nat → va_E} {s : KS} {w : Int} (hc : KI Γ ad E s) (hbw : -2147483648 ≤ w ∧ w < 2147483648) : JM l Γ yX9_longest cX9_longest 3 (some .int) 4 86 0 0 ad 95 E [.ref (ad 0), .int (jI w)] (pP (qLongest s w) E) := by
  refine JM_intro (own := RX9) [some (.ref (ad 0)), some (.int (jI w)), none] rfl rfl rfl (Nat.le_of_ble_eq_true rfl) ?_
  intro Ω X R hin
  obtain ⟨hj, hk⟩ := id hc
  obtain ⟨hk0, -⟩ := id hk
  obtain ⟨x, mk, ti, k0, ka, kb, kv, dm, b1, df, ma, pa, al, hp, de, sl, le, hi, hFk, hRd, hK, hT, hY, hBl, hDr, hDC, hMk, hB, hR, hC, hP, hA, hH, hD, hS, hV, hZ, hHs, hSt, hHR, hHC, hIm, hIR, hIC, hKp, hSh, hSR, hSC, hdm, hmk, hQ⟩ := hj
  have hv := hk0.hv
  obtain ⟨hn, -⟩ := id hv
  have ho := hk0.ho
  have htb := hk0.htb
  obtain ⟨htl, -⟩ := id htb
  have hb := hk0.hb
  obtain ⟨hpa, hal, hde, hsl, hle, hhi⟩ := id hQ
  have hlg := lg_bd (f := s.f) hn.1 s.n.toNat (by omega)
  refine J_iload_n (q := 1) X dX9_longest_0 rfl rfl ?_
  refine J_if_lt (q := 4) (tgt := 9) X dX9_longest_1 (by decide) rfl (by omega) (fun cq1 => ?_) (fun cq1 => ?_)
  · refine J_iconst (q := 10) X dX9_longest_9 rfl ?_
    refine J_iret X R dX9_longest_10 ?_
    exact ⟨by rw [show qLongest s w = -1 by unfold qLongest; repeat (first | (rw [if_pos (by omega)]; done) | (rw [if_neg (by omega)]; done) | rw [if_neg (by omega)])], rfl⟩
  · refine J_iload_n (q := 5) X dX9_longest_4 rfl rfl ?_
    refine J_iconst (q := 6) X dX9_longest_5 rfl ?_
    refine J_icmp_le (q := 9) (tgt := 11) X dX9_longest_6 (by decide) rfl (by omega) (by omega) (fun cq6 => ?_) (fun cq6 => ?_)
    · refine J_aload_n (q := 12) X dX9_longest_11 rfl rfl ?_
      refine J_get (q := 15) X dX9_longest_12 fX9_24 hFk (by omega) rfl rfl ?_
      refine J_callP (q := 18) (jrV X mX9_172 dX9_longest_15 (c_X1_longestFrom hB hR hC hP hv hpa) hB (by omega) rfl rfl rfl rfl (Nat.le_of_ble_eq_true rfl) (by decide)) rfl ?_
      refine J_istore_n (q := 19) X dX9_longest_18 (by decide) rfl rfl ?_
      refine J_iload_n (q := 20) X dX9_longest_19 rfl rfl ?_
      refine J_if_ne (q := 23) (tgt := 27) X dX9_longest_20 (by decide) rfl (by omega) (fun cq20 => ?_) (fun cq20 => ?_)
      · refine J_aload_n (q := 28) X dX9_longest_27 rfl rfl ?_
        refine J_get (q := 31) X dX9_longest_28 fX9_24 hFk (by omega) rfl rfl ?_
        refine J_iload_n (q := 32) X dX9_longest_31 rfl rfl ?_
        refine J_callP (q := 35) (jrV X mX9_163 dX9_longest_32 (c_X1_wholeTill hB hR hC hP hv hpa (by omega)) hB (by omega) rfl rfl rfl rfl (Nat.le_of_ble_eq_true rfl) (by decide)) rfl ?_
        refine J_iload_n (q := 36) X dX9_longest_35 rfl rfl ?_
        refine J_isub (q := 37) X dX9_longest_36 rfl ?_
        refine J_iret X R dX9_longest_37 ?_
        first
          | exact ⟨by rw [show qLongest s w = (lgF s.f s.n s.n.toNat).1 by unfold qLongest; rw [if_neg (by omega), if_pos (by omega)]], rfl⟩
          | exact ⟨by rw [show qLongest s w = wt s.f s.n (lgF s.f s.n s.n.toNat).1 - (lgF s.f s.n s.n.toNat).1 by unfold qLongest; rw [if_neg (by omega), if_neg (by omega)]], rfl⟩
      · refine J_iload_n (q := 24) X dX9_longest_23 rfl rfl ?_
        refine J_goto (q := 37) X dX9_longest_24 (by decide) ?_
        refine J_iret X R dX9_longest_37 ?_
        first
          | exact ⟨by rw [show qLongest s w = (lgF s.f s.n s.n.toNat).1 by unfold qLongest; rw [if_neg (by omega), if_pos (by omega)]], rfl⟩
          | exact ⟨by rw [show qLongest s w = wt s.f s.n (lgF s.f s.n s.n.toNat).1 - (lgF s.f s.n s.n.toNat).1 by unfold qLongest; rw [if_neg (by omega), if_neg (by omega)]], rfl⟩
    · refine J_iconst (q := 10) X dX9_longest_9 rfl ?_
      refine J_iret X R dX9_longest_10 ?_
      exact ⟨by rw [show qLongest s w = -1 by unfold qLongest; repeat (first | (rw [if_pos (by omega)]; done) | (rw [if_neg (by omega)]; done) | rw [if_neg (by omega)])], rfl⟩

set_option maxRecDepth 100000 in
set_option maxHeartbeats 4000000 in
theorem c_X9_seen {l : Launch} {Γ : JG} {ad : Nat → Nat} {E : Nat → va_E} {s : KS} {k : Int} (hc : KI Γ ad E s) (hbk : -2147483648 ≤ k ∧ k < 2147483648) : JM l Γ yX9_seen cX9_seen 2 (some .int) 1 23 0 0 ad 95 E [.ref (ad 0), .int (jI k)] (pP (qSeen s k) E) := by
  refine JM_intro (own := RX9) [some (.ref (ad 0)), some (.int (jI k))] rfl rfl rfl (Nat.le_of_ble_eq_true rfl) ?_
  intro Ω X R hin
  obtain ⟨hj, hk⟩ := id hc
  obtain ⟨hk0, -⟩ := id hk
  obtain ⟨x, mk, ti, k0, ka, kb, kv, dm, b1, df, ma, pa, al, hp, de, sl, le, hi, hFk, hRd, hK, hT, hY, hBl, hDr, hDC, hMk, hB, hR, hC, hP, hA, hH, hD, hS, hV, hZ, hHs, hSt, hHR, hHC, hIm, hIR, hIC, hKp, hSh, hSR, hSC, hdm, hmk, hQ⟩ := hj
  have hv := hk0.hv
  obtain ⟨hn, -⟩ := id hv
  have ho := hk0.ho
  have htb := hk0.htb
  obtain ⟨htl, -⟩ := id htb
  have hb := hk0.hb
  obtain ⟨hpa, hal, hde, hsl, hle, hhi⟩ := id hQ
  refine J_iload_n (q := 1) X dX9_seen_0 rfl rfl ?_
  refine J_if_ge (q := 4) (tgt := 6) X dX9_seen_1 (by decide) rfl (by omega) (fun cq1 => ?_) (fun cq1 => ?_)
  · refine J_aload_n (q := 7) X dX9_seen_6 rfl rfl ?_
    refine J_get (q := 10) X dX9_seen_7 fX9_24 hFk (by omega) rfl rfl ?_
    refine J_iload_n (q := 11) X dX9_seen_10 rfl rfl ?_
    refine J_callP (q := 14) (jrV X mX9_175 dX9_seen_11 (c_X1_seenAt hB hR hC hZ hv hhi (by omega)) hB (by omega) rfl rfl rfl rfl (Nat.le_of_ble_eq_true rfl) (by decide)) rfl ?_
    refine J_iret X R dX9_seen_14 ?_
    exact ⟨by rw [show qSeen s k = snF s.f s.n k by unfold qSeen; repeat (first | (rw [if_pos (by omega)]; done) | (rw [if_neg (by omega)]; done) | rw [if_neg (by omega)])], rfl⟩
  · refine J_iconst (q := 5) X dX9_seen_4 rfl ?_
    refine J_iret X R dX9_seen_5 ?_
    exact ⟨by rw [show qSeen s k = -1 by unfold qSeen; repeat (first | (rw [if_pos (by omega)]; done) | (rw [if_neg (by omega)]; done) | rw [if_neg (by omega)])], rfl⟩

set_option maxRecDepth 100000 in
set_option maxHeartbeats 4000000 in
theorem c_X9_count {l : Launch} {Γ : JG} {ad : Nat → Nat} {E : Nat → va_E} {s : KS} {w : Int} (hc : KI Γ ad E s) (hbw : -2147483648 ≤ w ∧ w < 2147483648) : JM l Γ yX9_count cX9_count 2 (some .int) 2 43 0 0 ad 95 E [.ref (ad 0), .int (jI w)] (pP (qCount s w) E) := by
  refine JM_intro (own := RX9) [some (.ref (ad 0)), some (.int (jI w))] rfl rfl rfl (Nat.le_of_ble_eq_true rfl) ?_
  intro Ω X R hin
  obtain ⟨hj, hk⟩ := id hc
  obtain ⟨hk0, -⟩ := id hk
  obtain ⟨x, mk, ti, k0, ka, kb, kv, dm, b1, df, ma, pa, al, hp, de, sl, le, hi, hFk, hRd, hK, hT, hY, hBl, hDr, hDC, hMk, hB, hR, hC, hP, hA, hH, hD, hS, hV, hZ, hHs, hSt, hHR, hHC, hIm, hIR, hIC, hKp, hSh, hSR, hSC, hdm, hmk, hQ⟩ := hj
  have hv := hk0.hv
  obtain ⟨hn, -⟩ := id hv
  have ho := hk0.ho
  have htb := hk0.htb
  obtain ⟨htl, -⟩ := id htb
  have hb := hk0.hb
  obtain ⟨hpa, hal, hde, hsl, hle, hhi⟩ := id hQ
  have hkp0 := hk0.hkp 0 (by omega) (by omega)
  have hkp1 := hk0.hkp 1 (by omega) (by omega)
  have hsh0 := (hk0.hs 0 (by omega)).1
  have hZ0 := hSR 0 (by omega)
  refine J_iload_n (q := 1) X dX9_count_0 rfl rfl ?_
  rcases (show (w < 0 ∨ 4 < w) ∨ w = 0 ∨ w = 1 ∨ w = 2 ∨ w = 3 ∨ w = 4 by omega) with hsw | hsw | hsw | hsw | hsw | hsw
  · refine J_tableOut (tgt := 107) X dX9_count_1 (by omega) hsw (by decide) ?_
    refine J_iconst (q := 108) X dX9_count_107 rfl ?_
    refine J_iret X R dX9_count_108 ?_
    exact ⟨by rw [show qCount s w = -1 by unfold qCount; repeat (first | (rw [if_pos (by omega)]; done) | (rw [if_neg (by omega)]; done) | rw [if_neg (by omega)])], rfl⟩
  · refine J_tableIn (tgt := 36) (v := 0) (off := 35) X dX9_count_1 hsw (by decide) rfl (by decide) ?_
    refine J_aload_n (q := 37) X dX9_count_36 rfl rfl ?_
    refine J_get (q := 40) X dX9_count_37 fX9_47 hFk (by omega) rfl rfl ?_
    refine J_iconst (q := 41) X dX9_count_40 rfl ?_
    refine J_zald (q := 42) X dX9_count_41 hKp (by omega) (by omega) (by decide) rfl ?_
    refine J_callP (q := 45) (jrS X mX9_143 dX9_count_42 (c_X9_oneIf hkp0) rfl rfl (Nat.le_of_ble_eq_true rfl) (by decide)) rfl ?_
    refine J_aload_n (q := 46) X dX9_count_45 rfl rfl ?_
    refine J_get (q := 49) X dX9_count_46 fX9_47 hFk (by omega) rfl rfl ?_
    refine J_iconst (q := 50) X dX9_count_49 rfl ?_
    refine J_zald (q := 51) X dX9_count_50 hKp (by omega) (by omega) (by decide) rfl ?_
    refine J_callP (q := 54) (jrS X mX9_143 dX9_count_51 (c_X9_oneIf hkp1) rfl rfl (Nat.le_of_ble_eq_true rfl) (by decide)) rfl ?_
    refine J_iadd (q := 55) X dX9_count_54 rfl ?_
    refine J_iret X R dX9_count_55 ?_
    exact ⟨by rw [show qCount s w = s.kp 0 + s.kp 1 by unfold qCount; repeat (first | (rw [if_pos (by omega)]; done) | (rw [if_neg (by omega)]; done) | rw [if_neg (by omega)])], rfl⟩
  · refine J_tableIn (tgt := 56) (v := 1) (off := 55) X dX9_count_1 hsw (by decide) rfl (by decide) ?_
    refine J_aload_n (q := 57) X dX9_count_56 rfl rfl ?_
    refine J_get (q := 60) X dX9_count_57 fX9_20 hFk (by omega) rfl rfl ?_
    refine J_get (q := 63) X dX9_count_60 fX9_58 hT (by omega) rfl rfl ?_
    refine J_iret X R dX9_count_63 ?_
    exact ⟨by rw [show qCount s w = s.tl by unfold qCount; repeat (first | (rw [if_pos (by omega)]; done) | (rw [if_neg (by omega)]; done) | rw [if_neg (by omega)])], rfl⟩
  · refine J_tableIn (tgt := 64) (v := 2) (off := 63) X dX9_count_1 hsw (by decide) rfl (by decide) ?_
    refine J_aload_n (q := 65) X dX9_count_64 rfl rfl ?_
    refine J_get (q := 68) X dX9_count_65 fX9_53 hFk (by omega) rfl rfl ?_
    refine J_iconst (q := 69) X dX9_count_68 rfl ?_
    refine J_aald (q := 70) X dX9_count_69 (by decide) hSh (by omega) (by omega) (by decide) rfl rfl ?_
    refine J_get (q := 73) X dX9_count_70 fX9_259 hZ0 (by omega) rfl rfl ?_
    refine J_if_eq (q := 76) (tgt := 88) X dX9_count_73 (by decide) rfl (by omega) (fun cq73 => ?_) (fun cq73 => ?_)
    · refine J_bipush (q := 90) X dX9_count_88 rfl (by decide) ?_
      refine J_iret X R dX9_count_90 ?_
      first
        | exact ⟨by rw [show qCount s w = s.sn 0 by unfold qCount; rw [if_neg (by omega), if_neg (by omega), if_pos (by omega), if_neg (by omega)]], rfl⟩
        | exact ⟨by rw [show qCount s w = -4 by unfold qCount; rw [if_neg (by omega), if_neg (by omega), if_pos (by omega), if_pos (by omega)]], rfl⟩
    · refine J_aload_n (q := 77) X dX9_count_76 rfl rfl ?_
      refine J_get (q := 80) X dX9_count_77 fX9_53 hFk (by omega) rfl rfl ?_
      refine J_iconst (q := 81) X dX9_count_80 rfl ?_
      refine J_aald (q := 82) X dX9_count_81 (by decide) hSh (by omega) (by omega) (by decide) rfl rfl ?_
      refine J_get (q := 85) X dX9_count_82 fX9_263 hZ0 (by omega) rfl rfl ?_
      refine J_goto (q := 90) X dX9_count_85 (by decide) ?_
      refine J_iret X R dX9_count_90 ?_
      first
        | exact ⟨by rw [show qCount s w = s.sn 0 by unfold qCount; rw [if_neg (by omega), if_neg (by omega), if_pos (by omega), if_neg (by omega)]], rfl⟩
        | exact ⟨by rw [show qCount s w = -4 by unfold qCount; rw [if_neg (by omega), if_neg (by omega), if_pos (by omega), if_pos (by omega)]], rfl⟩
  · refine J_tableIn (tgt := 91) (v := 3) (off := 90) X dX9_count_1 hsw (by decide) rfl (by decide) ?_
    refine J_aload_n (q := 92) X dX9_count_91 rfl rfl ?_
    refine J_get (q := 95) X dX9_count_92 fX9_32 hFk (by omega) rfl rfl ?_
    refine J_callP (q := 98) (jrV X mX9_264 dX9_count_95 (c_X3_openingSigns hR hC (by omega) (by omega)) hR (by omega) rfl rfl rfl rfl (Nat.le_of_ble_eq_true rfl) (by decide)) rfl ?_
    refine J_iret X R dX9_count_98 ?_
    exact ⟨by rw [show qCount s w = smI (fun j => bI (opn (s.f j % 128))) s.n by unfold qCount; repeat (first | (rw [if_pos (by omega)]; done) | (rw [if_neg (by omega)]; done) | rw [if_neg (by omega)])], rfl⟩
  · refine J_tableIn (tgt := 99) (v := 4) (off := 98) X dX9_count_1 hsw (by decide) rfl (by decide) ?_
    refine J_aload_n (q := 100) X dX9_count_99 rfl rfl ?_
    refine J_get (q := 103) X dX9_count_100 fX9_32 hFk (by omega) rfl rfl ?_
    refine J_callP (q := 106) (jrV X mX9_267 dX9_count_103 (c_X3_closingSigns hR hC (by omega) (by omega)) hR (by omega) rfl rfl rfl rfl (Nat.le_of_ble_eq_true rfl) (by decide)) rfl ?_
    refine J_iret X R dX9_count_106 ?_
    exact ⟨by rw [show qCount s w = smI (fun j => bI (clo (s.f j % 128))) s.n by unfold qCount; repeat (first | (rw [if_pos (by omega)]; done) | (rw [if_neg (by omega)]; done) | rw [if_neg (by omega)])], rfl⟩
