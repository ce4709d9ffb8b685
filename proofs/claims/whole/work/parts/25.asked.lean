set_option maxRecDepth 100000 in
set_option maxHeartbeats 4000000 in
theorem c_X1_isBare {l : Launch} {Γ : JG} {ad : Nat → Nat} {E : Nat → va_E} {n : Int} {f pa : Int → Int} {i : Int}  (hB : E 9 = .inr (1, [.ref (ad 10), .ref (ad 12), .ref (ad 13), .ref (ad 14), .ref (ad 15), .ref (ad 16), .ref (ad 17), .ref (ad 18)])) (hR : E 10 = .inr (3, [.ref (ad 11), .int (jI n)])) (hC : E 11 = aI Γ 60 f) (hP : E 12 = aI Γ 60 pa) (hv : VR f n) (hpa : ∀ j, 0 ≤ j → j < n → pa j = prt 3 f n j) (hij : 0 ≤ i ∧ i < n) : JM l Γ yX1_isBare cX1_isBare 2 (some .boolean) 2 40 0 0 ad 95 E [.ref (ad 9), .int (jI i)] (pP (bI (bre f n i)) E) := by
  refine JM_intro (own := RX1) [some (.ref (ad 9)), some (.int (jI i))] rfl rfl rfl (Nat.le_of_ble_eq_true rfl) ?_
  intro Ω X R hin
  have hpi := hpa i hij.1 hij.2
  have hpb := prt_bd (kd := 3) (f := f) (n := n) hv.1.1 i
  obtain ⟨hn, hvr⟩ := id hv
  refine J_aload_n (q := 1) X dX1_isBare_0 rfl rfl ?_
  refine J_get (q := 4) X dX1_isBare_1 fX1_12 hB (by omega) rfl rfl ?_
  refine J_iload_n (q := 5) X dX1_isBare_4 rfl rfl ?_
  refine J_callP (q := 8) (jrV X mX1_55 dX1_isBare_5 (c_X3_byteAt hR hC (by omega) (by omega) (by omega)) hR (by omega) rfl rfl rfl rfl (Nat.le_of_ble_eq_true rfl) (by decide)) rfl ?_
  refine J_callP (q := 11) (jrS X mX1_69 dX1_isBare_8 (c_X5_isBracket (by omega)) rfl rfl (Nat.le_of_ble_eq_true rfl) (by decide)) rfl ?_
  refine J_if_eqB (q := 14) (tgt := 29) X dX1_isBare_11 (by decide) rfl (fun cq11 => ?_) (fun cq11 => ?_)
  · refine J_iconst (q := 30) X dX1_isBare_29 rfl ?_
    refine J_zret X R dX1_isBare_30 (nrw_z (by first | omega | exact bI_bd _)) ?_
    refine ⟨?_, rfl⟩
    first
      | (rw [bI_f (fun z => by have z1 := z.1; have z2 := z.2; omega)]; done)
      | (rw [bI_t ⟨by omega, by omega⟩]; done)
  · refine J_aload_n (q := 15) X dX1_isBare_14 rfl rfl ?_
    refine J_get (q := 18) X dX1_isBare_15 fX1_18 hB (by omega) rfl rfl ?_
    refine J_iload_n (q := 19) X dX1_isBare_18 rfl rfl ?_
    refine J_iald (q := 20) X dX1_isBare_19 hP (by omega) (by omega) (by decide) rfl ?_
    refine J_bipush (q := 22) X dX1_isBare_20 rfl (by decide) ?_
    refine J_icmp_ne (q := 25) (tgt := 29) X dX1_isBare_22 (by decide) rfl (by omega) (by omega) (fun cq22 => ?_) (fun cq22 => ?_)
    · refine J_iconst (q := 30) X dX1_isBare_29 rfl ?_
      refine J_zret X R dX1_isBare_30 (nrw_z (by first | omega | exact bI_bd _)) ?_
      refine ⟨?_, rfl⟩
      first
        | (rw [bI_f (fun z => by have z1 := z.1; have z2 := z.2; omega)]; done)
        | (rw [bI_t ⟨by omega, by omega⟩]; done)
    · refine J_iconst (q := 26) X dX1_isBare_25 rfl ?_
      refine J_goto (q := 30) X dX1_isBare_26 (by decide) ?_
      refine J_zret X R dX1_isBare_30 (nrw_z (by first | omega | exact bI_bd _)) ?_
      refine ⟨?_, rfl⟩
      first
        | (rw [bI_f (fun z => by have z1 := z.1; have z2 := z.2; omega)]; done)
        | (rw [bI_t ⟨by omega, by omega⟩]; done)

set_option maxRecDepth 100000 in
set_option maxHeartbeats 4000000 in
theorem c_X1_clashes {l : Launch} {Γ : JG} {ad : Nat → Nat} {E : Nat → va_E} {n : Int} {f pa : Int → Int} {i : Int}  (hB : E 9 = .inr (1, [.ref (ad 10), .ref (ad 12), .ref (ad 13), .ref (ad 14), .ref (ad 15), .ref (ad 16), .ref (ad 17), .ref (ad 18)])) (hR : E 10 = .inr (3, [.ref (ad 11), .int (jI n)])) (hC : E 11 = aI Γ 60 f) (hP : E 12 = aI Γ 60 pa) (hv : VR f n) (hpa : ∀ j, 0 ≤ j → j < n → pa j = prt 3 f n j) (hij : 0 ≤ i ∧ i < n) : JM l Γ yX1_clashes cX1_clashes 3 (some .boolean) 1 21 0 0 ad 95 E [.ref (ad 9), .int (jI i)] (pP (bI (cla f n i)) E) := by
  refine JM_intro (own := RX1) [some (.ref (ad 9)), some (.int (jI i)), none] rfl rfl rfl (Nat.le_of_ble_eq_true rfl) ?_
  intro Ω X R hin
  have hpi := hpa i hij.1 hij.2
  have hpb := prt_bd (kd := 3) (f := f) (n := n) hv.1.1 i
  obtain ⟨hn, hvr⟩ := id hv
  refine J_aload_n (q := 1) X dX1_clashes_0 rfl rfl ?_
  refine J_get (q := 4) X dX1_clashes_1 fX1_18 hB (by omega) rfl rfl ?_
  refine J_iload_n (q := 5) X dX1_clashes_4 rfl rfl ?_
  refine J_iald (q := 6) X dX1_clashes_5 hP (by omega) (by omega) (by decide) rfl ?_
  refine J_istore_n (q := 7) X dX1_clashes_6 (by decide) rfl rfl ?_
  refine J_iload_n (q := 8) X dX1_clashes_7 rfl rfl ?_
  refine J_if_lt (q := 11) (tgt := 40) X dX1_clashes_8 (by decide) rfl (by omega) (fun cq8 => ?_) (fun cq8 => ?_)
  · refine J_iconst (q := 41) X dX1_clashes_40 rfl ?_
    refine J_zret X R dX1_clashes_41 (nrw_z (by first | omega | exact bI_bd _)) ?_
    refine ⟨?_, rfl⟩
    first
      | (rw [bI_f (fun z => by have z1 := z.1; omega)]; done)
      | (rw [hpi] at cq33; rw [bI_f (fun z => z.2 cq33)]; done)
      | (rw [hpi] at cq33; rw [bI_t ⟨by omega, cq33⟩]; done)
  · refine J_aload_n (q := 12) X dX1_clashes_11 rfl rfl ?_
    refine J_get (q := 15) X dX1_clashes_12 fX1_12 hB (by omega) rfl rfl ?_
    refine J_iload_n (q := 16) X dX1_clashes_15 rfl rfl ?_
    refine J_callP (q := 19) (jrV X mX1_55 dX1_clashes_16 (c_X3_byteAt hR hC (by omega) (by omega) (by omega)) hR (by omega) rfl rfl rfl rfl (Nat.le_of_ble_eq_true rfl) (by decide)) rfl ?_
    refine J_callP (q := 22) (jrS X mX1_72 dX1_clashes_19 (c_X5_kindOf (by omega)) rfl rfl (Nat.le_of_ble_eq_true rfl) (by decide)) rfl ?_
    refine J_aload_n (q := 23) X dX1_clashes_22 rfl rfl ?_
    refine J_get (q := 26) X dX1_clashes_23 fX1_12 hB (by omega) rfl rfl ?_
    refine J_iload_n (q := 27) X dX1_clashes_26 rfl rfl ?_
    refine J_callP (q := 30) (jrV X mX1_55 dX1_clashes_27 (c_X3_byteAt hR hC (by omega) (by omega) (by omega)) hR (by omega) rfl rfl rfl rfl (Nat.le_of_ble_eq_true rfl) (by decide)) rfl ?_
    refine J_callP (q := 33) (jrS X mX1_72 dX1_clashes_30 (c_X5_kindOf (by omega)) rfl rfl (Nat.le_of_ble_eq_true rfl) (by decide)) rfl ?_
    refine J_icmp_eq (q := 36) (tgt := 40) X dX1_clashes_33 (by decide) rfl (by have := knd_bd (f i % 128); omega) (by have := knd_bd (f (pa i) % 128); omega) (fun cq33 => ?_) (fun cq33 => ?_)
    · refine J_iconst (q := 41) X dX1_clashes_40 rfl ?_
      refine J_zret X R dX1_clashes_41 (nrw_z (by first | omega | exact bI_bd _)) ?_
      refine ⟨?_, rfl⟩
      first
        | (rw [bI_f (fun z => by have z1 := z.1; omega)]; done)
        | (rw [hpi] at cq33; rw [bI_f (fun z => z.2 cq33)]; done)
        | (rw [hpi] at cq33; rw [bI_t ⟨by omega, cq33⟩]; done)
    · refine J_iconst (q := 37) X dX1_clashes_36 rfl ?_
      refine J_goto (q := 41) X dX1_clashes_37 (by decide) ?_
      refine J_zret X R dX1_clashes_41 (nrw_z (by first | omega | exact bI_bd _)) ?_
      refine ⟨?_, rfl⟩
      first
        | (rw [bI_f (fun z => by have z1 := z.1; omega)]; done)
        | (rw [hpi] at cq33; rw [bI_f (fun z => z.2 cq33)]; done)
        | (rw [hpi] at cq33; rw [bI_t ⟨by omega, cq33⟩]; done)

set_option maxRecDepth 100000 in
set_option maxHeartbeats 4000000 in
theorem c_X1_belongsTo {l : Launch} {Γ : JG} {ad : Nat → Nat} {E : Nat → va_E} {n : Int} {f pa sl hi : Int → Int} {i w : Int}  (hB : E 9 = .inr (1, [.ref (ad 10), .ref (ad 12), .ref (ad 13), .ref (ad 14), .ref (ad 15), .ref (ad 16), .ref (ad 17), .ref (ad 18)])) (hR : E 10 = .inr (3, [.ref (ad 11), .int (jI n)])) (hC : E 11 = aI Γ 60 f) (hP : E 12 = aI Γ 60 pa) (hS : E 16 = aI Γ 61 sl) (hZ : E 18 = aZ Γ 60 hi) (hv : VR f n) (hpa : ∀ j, 0 ≤ j → j < n → pa j = prt 3 f n j) (hsl : ∀ j, 0 ≤ j → j ≤ n → sl j = lin f j) (hhi : ∀ j, 0 ≤ j → j < n → hi j = bI (hid f n j)) (hij : 0 ≤ i ∧ i < n) (hw : -2147483648 ≤ w ∧ w < 2147483648) : JM l Γ yX1_belongsTo cX1_belongsTo 3 (some .boolean) 3 61 0 0 ad 95 E [.ref (ad 9), .int (jI i), .int (jI w)] (pP (bI (bel f n w i)) E) := by
  refine JM_intro (own := RX1) [some (.ref (ad 9)), some (.int (jI i)), some (.int (jI w))] rfl rfl rfl (Nat.le_of_ble_eq_true rfl) ?_
  intro Ω X R hin
  have hpi := hpa i hij.1 hij.2
  have hpb := prt_bd (kd := 3) (f := f) (n := n) hv.1.1 i
  obtain ⟨hfi, -⟩ := hv.2 i hij.1 hij.2
  have hhii := hhi i hij.1 hij.2
  obtain ⟨hn, hvr⟩ := id hv
  refine J_iload_n (q := 1) X dX1_belongsTo_0 rfl rfl ?_
  rcases (show (w < 2 ∨ 7 < w) ∨ w = 2 ∨ w = 3 ∨ w = 4 ∨ w = 5 ∨ w = 6 ∨ w = 7 by omega) with hsw | hsw | hsw | hsw | hsw | hsw | hsw
  · refine J_tableOut (tgt := 108) X dX1_belongsTo_1 (by omega) hsw (by decide) ?_
    refine J_iconst (q := 109) X dX1_belongsTo_108 rfl ?_
    refine J_zret X R dX1_belongsTo_109 (nrw_z (by first | omega | exact bI_bd _)) ?_
    refine ⟨?_, rfl⟩
    try rw [hhii]
    first
      | (rw [bI_f (show ¬ bel f n w i by rintro (z | z | z | z | z | z) <;> first | (exfalso; omega) | exact cq77 z.2.2)]; done)
      | (rw [bI_t (show bel f n w i from Or.inl ⟨hsw, by omega⟩)]; done)
      | (rw [bI_t (show bel f n w i from Or.inr (Or.inr (Or.inl ⟨hsw, by omega, cq77⟩)))]; done)
      | (rw [bI_iff (show bre f n i ↔ bel f n w i from ⟨fun z => Or.inr (Or.inl ⟨hsw, z⟩), fun z => by rcases z with z | z | z | z | z | z <;> first | exact z.2 | (exfalso; omega)⟩)]; done)
      | (rw [bI_iff (show fo f n i ↔ bel f n w i from ⟨fun z => Or.inr (Or.inr (Or.inr (Or.inl ⟨hsw, z⟩))), fun z => by rcases z with z | z | z | z | z | z <;> first | exact z.2 | (exfalso; omega)⟩)]; done)
      | (rw [bI_iff (show hid f n i ↔ bel f n w i from ⟨fun z => Or.inr (Or.inr (Or.inr (Or.inr (Or.inl ⟨hsw, z⟩)))), fun z => by rcases z with z | z | z | z | z | z <;> first | exact z.2 | (exfalso; omega)⟩)]; done)
      | (rw [bI_iff (show 128 ≤ f i ↔ bel f n w i from ⟨fun z => Or.inr (Or.inr (Or.inr (Or.inr (Or.inr ⟨hsw, z⟩)))), fun z => by rcases z with z | z | z | z | z | z <;> first | exact z.2 | (exfalso; omega)⟩)]; done)
  · refine J_tableIn (tgt := 40) (v := 2) (off := 39) X dX1_belongsTo_1 hsw (by decide) rfl (by decide) ?_
    refine J_aload_n (q := 41) X dX1_belongsTo_40 rfl rfl ?_
    refine J_get (q := 44) X dX1_belongsTo_41 fX1_18 hB (by omega) rfl rfl ?_
    refine J_iload_n (q := 45) X dX1_belongsTo_44 rfl rfl ?_
    refine J_iald (q := 46) X dX1_belongsTo_45 hP (by omega) (by omega) (by decide) rfl ?_
    refine J_iload_n (q := 47) X dX1_belongsTo_46 rfl rfl ?_
    refine J_icmp_le (q := 50) (tgt := 54) X dX1_belongsTo_47 (by decide) rfl (by omega) (by omega) (fun cq47 => ?_) (fun cq47 => ?_)
    · refine J_iconst (q := 55) X dX1_belongsTo_54 rfl ?_
      refine J_zret X R dX1_belongsTo_55 (nrw_z (by first | omega | exact bI_bd _)) ?_
      refine ⟨?_, rfl⟩
      try rw [hhii]
      first
        | (rw [bI_f (show ¬ bel f n w i by rintro (z | z | z | z | z | z) <;> first | (exfalso; omega) | exact cq77 z.2.2)]; done)
        | (rw [bI_t (show bel f n w i from Or.inl ⟨hsw, by omega⟩)]; done)
        | (rw [bI_t (show bel f n w i from Or.inr (Or.inr (Or.inl ⟨hsw, by omega, cq77⟩)))]; done)
        | (rw [bI_iff (show bre f n i ↔ bel f n w i from ⟨fun z => Or.inr (Or.inl ⟨hsw, z⟩), fun z => by rcases z with z | z | z | z | z | z <;> first | exact z.2 | (exfalso; omega)⟩)]; done)
        | (rw [bI_iff (show fo f n i ↔ bel f n w i from ⟨fun z => Or.inr (Or.inr (Or.inr (Or.inl ⟨hsw, z⟩))), fun z => by rcases z with z | z | z | z | z | z <;> first | exact z.2 | (exfalso; omega)⟩)]; done)
        | (rw [bI_iff (show hid f n i ↔ bel f n w i from ⟨fun z => Or.inr (Or.inr (Or.inr (Or.inr (Or.inl ⟨hsw, z⟩)))), fun z => by rcases z with z | z | z | z | z | z <;> first | exact z.2 | (exfalso; omega)⟩)]; done)
        | (rw [bI_iff (show 128 ≤ f i ↔ bel f n w i from ⟨fun z => Or.inr (Or.inr (Or.inr (Or.inr (Or.inr ⟨hsw, z⟩)))), fun z => by rcases z with z | z | z | z | z | z <;> first | exact z.2 | (exfalso; omega)⟩)]; done)
    · refine J_iconst (q := 51) X dX1_belongsTo_50 rfl ?_
      refine J_goto (q := 55) X dX1_belongsTo_51 (by decide) ?_
      refine J_zret X R dX1_belongsTo_55 (nrw_z (by first | omega | exact bI_bd _)) ?_
      refine ⟨?_, rfl⟩
      try rw [hhii]
      first
        | (rw [bI_f (show ¬ bel f n w i by rintro (z | z | z | z | z | z) <;> first | (exfalso; omega) | exact cq77 z.2.2)]; done)
        | (rw [bI_t (show bel f n w i from Or.inl ⟨hsw, by omega⟩)]; done)
        | (rw [bI_t (show bel f n w i from Or.inr (Or.inr (Or.inl ⟨hsw, by omega, cq77⟩)))]; done)
        | (rw [bI_iff (show bre f n i ↔ bel f n w i from ⟨fun z => Or.inr (Or.inl ⟨hsw, z⟩), fun z => by rcases z with z | z | z | z | z | z <;> first | exact z.2 | (exfalso; omega)⟩)]; done)
        | (rw [bI_iff (show fo f n i ↔ bel f n w i from ⟨fun z => Or.inr (Or.inr (Or.inr (Or.inl ⟨hsw, z⟩))), fun z => by rcases z with z | z | z | z | z | z <;> first | exact z.2 | (exfalso; omega)⟩)]; done)
        | (rw [bI_iff (show hid f n i ↔ bel f n w i from ⟨fun z => Or.inr (Or.inr (Or.inr (Or.inr (Or.inl ⟨hsw, z⟩)))), fun z => by rcases z with z | z | z | z | z | z <;> first | exact z.2 | (exfalso; omega)⟩)]; done)
        | (rw [bI_iff (show 128 ≤ f i ↔ bel f n w i from ⟨fun z => Or.inr (Or.inr (Or.inr (Or.inr (Or.inr ⟨hsw, z⟩)))), fun z => by rcases z with z | z | z | z | z | z <;> first | exact z.2 | (exfalso; omega)⟩)]; done)
  · refine J_tableIn (tgt := 56) (v := 3) (off := 55) X dX1_belongsTo_1 hsw (by decide) rfl (by decide) ?_
    refine J_aload_n (q := 57) X dX1_belongsTo_56 rfl rfl ?_
    refine J_iload_n (q := 58) X dX1_belongsTo_57 rfl rfl ?_
    refine J_callP (q := 61) (jrV X mX1_91 dX1_belongsTo_58 (c_X1_isBare hB hR hC hP hv hpa (by omega)) hB (by omega) rfl rfl rfl rfl (Nat.le_of_ble_eq_true rfl) (by decide)) rfl ?_
    refine J_zret X R dX1_belongsTo_61 (nrw_z (by first | omega | exact bI_bd _)) ?_
    refine ⟨?_, rfl⟩
    try rw [hhii]
    first
      | (rw [bI_f (show ¬ bel f n w i by rintro (z | z | z | z | z | z) <;> first | (exfalso; omega) | exact cq77 z.2.2)]; done)
      | (rw [bI_t (show bel f n w i from Or.inl ⟨hsw, by omega⟩)]; done)
      | (rw [bI_t (show bel f n w i from Or.inr (Or.inr (Or.inl ⟨hsw, by omega, cq77⟩)))]; done)
      | (rw [bI_iff (show bre f n i ↔ bel f n w i from ⟨fun z => Or.inr (Or.inl ⟨hsw, z⟩), fun z => by rcases z with z | z | z | z | z | z <;> first | exact z.2 | (exfalso; omega)⟩)]; done)
      | (rw [bI_iff (show fo f n i ↔ bel f n w i from ⟨fun z => Or.inr (Or.inr (Or.inr (Or.inl ⟨hsw, z⟩))), fun z => by rcases z with z | z | z | z | z | z <;> first | exact z.2 | (exfalso; omega)⟩)]; done)
      | (rw [bI_iff (show hid f n i ↔ bel f n w i from ⟨fun z => Or.inr (Or.inr (Or.inr (Or.inr (Or.inl ⟨hsw, z⟩)))), fun z => by rcases z with z | z | z | z | z | z <;> first | exact z.2 | (exfalso; omega)⟩)]; done)
      | (rw [bI_iff (show 128 ≤ f i ↔ bel f n w i from ⟨fun z => Or.inr (Or.inr (Or.inr (Or.inr (Or.inr ⟨hsw, z⟩)))), fun z => by rcases z with z | z | z | z | z | z <;> first | exact z.2 | (exfalso; omega)⟩)]; done)
  · refine J_tableIn (tgt := 62) (v := 4) (off := 61) X dX1_belongsTo_1 hsw (by decide) rfl (by decide) ?_
    refine J_aload_n (q := 63) X dX1_belongsTo_62 rfl rfl ?_
    refine J_get (q := 66) X dX1_belongsTo_63 fX1_18 hB (by omega) rfl rfl ?_
    refine J_iload_n (q := 67) X dX1_belongsTo_66 rfl rfl ?_
    refine J_iald (q := 68) X dX1_belongsTo_67 hP (by omega) (by omega) (by decide) rfl ?_
    refine J_iload_n (q := 69) X dX1_belongsTo_68 rfl rfl ?_
    refine J_icmp_le (q := 72) (tgt := 84) X dX1_belongsTo_69 (by decide) rfl (by omega) (by omega) (fun cq69 => ?_) (fun cq69 => ?_)
    · refine J_iconst (q := 85) X dX1_belongsTo_84 rfl ?_
      refine J_zret X R dX1_belongsTo_85 (nrw_z (by first | omega | exact bI_bd _)) ?_
      refine ⟨?_, rfl⟩
      try rw [hhii]
      first
        | (rw [bI_f (show ¬ bel f n w i by rintro (z | z | z | z | z | z) <;> first | (exfalso; omega) | exact cq77 z.2.2)]; done)
        | (rw [bI_t (show bel f n w i from Or.inl ⟨hsw, by omega⟩)]; done)
        | (rw [bI_t (show bel f n w i from Or.inr (Or.inr (Or.inl ⟨hsw, by omega, cq77⟩)))]; done)
        | (rw [bI_iff (show bre f n i ↔ bel f n w i from ⟨fun z => Or.inr (Or.inl ⟨hsw, z⟩), fun z => by rcases z with z | z | z | z | z | z <;> first | exact z.2 | (exfalso; omega)⟩)]; done)
        | (rw [bI_iff (show fo f n i ↔ bel f n w i from ⟨fun z => Or.inr (Or.inr (Or.inr (Or.inl ⟨hsw, z⟩))), fun z => by rcases z with z | z | z | z | z | z <;> first | exact z.2 | (exfalso; omega)⟩)]; done)
        | (rw [bI_iff (show hid f n i ↔ bel f n w i from ⟨fun z => Or.inr (Or.inr (Or.inr (Or.inr (Or.inl ⟨hsw, z⟩)))), fun z => by rcases z with z | z | z | z | z | z <;> first | exact z.2 | (exfalso; omega)⟩)]; done)
        | (rw [bI_iff (show 128 ≤ f i ↔ bel f n w i from ⟨fun z => Or.inr (Or.inr (Or.inr (Or.inr (Or.inr ⟨hsw, z⟩)))), fun z => by rcases z with z | z | z | z | z | z <;> first | exact z.2 | (exfalso; omega)⟩)]; done)
    · refine J_aload_n (q := 73) X dX1_belongsTo_72 rfl rfl ?_
      refine J_iload_n (q := 74) X dX1_belongsTo_73 rfl rfl ?_
      refine J_callP (q := 77) (jrV X mX1_94 dX1_belongsTo_74 (c_X1_clashes hB hR hC hP hv hpa (by omega)) hB (by omega) rfl rfl rfl rfl (Nat.le_of_ble_eq_true rfl) (by decide)) rfl ?_
      refine J_if_eqB (q := 80) (tgt := 84) X dX1_belongsTo_77 (by decide) rfl (fun cq77 => ?_) (fun cq77 => ?_)
      · refine J_iconst (q := 85) X dX1_belongsTo_84 rfl ?_
        refine J_zret X R dX1_belongsTo_85 (nrw_z (by first | omega | exact bI_bd _)) ?_
        refine ⟨?_, rfl⟩
        try rw [hhii]
        first
          | (rw [bI_f (show ¬ bel f n w i by rintro (z | z | z | z | z | z) <;> first | (exfalso; omega) | exact cq77 z.2.2)]; done)
          | (rw [bI_t (show bel f n w i from Or.inl ⟨hsw, by omega⟩)]; done)
          | (rw [bI_t (show bel f n w i from Or.inr (Or.inr (Or.inl ⟨hsw, by omega, cq77⟩)))]; done)
          | (rw [bI_iff (show bre f n i ↔ bel f n w i from ⟨fun z => Or.inr (Or.inl ⟨hsw, z⟩), fun z => by rcases z with z | z | z | z | z | z <;> first | exact z.2 | (exfalso; omega)⟩)]; done)
          | (rw [bI_iff (show fo f n i ↔ bel f n w i from ⟨fun z => Or.inr (Or.inr (Or.inr (Or.inl ⟨hsw, z⟩))), fun z => by rcases z with z | z | z | z | z | z <;> first | exact z.2 | (exfalso; omega)⟩)]; done)
          | (rw [bI_iff (show hid f n i ↔ bel f n w i from ⟨fun z => Or.inr (Or.inr (Or.inr (Or.inr (Or.inl ⟨hsw, z⟩)))), fun z => by rcases z with z | z | z | z | z | z <;> first | exact z.2 | (exfalso; omega)⟩)]; done)
          | (rw [bI_iff (show 128 ≤ f i ↔ bel f n w i from ⟨fun z => Or.inr (Or.inr (Or.inr (Or.inr (Or.inr ⟨hsw, z⟩)))), fun z => by rcases z with z | z | z | z | z | z <;> first | exact z.2 | (exfalso; omega)⟩)]; done)
      · refine J_iconst (q := 81) X dX1_belongsTo_80 rfl ?_
        refine J_goto (q := 85) X dX1_belongsTo_81 (by decide) ?_
        refine J_zret X R dX1_belongsTo_85 (nrw_z (by first | omega | exact bI_bd _)) ?_
        refine ⟨?_, rfl⟩
        try rw [hhii]
        first
          | (rw [bI_f (show ¬ bel f n w i by rintro (z | z | z | z | z | z) <;> first | (exfalso; omega) | exact cq77 z.2.2)]; done)
          | (rw [bI_t (show bel f n w i from Or.inl ⟨hsw, by omega⟩)]; done)
          | (rw [bI_t (show bel f n w i from Or.inr (Or.inr (Or.inl ⟨hsw, by omega, cq77⟩)))]; done)
          | (rw [bI_iff (show bre f n i ↔ bel f n w i from ⟨fun z => Or.inr (Or.inl ⟨hsw, z⟩), fun z => by rcases z with z | z | z | z | z | z <;> first | exact z.2 | (exfalso; omega)⟩)]; done)
          | (rw [bI_iff (show fo f n i ↔ bel f n w i from ⟨fun z => Or.inr (Or.inr (Or.inr (Or.inl ⟨hsw, z⟩))), fun z => by rcases z with z | z | z | z | z | z <;> first | exact z.2 | (exfalso; omega)⟩)]; done)
          | (rw [bI_iff (show hid f n i ↔ bel f n w i from ⟨fun z => Or.inr (Or.inr (Or.inr (Or.inr (Or.inl ⟨hsw, z⟩)))), fun z => by rcases z with z | z | z | z | z | z <;> first | exact z.2 | (exfalso; omega)⟩)]; done)
          | (rw [bI_iff (show 128 ≤ f i ↔ bel f n w i from ⟨fun z => Or.inr (Or.inr (Or.inr (Or.inr (Or.inr ⟨hsw, z⟩)))), fun z => by rcases z with z | z | z | z | z | z <;> first | exact z.2 | (exfalso; omega)⟩)]; done)
  · refine J_tableIn (tgt := 86) (v := 5) (off := 85) X dX1_belongsTo_1 hsw (by decide) rfl (by decide) ?_
    refine J_aload_n (q := 87) X dX1_belongsTo_86 rfl rfl ?_
    refine J_iload_n (q := 88) X dX1_belongsTo_87 rfl rfl ?_
    refine J_callP (q := 91) (jrV X mX1_82 dX1_belongsTo_88 (c_X1_isFolded hB hR hC hP hS hv hpa hsl (by omega)) hB (by omega) rfl rfl rfl rfl (Nat.le_of_ble_eq_true rfl) (by decide)) rfl ?_
    refine J_zret X R dX1_belongsTo_91 (nrw_z (by first | omega | exact bI_bd _)) ?_
    refine ⟨?_, rfl⟩
    try rw [hhii]
    first
      | (rw [bI_f (show ¬ bel f n w i by rintro (z | z | z | z | z | z) <;> first | (exfalso; omega) | exact cq77 z.2.2)]; done)
      | (rw [bI_t (show bel f n w i from Or.inl ⟨hsw, by omega⟩)]; done)
      | (rw [bI_t (show bel f n w i from Or.inr (Or.inr (Or.inl ⟨hsw, by omega, cq77⟩)))]; done)
      | (rw [bI_iff (show bre f n i ↔ bel f n w i from ⟨fun z => Or.inr (Or.inl ⟨hsw, z⟩), fun z => by rcases z with z | z | z | z | z | z <;> first | exact z.2 | (exfalso; omega)⟩)]; done)
      | (rw [bI_iff (show fo f n i ↔ bel f n w i from ⟨fun z => Or.inr (Or.inr (Or.inr (Or.inl ⟨hsw, z⟩))), fun z => by rcases z with z | z | z | z | z | z <;> first | exact z.2 | (exfalso; omega)⟩)]; done)
      | (rw [bI_iff (show hid f n i ↔ bel f n w i from ⟨fun z => Or.inr (Or.inr (Or.inr (Or.inr (Or.inl ⟨hsw, z⟩)))), fun z => by rcases z with z | z | z | z | z | z <;> first | exact z.2 | (exfalso; omega)⟩)]; done)
      | (rw [bI_iff (show 128 ≤ f i ↔ bel f n w i from ⟨fun z => Or.inr (Or.inr (Or.inr (Or.inr (Or.inr ⟨hsw, z⟩)))), fun z => by rcases z with z | z | z | z | z | z <;> first | exact z.2 | (exfalso; omega)⟩)]; done)
  · refine J_tableIn (tgt := 92) (v := 6) (off := 91) X dX1_belongsTo_1 hsw (by decide) rfl (by decide) ?_
    refine J_aload_n (q := 93) X dX1_belongsTo_92 rfl rfl ?_
    refine J_get (q := 96) X dX1_belongsTo_93 fX1_37 hB (by omega) rfl rfl ?_
    refine J_iload_n (q := 97) X dX1_belongsTo_96 rfl rfl ?_
    refine J_zald (q := 98) X dX1_belongsTo_97 hZ (by omega) (by omega) (by decide) rfl ?_
    refine J_zret X R dX1_belongsTo_98 (nrw_z (by rw [hhii]; exact bI_bd _)) ?_
    refine ⟨?_, rfl⟩
    try rw [hhii]
    first
      | (rw [bI_f (show ¬ bel f n w i by rintro (z | z | z | z | z | z) <;> first | (exfalso; omega) | exact cq77 z.2.2)]; done)
      | (rw [bI_t (show bel f n w i from Or.inl ⟨hsw, by omega⟩)]; done)
      | (rw [bI_t (show bel f n w i from Or.inr (Or.inr (Or.inl ⟨hsw, by omega, cq77⟩)))]; done)
      | (rw [bI_iff (show bre f n i ↔ bel f n w i from ⟨fun z => Or.inr (Or.inl ⟨hsw, z⟩), fun z => by rcases z with z | z | z | z | z | z <;> first | exact z.2 | (exfalso; omega)⟩)]; done)
      | (rw [bI_iff (show fo f n i ↔ bel f n w i from ⟨fun z => Or.inr (Or.inr (Or.inr (Or.inl ⟨hsw, z⟩))), fun z => by rcases z with z | z | z | z | z | z <;> first | exact z.2 | (exfalso; omega)⟩)]; done)
      | (rw [bI_iff (show hid f n i ↔ bel f n w i from ⟨fun z => Or.inr (Or.inr (Or.inr (Or.inr (Or.inl ⟨hsw, z⟩)))), fun z => by rcases z with z | z | z | z | z | z <;> first | exact z.2 | (exfalso; omega)⟩)]; done)
      | (rw [bI_iff (show 128 ≤ f i ↔ bel f n w i from ⟨fun z => Or.inr (Or.inr (Or.inr (Or.inr (Or.inr ⟨hsw, z⟩)))), fun z => by rcases z with z | z | z | z | z | z <;> first | exact z.2 | (exfalso; omega)⟩)]; done)
  · refine J_tableIn (tgt := 99) (v := 7) (off := 98) X dX1_belongsTo_1 hsw (by decide) rfl (by decide) ?_
    refine J_aload_n (q := 100) X dX1_belongsTo_99 rfl rfl ?_
    refine J_get (q := 103) X dX1_belongsTo_100 fX1_12 hB (by omega) rfl rfl ?_
    refine J_iload_n (q := 104) X dX1_belongsTo_103 rfl rfl ?_
    refine J_callP (q := 107) (jrV X mX1_85 dX1_belongsTo_104 (c_X3_markedAt hR hC (by omega) (by omega) (by omega) (by omega)) hR (by omega) rfl rfl rfl rfl (Nat.le_of_ble_eq_true rfl) (by decide)) rfl ?_
    refine J_zret X R dX1_belongsTo_107 (nrw_z (by first | omega | exact bI_bd _)) ?_
    refine ⟨?_, rfl⟩
    try rw [hhii]
    first
      | (rw [bI_f (show ¬ bel f n w i by rintro (z | z | z | z | z | z) <;> first | (exfalso; omega) | exact cq77 z.2.2)]; done)
      | (rw [bI_t (show bel f n w i from Or.inl ⟨hsw, by omega⟩)]; done)
      | (rw [bI_t (show bel f n w i from Or.inr (Or.inr (Or.inl ⟨hsw, by omega, cq77⟩)))]; done)
      | (rw [bI_iff (show bre f n i ↔ bel f n w i from ⟨fun z => Or.inr (Or.inl ⟨hsw, z⟩), fun z => by rcases z with z | z | z | z | z | z <;> first | exact z.2 | (exfalso; omega)⟩)]; done)
      | (rw [bI_iff (show fo f n i ↔ bel f n w i from ⟨fun z => Or.inr (Or.inr (Or.inr (Or.inl ⟨hsw, z⟩))), fun z => by rcases z with z | z | z | z | z | z <;> first | exact z.2 | (exfalso; omega)⟩)]; done)
      | (rw [bI_iff (show hid f n i ↔ bel f n w i from ⟨fun z => Or.inr (Or.inr (Or.inr (Or.inr (Or.inl ⟨hsw, z⟩)))), fun z => by rcases z with z | z | z | z | z | z <;> first | exact z.2 | (exfalso; omega)⟩)]; done)
      | (rw [bI_iff (show 128 ≤ f i ↔ bel f n w i from ⟨fun z => Or.inr (Or.inr (Or.inr (Or.inr (Or.inr ⟨hsw, z⟩)))), fun z => by rcases z with z | z | z | z | z | z <;> first | exact z.2 | (exfalso; omega)⟩)]; done)

set_option maxRecDepth 100000 in
set_option maxHeartbeats 4000000 in
theorem c_X1_tally {l : Launch} {Γ : JG} {ad : Nat → Nat} {E : Nat → va_E} {n : Int} {f pa sl hi : Int → Int} {w : Int}  (hB : E 9 = .inr (1, [.ref (ad 10), .ref (ad 12), .ref (ad 13), .ref (ad 14), .ref (ad 15), .ref (ad 16), .ref (ad 17), .ref (ad 18)])) (hR : E 10 = .inr (3, [.ref (ad 11), .int (jI n)])) (hC : E 11 = aI Γ 60 f) (hP : E 12 = aI Γ 60 pa) (hS : E 16 = aI Γ 61 sl) (hZ : E 18 = aZ Γ 60 hi) (hv : VR f n) (hpa : ∀ j, 0 ≤ j → j < n → pa j = prt 3 f n j) (hsl : ∀ j, 0 ≤ j → j ≤ n → sl j = lin f j) (hhi : ∀ j, 0 ≤ j → j < n → hi j = bI (hid f n j)) (hw : -2147483648 ≤ w ∧ w < 2147483648) : JM l Γ yX1_tally cX1_tally 4 (some .int) 4 83 0 0 ad 95 E [.ref (ad 9), .int (jI w)] (pP (smI (fun j => bI (bel f n w j)) n) E) := by
  refine JM_intro (own := RX1) [some (.ref (ad 9)), some (.int (jI w)), none, none] rfl rfl rfl (Nat.le_of_ble_eq_true rfl) ?_
  intro Ω X R hin
  obtain ⟨hn, hvr⟩ := id hv
  refine J_iconst (q := 1) X dX1_tally_0 rfl ?_
  refine J_istore_n (q := 2) X dX1_tally_1 (by decide) rfl rfl ?_
  refine J_iconst (q := 3) X dX1_tally_2 rfl ?_
  refine J_istore_n (q := 4) X dX1_tally_3 (by decide) rfl rfl ?_
  have lp4 : ∀ (m : Nat) (i : Int) (hij : 0 ≤ i ∧ i ≤ n) (hm : n - i + 1 ≤ (m : Int)), J l Γ Ω 4 ad 95 0 0 E 4 [some (.ref (ad 9)), some (.int (jI w)), some (.int (jI (smI (fun j => bI (bel f n w j)) i))), some (.int (jI i))] [] := by
    intro m
    induction m with
    | zero => intro i hij hm; exfalso; omega
    | succ m ih4 =>
      intro i hij hm
      refine J_iload_n (q := 5) X dX1_tally_4 rfl rfl ?_
      refine J_aload_n (q := 6) X dX1_tally_5 rfl rfl ?_
      refine J_get (q := 9) X dX1_tally_6 fX1_12 hB (by omega) rfl rfl ?_
      refine J_get (q := 12) X dX1_tally_9 fX1_41 hR (by omega) rfl rfl ?_
      refine J_icmp_ge (q := 15) (tgt := 33) X dX1_tally_12 (by decide) rfl (by omega) (by omega) (fun cq12 => ?_) (fun cq12 => ?_)
      · refine J_iload_n (q := 34) X dX1_tally_33 rfl rfl ?_
        refine J_iret X R dX1_tally_34 ?_
        exact ⟨by rw [show i = n by omega], rfl⟩
      · refine J_iload_n (q := 16) X dX1_tally_15 rfl rfl ?_
        refine J_aload_n (q := 17) X dX1_tally_16 rfl rfl ?_
        refine J_iload_n (q := 18) X dX1_tally_17 rfl rfl ?_
        refine J_iload_n (q := 19) X dX1_tally_18 rfl rfl ?_
        refine J_callP (q := 22) (jrV X mX1_88 dX1_tally_19 (c_X1_belongsTo hB hR hC hP hS hZ hv hpa hsl hhi (by omega) (by omega)) hB (by omega) rfl rfl rfl rfl (Nat.le_of_ble_eq_true rfl) (by decide)) rfl ?_
        refine J_callP (q := 25) (jrS X mX1_75 dX1_tally_22 (c_X9_oneIf (by first | omega | exact bI_bd _)) rfl rfl (Nat.le_of_ble_eq_true rfl) (by decide)) rfl ?_
        refine J_iadd (q := 26) X dX1_tally_25 rfl ?_
        refine J_istore_n (q := 27) X dX1_tally_26 (by decide) rfl rfl ?_
        refine J_iinc (q := 30) X dX1_tally_27 rfl (by decide) rfl rfl ?_
        refine J_goto (q := 4) X dX1_tally_30 (by decide) ?_
        rw [← smI_succ (fun j => bI (bel f n w j)) (by omega : (0:Int) ≤ i)]
        exact ih4 _ (by omega) (by omega)
  exact lp4 100 0 (by omega) (by omega)

set_option maxRecDepth 100000 in
set_option maxHeartbeats 4000000 in
theorem c_X1_greatestLevel {l : Launch} {Γ : JG} {ad : Nat → Nat} {E : Nat → va_E} {n : Int} {f le : Int → Int}  (hB : E 9 = .inr (1, [.ref (ad 10), .ref (ad 12), .ref (ad 13), .ref (ad 14), .ref (ad 15), .ref (ad 16), .ref (ad 17), .ref (ad 18)])) (hR : E 10 = .inr (3, [.ref (ad 11), .int (jI n)])) (hC : E 11 = aI Γ 60 f) (hV : E 17 = aI Γ 60 le) (hv : VR f n) (hle : ∀ j, 0 ≤ j → j < n → le j = lvl f n j) : JM l Γ yX1_greatestLevel cX1_greatestLevel 3 (some .int) 1 21 0 0 ad 95 E [.ref (ad 9)] (pP (mx (lvl f n) n.toNat) E) := by
  refine JM_intro (own := RX1) [some (.ref (ad 9)), none, none] rfl rfl rfl (Nat.le_of_ble_eq_true rfl) ?_
  intro Ω X R hin
  obtain ⟨hn, -⟩ := id hv
  have hlb : ∀ j : Int, 0 ≤ j → j < n → 0 ≤ lvl f n j ∧ lvl f n j ≤ 60 := fun j a b => by have := (cAB_bd (prt 3 f n) (fun _ => True) a).2; unfold lvl; omega
  obtain ⟨hn, hvr⟩ := id hv
  refine J_iconst (q := 1) X dX1_greatestLevel_0 rfl ?_
  refine J_istore_n (q := 2) X dX1_greatestLevel_1 (by decide) rfl rfl ?_
  refine J_iconst (q := 3) X dX1_greatestLevel_2 rfl ?_
  refine J_istore_n (q := 4) X dX1_greatestLevel_3 (by decide) rfl rfl ?_
  have lp4 : ∀ (m : Nat) (i : Int) (hij : 0 ≤ i ∧ i ≤ n) (hm : n - i + 1 ≤ (m : Int)), J l Γ Ω 3 ad 95 0 0 E 4 [some (.ref (ad 9)), some (.int (jI (mx (lvl f n) i.toNat))), some (.int (jI i))] [] := by
    intro m
    induction m with
    | zero => intro i hij hm; exfalso; omega
    | succ m ih4 =>
      intro i hij hm
      have hmb := mx_bd (g := lvl f n) (b := 60) (by omega) i.toNat (fun j a b => (hlb j a (by omega)).2)
      refine J_iload_n (q := 5) X dX1_greatestLevel_4 rfl rfl ?_
      refine J_aload_n (q := 6) X dX1_greatestLevel_5 rfl rfl ?_
      refine J_get (q := 9) X dX1_greatestLevel_6 fX1_12 hB (by omega) rfl rfl ?_
      refine J_get (q := 12) X dX1_greatestLevel_9 fX1_41 hR (by omega) rfl rfl ?_
      refine J_icmp_ge (q := 15) (tgt := 32) X dX1_greatestLevel_12 (by decide) rfl (by omega) (by omega) (fun cq12 => ?_) (fun cq12 => ?_)
      · refine J_iload_n (q := 33) X dX1_greatestLevel_32 rfl rfl ?_
        refine J_iret X R dX1_greatestLevel_33 ?_
        exact ⟨by rw [show i = n by omega], rfl⟩
      · refine J_iload_n (q := 16) X dX1_greatestLevel_15 rfl rfl ?_
        refine J_aload_n (q := 17) X dX1_greatestLevel_16 rfl rfl ?_
        refine J_get (q := 20) X dX1_greatestLevel_17 fX1_34 hB (by omega) rfl rfl ?_
        refine J_iload_n (q := 21) X dX1_greatestLevel_20 rfl rfl ?_
        refine J_iald (q := 22) X dX1_greatestLevel_21 hV (by omega) (by omega) (by decide) rfl ?_
        refine J_max (q := 25) X dX1_greatestLevel_22 mX1_97 wMath_max (by omega) (by rw [hle i hij.1 (by omega)]; have := hlb i hij.1 (by omega); omega) (by decide) (Nat.le_of_ble_eq_true rfl) (by decide) (by decide) rfl ?_
        refine J_istore_n (q := 26) X dX1_greatestLevel_25 (by decide) rfl rfl ?_
        refine J_iinc (q := 29) X dX1_greatestLevel_26 rfl (by decide) rfl rfl ?_
        refine J_goto (q := 4) X dX1_greatestLevel_29 (by decide) ?_
        rw [hle i hij.1 (by omega), ← mxI_succ (lvl f n) hij.1]
        exact ih4 _ (by omega) (by omega)
  exact lp4 100 0 (by omega) (by omega)

set_option maxRecDepth 100000 in
set_option maxHeartbeats 4000000 in
theorem c_X1_leastDepth {l : Launch} {Γ : JG} {ad : Nat → Nat} {E : Nat → va_E} {n : Int} {f de : Int → Int} {a b : Int}  (hB : E 9 = .inr (1, [.ref (ad 10), .ref (ad 12), .ref (ad 13), .ref (ad 14), .ref (ad 15), .ref (ad 16), .ref (ad 17), .ref (ad 18)])) (hR : E 10 = .inr (3, [.ref (ad 11), .int (jI n)])) (hC : E 11 = aI Γ 60 f) (hD : E 15 = aI Γ 61 de) (hv : VR f n) (hde : ∀ j, 0 ≤ j → j ≤ n → de j = dep f j) (hab : 0 ≤ a ∧ a ≤ b ∧ b ≤ n) : JM l Γ yX1_leastDepth cX1_leastDepth 5 (some .int) 1 21 0 0 ad 95 E [.ref (ad 9), .int (jI a), .int (jI b)] (pP (mn (dep f) a (b - a + 1).toNat) E) := by
  refine JM_intro (own := RX1) [some (.ref (ad 9)), some (.int (jI a)), some (.int (jI b)), none, none] rfl rfl rfl (Nat.le_of_ble_eq_true rfl) ?_
  intro Ω X R hin
  obtain ⟨hn, -⟩ := id hv
  have hdb : ∀ j : Int, 0 ≤ j → j ≤ n → -60 ≤ dep f j ∧ dep f j ≤ 60 := fun j a b => by have := dep_bd f a; omega
  obtain ⟨hn, hvr⟩ := id hv
  refine J_aload_n (q := 1) X dX1_leastDepth_0 rfl rfl ?_
  refine J_get (q := 4) X dX1_leastDepth_1 fX1_28 hB (by omega) rfl rfl ?_
  refine J_iload_n (q := 5) X dX1_leastDepth_4 rfl rfl ?_
  refine J_iald (q := 6) X dX1_leastDepth_5 hD (by omega) (by omega) (by decide) rfl ?_
  refine J_istore_n (q := 7) X dX1_leastDepth_6 (by decide) rfl rfl ?_
  refine J_iload_n (q := 8) X dX1_leastDepth_7 rfl rfl ?_
  refine J_istore (q := 10) X dX1_leastDepth_8 (by decide) rfl rfl ?_
  have lp10 : ∀ (m : Nat) (i : Int) (hij : a ≤ i ∧ i ≤ b + 1) (hm : b + 1 - i + 1 ≤ (m : Int)), J l Γ Ω 5 ad 95 0 0 E 10 [some (.ref (ad 9)), some (.int (jI a)), some (.int (jI b)), some (.int (jI (mn (dep f) a (i - a).toNat))), some (.int (jI i))] [] := by
    intro m
    induction m with
    | zero => intro i hij hm; exfalso; omega
    | succ m ih10 =>
      intro i hij hm
      have hmb := mn_bd (g := dep f) (i := a) (b := 60) (hdb a (by omega) (by omega)) (i - a).toNat (fun j c d => hdb j (by omega) (by omega))
      refine J_iload (q := 12) X dX1_leastDepth_10 rfl rfl ?_
      refine J_iload_n (q := 13) X dX1_leastDepth_12 rfl rfl ?_
      refine J_icmp_gt (q := 16) (tgt := 34) X dX1_leastDepth_13 (by decide) rfl (by omega) (by omega) (fun cq13 => ?_) (fun cq13 => ?_)
      · refine J_iload_n (q := 35) X dX1_leastDepth_34 rfl rfl ?_
        refine J_iret X R dX1_leastDepth_35 ?_
        exact ⟨by rw [show i - a = b - a + 1 by omega], rfl⟩
      · refine J_iload_n (q := 17) X dX1_leastDepth_16 rfl rfl ?_
        refine J_aload_n (q := 18) X dX1_leastDepth_17 rfl rfl ?_
        refine J_get (q := 21) X dX1_leastDepth_18 fX1_28 hB (by omega) rfl rfl ?_
        refine J_iload (q := 23) X dX1_leastDepth_21 rfl rfl ?_
        refine J_iald (q := 24) X dX1_leastDepth_23 hD (by omega) (by omega) (by decide) rfl ?_
        refine J_min (q := 27) X dX1_leastDepth_24 mX1_103 wMath_min (by omega) (by rw [hde i (by omega) (by omega)]; have := hdb i (by omega) (by omega); omega) (by decide) (Nat.le_of_ble_eq_true rfl) (by decide) (by decide) rfl ?_
        refine J_istore_n (q := 28) X dX1_leastDepth_27 (by decide) rfl rfl ?_
        refine J_iinc (q := 31) X dX1_leastDepth_28 rfl (by decide) rfl rfl ?_
        refine J_goto (q := 10) X dX1_leastDepth_31 (by decide) ?_
        rw [hde i (by omega) (by omega), ← mnI_succ (dep f) a hij.1]
        exact ih10 _ (by omega) (by omega)
  rw [hde a (by omega) (by omega), show dep f a = mn (dep f) a (a - a).toNat by rw [Int.sub_self]; rfl]
  exact lp10 100 _ (by omega) (by omega)

set_option maxRecDepth 100000 in
set_option maxHeartbeats 4000000 in
theorem c_X1_innermostAround {l : Launch} {Γ : JG} {ad : Nat → Nat} {E : Nat → va_E} {n : Int} {f pa al : Int → Int} {i kd : Int}  (hB : E 9 = .inr (1, [.ref (ad 10), .ref (ad 12), .ref (ad 13), .ref (ad 14), .ref (ad 15), .ref (ad 16), .ref (ad 17), .ref (ad 18)])) (hR : E 10 = .inr (3, [.ref (ad 11), .int (jI n)])) (hC : E 11 = aI Γ 60 f) (hP : E 12 = aI Γ 60 pa) (hA : E 13 = aI Γ 60 al) (hv : VR f n) (hpa : ∀ j, 0 ≤ j → j < n → pa j = prt 3 f n j) (hal : ∀ j, 0 ≤ j → j < n → al j = alF f n j) (hij : 0 ≤ i ∧ i < n) (hkd : 0 ≤ kd ∧ kd ≤ 3) : JM l Γ yX1_innermostAround cX1_innermostAround 5 (some .int) 3 61 0 0 ad 95 E [.ref (ad 9), .int (jI i), .int (jI kd)] (pP (arF f n i kd) E) := by
  refine JM_intro (own := RX1) [some (.ref (ad 9)), some (.int (jI i)), some (.int (jI kd)), none, none] rfl rfl rfl (Nat.le_of_ble_eq_true rfl) ?_
  intro Ω X R hin
  obtain ⟨hn, hvr⟩ := id hv
  refine J_iload_n (q := 1) X dX1_innermostAround_0 rfl rfl ?_
  refine J_iconst (q := 2) X dX1_innermostAround_1 rfl ?_
  refine J_icmp_ne (q := 5) (tgt := 12) X dX1_innermostAround_2 (by decide) rfl (by omega) (by omega) (fun cq2 => ?_) (fun cq2 => ?_)
  · refine J_aload_n (q := 13) X dX1_innermostAround_12 rfl rfl ?_
    refine J_get (q := 16) X dX1_innermostAround_13 fX1_22 hB (by omega) rfl rfl ?_
    refine J_astore_n (q := 17) X dX1_innermostAround_16 (by decide) rfl rfl ?_
    refine J_iload_n (q := 18) X dX1_innermostAround_17 rfl rfl ?_
    refine J_iconst (q := 19) X dX1_innermostAround_18 rfl ?_
    refine J_isub (q := 20) X dX1_innermostAround_19 rfl ?_
    refine J_istore (q := 22) X dX1_innermostAround_20 (by decide) rfl rfl ?_
    have lp22 : ∀ (m : Nat) (t : Int) (ht : -1 ≤ t ∧ t < i) (hd : dn (fun k => arP f n kd i k) (t + 1).toNat = arF f n i kd) (hm : t + 2 ≤ (m : Int)), J l Γ Ω 5 ad 95 0 0 E 22 [some (.ref (ad 9)), some (.int (jI i)), some (.int (jI kd)), some (.ref (ad 13)), some (.int (jI t))] [] := by
      intro m
      induction m with
      | zero => intro t ht hd hm; exfalso; omega
      | succ m ih22 =>
        intro t ht hd hm
        have hnx : 0 ≤ t → dn (fun k => arP f n kd i k) (t + 1).toNat = if arP f n kd i t then t else dn (fun k => arP f n kd i k) t.toNat := fun a => dnI_succ (fun k => arP f n kd i k) a
        refine J_iload (q := 24) X dX1_innermostAround_22 rfl rfl ?_
        refine J_if_lt (q := 27) (tgt := 60) X dX1_innermostAround_24 (by decide) rfl (by omega) (fun cq24 => ?_) (fun cq24 => ?_)
        · refine J_bipush (q := 62) X dX1_innermostAround_60 rfl (by decide) ?_
          refine J_iret X R dX1_innermostAround_62 ?_
          rw [show (t + 1).toNat = 0 by omega] at hd
          exact ⟨by rw [← hd]; rfl, rfl⟩
        · refine J_aload_n (q := 28) X dX1_innermostAround_27 rfl rfl ?_
          refine J_get (q := 31) X dX1_innermostAround_28 fX1_12 hB (by omega) rfl rfl ?_
          refine J_iload (q := 33) X dX1_innermostAround_31 rfl rfl ?_
          refine J_callP (q := 36) (jrV X mX1_55 dX1_innermostAround_33 (c_X3_byteAt hR hC (by omega) (by omega) (by omega)) hR (by omega) rfl rfl rfl rfl (Nat.le_of_ble_eq_true rfl) (by decide)) rfl ?_
          refine J_iload_n (q := 37) X dX1_innermostAround_36 rfl rfl ?_
          refine J_callP (q := 40) (jrS X mX1_59 dX1_innermostAround_37 (c_X1_isOf (by omega) (by omega)) rfl rfl (Nat.le_of_ble_eq_true rfl) (by decide)) rfl ?_
          refine J_if_eqB (q := 43) (tgt := 54) X dX1_innermostAround_40 (by decide) rfl (fun cq40 => ?_) (fun cq40 => ?_)
          · refine J_iinc (q := 57) X dX1_innermostAround_54 rfl (by decide) rfl rfl ?_
            refine J_goto (q := 22) X dX1_innermostAround_57 (by decide) ?_
            rw [hnx (by omega)] at hd
            first
              | (rw [if_neg (fun z => cq40 z.1)] at hd; exact ih22 _ (by omega) (by rw [show t + -1 + 1 = t by omega]; exact hd) (by omega))
              | (rw [if_neg (fun z => by have z2 := z.2; first | (rw [if_pos cq2, ← hpa t (by omega) (by omega)] at z2; omega) | (rw [if_neg cq2, ← hal t (by omega) (by omega)] at z2; omega))] at hd; exact ih22 _ (by omega) (by rw [show t + -1 + 1 = t by omega]; exact hd) (by omega))
          · refine J_aload_n (q := 44) X dX1_innermostAround_43 rfl rfl ?_
            refine J_iload (q := 46) X dX1_innermostAround_44 rfl rfl ?_
            refine J_iald (q := 47) X dX1_innermostAround_46 hA (by omega) (by omega) (by decide) rfl ?_
            refine J_iload_n (q := 48) X dX1_innermostAround_47 rfl rfl ?_
            refine J_icmp_le (q := 51) (tgt := 54) X dX1_innermostAround_48 (by decide) rfl (by have := prt_bd (kd := 3) (f := f) (n := n) hn.1 t; have := hpa t (by omega) (by omega); have := hal t (by omega) (by omega); have := prt_bd (kd := knd (f t % 128)) (f := f) (n := n) hn.1 t; unfold alF at *; split at * <;> omega) (by omega) (fun cq48 => ?_) (fun cq48 => ?_)
            · refine J_iinc (q := 57) X dX1_innermostAround_54 rfl (by decide) rfl rfl ?_
              refine J_goto (q := 22) X dX1_innermostAround_57 (by decide) ?_
              rw [hnx (by omega)] at hd
              first
                | (rw [if_neg (fun z => cq40 z.1)] at hd; exact ih22 _ (by omega) (by rw [show t + -1 + 1 = t by omega]; exact hd) (by omega))
                | (rw [if_neg (fun z => by have z2 := z.2; first | (rw [if_pos cq2, ← hpa t (by omega) (by omega)] at z2; omega) | (rw [if_neg cq2, ← hal t (by omega) (by omega)] at z2; omega))] at hd; exact ih22 _ (by omega) (by rw [show t + -1 + 1 = t by omega]; exact hd) (by omega))
            · refine J_iload (q := 53) X dX1_innermostAround_51 rfl rfl ?_
              refine J_iret X R dX1_innermostAround_53 ?_
              rw [hnx (by omega), if_pos ⟨cq40, by first | (rw [if_pos cq2, ← hpa t (by omega) (by omega)]; omega) | (rw [if_neg cq2, ← hal t (by omega) (by omega)]; omega)⟩] at hd
              exact ⟨by rw [← hd], rfl⟩
    exact lp22 100 (i - 1) (by omega) (by rw [show i - 1 + 1 = i by omega]; rfl) (by omega)
  · refine J_aload_n (q := 6) X dX1_innermostAround_5 rfl rfl ?_
    refine J_get (q := 9) X dX1_innermostAround_6 fX1_18 hB (by omega) rfl rfl ?_
    refine J_goto (q := 16) X dX1_innermostAround_9 (by decide) ?_
    refine J_astore_n (q := 17) X dX1_innermostAround_16 (by decide) rfl rfl ?_
    refine J_iload_n (q := 18) X dX1_innermostAround_17 rfl rfl ?_
    refine J_iconst (q := 19) X dX1_innermostAround_18 rfl ?_
    refine J_isub (q := 20) X dX1_innermostAround_19 rfl ?_
    refine J_istore (q := 22) X dX1_innermostAround_20 (by decide) rfl rfl ?_
    have lp22 : ∀ (m : Nat) (t : Int) (ht : -1 ≤ t ∧ t < i) (hd : dn (fun k => arP f n kd i k) (t + 1).toNat = arF f n i kd) (hm : t + 2 ≤ (m : Int)), J l Γ Ω 5 ad 95 0 0 E 22 [some (.ref (ad 9)), some (.int (jI i)), some (.int (jI kd)), some (.ref (ad 12)), some (.int (jI t))] [] := by
      intro m
      induction m with
      | zero => intro t ht hd hm; exfalso; omega
      | succ m ih22 =>
        intro t ht hd hm
        have hnx : 0 ≤ t → dn (fun k => arP f n kd i k) (t + 1).toNat = if arP f n kd i t then t else dn (fun k => arP f n kd i k) t.toNat := fun a => dnI_succ (fun k => arP f n kd i k) a
        refine J_iload (q := 24) X dX1_innermostAround_22 rfl rfl ?_
        refine J_if_lt (q := 27) (tgt := 60) X dX1_innermostAround_24 (by decide) rfl (by omega) (fun cq24 => ?_) (fun cq24 => ?_)
        · refine J_bipush (q := 62) X dX1_innermostAround_60 rfl (by decide) ?_
          refine J_iret X R dX1_innermostAround_62 ?_
          rw [show (t + 1).toNat = 0 by omega] at hd
          exact ⟨by rw [← hd]; rfl, rfl⟩
        · refine J_aload_n (q := 28) X dX1_innermostAround_27 rfl rfl ?_
          refine J_get (q := 31) X dX1_innermostAround_28 fX1_12 hB (by omega) rfl rfl ?_
          refine J_iload (q := 33) X dX1_innermostAround_31 rfl rfl ?_
          refine J_callP (q := 36) (jrV X mX1_55 dX1_innermostAround_33 (c_X3_byteAt hR hC (by omega) (by omega) (by omega)) hR (by omega) rfl rfl rfl rfl (Nat.le_of_ble_eq_true rfl) (by decide)) rfl ?_
          refine J_iload_n (q := 37) X dX1_innermostAround_36 rfl rfl ?_
          refine J_callP (q := 40) (jrS X mX1_59 dX1_innermostAround_37 (c_X1_isOf (by omega) (by omega)) rfl rfl (Nat.le_of_ble_eq_true rfl) (by decide)) rfl ?_
          refine J_if_eqB (q := 43) (tgt := 54) X dX1_innermostAround_40 (by decide) rfl (fun cq40 => ?_) (fun cq40 => ?_)
          · refine J_iinc (q := 57) X dX1_innermostAround_54 rfl (by decide) rfl rfl ?_
            refine J_goto (q := 22) X dX1_innermostAround_57 (by decide) ?_
            rw [hnx (by omega)] at hd
            first
              | (rw [if_neg (fun z => cq40 z.1)] at hd; exact ih22 _ (by omega) (by rw [show t + -1 + 1 = t by omega]; exact hd) (by omega))
              | (rw [if_neg (fun z => by have z2 := z.2; first | (rw [if_pos cq2, ← hpa t (by omega) (by omega)] at z2; omega) | (rw [if_neg cq2, ← hal t (by omega) (by omega)] at z2; omega))] at hd; exact ih22 _ (by omega) (by rw [show t + -1 + 1 = t by omega]; exact hd) (by omega))
          · refine J_aload_n (q := 44) X dX1_innermostAround_43 rfl rfl ?_
            refine J_iload (q := 46) X dX1_innermostAround_44 rfl rfl ?_
            refine J_iald (q := 47) X dX1_innermostAround_46 hP (by omega) (by omega) (by decide) rfl ?_
            refine J_iload_n (q := 48) X dX1_innermostAround_47 rfl rfl ?_
            refine J_icmp_le (q := 51) (tgt := 54) X dX1_innermostAround_48 (by decide) rfl (by have := prt_bd (kd := 3) (f := f) (n := n) hn.1 t; have := hpa t (by omega) (by omega); have := hal t (by omega) (by omega); have := prt_bd (kd := knd (f t % 128)) (f := f) (n := n) hn.1 t; unfold alF at *; split at * <;> omega) (by omega) (fun cq48 => ?_) (fun cq48 => ?_)
            · refine J_iinc (q := 57) X dX1_innermostAround_54 rfl (by decide) rfl rfl ?_
              refine J_goto (q := 22) X dX1_innermostAround_57 (by decide) ?_
              rw [hnx (by omega)] at hd
              first
                | (rw [if_neg (fun z => cq40 z.1)] at hd; exact ih22 _ (by omega) (by rw [show t + -1 + 1 = t by omega]; exact hd) (by omega))
                | (rw [if_neg (fun z => by have z2 := z.2; first | (rw [if_pos cq2, ← hpa t (by omega) (by omega)] at z2; omega) | (rw [if_neg cq2, ← hal t (by omega) (by omega)] at z2; omega))] at hd; exact ih22 _ (by omega) (by rw [show t + -1 + 1 = t by omega]; exact hd) (by omega))
            · refine J_iload (q := 53) X dX1_innermostAround_51 rfl rfl ?_
              refine J_iret X R dX1_innermostAround_53 ?_
              rw [hnx (by omega), if_pos ⟨cq40, by first | (rw [if_pos cq2, ← hpa t (by omega) (by omega)]; omega) | (rw [if_neg cq2, ← hal t (by omega) (by omega)]; omega)⟩] at hd
              exact ⟨by rw [← hd], rfl⟩
    exact lp22 100 (i - 1) (by omega) (by rw [show i - 1 + 1 = i by omega]; rfl) (by omega)

set_option maxRecDepth 100000 in
set_option maxHeartbeats 4000000 in
theorem c_X1_wholeTill {l : Launch} {Γ : JG} {ad : Nat → Nat} {E : Nat → va_E} {n : Int} {f pa : Int → Int} {i : Int}  (hB : E 9 = .inr (1, [.ref (ad 10), .ref (ad 12), .ref (ad 13), .ref (ad 14), .ref (ad 15), .ref (ad 16), .ref (ad 17), .ref (ad 18)])) (hR : E 10 = .inr (3, [.ref (ad 11), .int (jI n)])) (hC : E 11 = aI Γ 60 f) (hP : E 12 = aI Γ 60 pa) (hv : VR f n) (hpa : ∀ j, 0 ≤ j → j < n → pa j = prt 3 f n j) (hij : 0 ≤ i ∧ i ≤ n) : JM l Γ yX1_wholeTill cX1_wholeTill 3 (some .int) 2 40 0 0 ad 95 E [.ref (ad 9), .int (jI i)] (pP (wt f n i) E) := by
  refine JM_intro (own := RX1) [some (.ref (ad 9)), some (.int (jI i)), none] rfl rfl rfl (Nat.le_of_ble_eq_true rfl) ?_
  intro Ω X R hin
  obtain ⟨hn, hvr⟩ := id hv
  refine J_iload_n (q := 1) X dX1_wholeTill_0 rfl rfl ?_
  refine J_istore_n (q := 2) X dX1_wholeTill_1 (by decide) rfl rfl ?_
  have lp2 : ∀ (m : Nat) (t : Int) (ht : i ≤ t ∧ t ≤ n) (hsc : sc (fun k => ¬ (brk (f k % 128) ∧ prt 3 f n k < i)) n t = wt f n i) (hm : n - t + 1 ≤ (m : Int)), J l Γ Ω 3 ad 95 0 0 E 2 [some (.ref (ad 9)), some (.int (jI i)), some (.int (jI t))] [] := by
    intro m
    induction m with
    | zero => intro t ht hsc hm; exfalso; omega
    | succ m ih2 =>
      intro t ht hsc hm
      refine J_iload_n (q := 3) X dX1_wholeTill_2 rfl rfl ?_
      refine J_aload_n (q := 4) X dX1_wholeTill_3 rfl rfl ?_
      refine J_get (q := 7) X dX1_wholeTill_4 fX1_12 hB (by omega) rfl rfl ?_
      refine J_get (q := 10) X dX1_wholeTill_7 fX1_41 hR (by omega) rfl rfl ?_
      refine J_icmp_ge (q := 13) (tgt := 45) X dX1_wholeTill_10 (by decide) rfl (by omega) (by omega) (fun cq10 => ?_) (fun cq10 => ?_)
      · refine J_aload_n (q := 46) X dX1_wholeTill_45 rfl rfl ?_
        refine J_get (q := 49) X dX1_wholeTill_46 fX1_12 hB (by omega) rfl rfl ?_
        refine J_get (q := 52) X dX1_wholeTill_49 fX1_41 hR (by omega) rfl rfl ?_
        refine J_iret X R dX1_wholeTill_52 ?_
        rw [sc_stop (P := (fun k => ¬ (brk (f k % 128) ∧ prt 3 f n k < i))) (by omega)] at hsc
        exact ⟨by rw [← hsc, show t = n by omega], rfl⟩
      · refine J_aload_n (q := 14) X dX1_wholeTill_13 rfl rfl ?_
        refine J_get (q := 17) X dX1_wholeTill_14 fX1_12 hB (by omega) rfl rfl ?_
        refine J_iload_n (q := 18) X dX1_wholeTill_17 rfl rfl ?_
        refine J_callP (q := 21) (jrV X mX1_55 dX1_wholeTill_18 (c_X3_byteAt hR hC (by omega) (by omega) (by omega)) hR (by omega) rfl rfl rfl rfl (Nat.le_of_ble_eq_true rfl) (by decide)) rfl ?_
        refine J_callP (q := 24) (jrS X mX1_69 dX1_wholeTill_21 (c_X5_isBracket (by omega)) rfl rfl (Nat.le_of_ble_eq_true rfl) (by decide)) rfl ?_
        refine J_if_eqB (q := 27) (tgt := 39) X dX1_wholeTill_24 (by decide) rfl (fun cq24 => ?_) (fun cq24 => ?_)
        · refine J_iinc (q := 42) X dX1_wholeTill_39 rfl (by decide) rfl rfl ?_
          refine J_goto (q := 2) X dX1_wholeTill_42 (by decide) ?_
          first
            | exact ih2 _ (by omega) (by rw [sc_go (P := (fun k => ¬ (brk (f k % 128) ∧ prt 3 f n k < i))) (by omega) (fun z => cq24 z.1)]; exact hsc) (by omega)
            | exact ih2 _ (by omega) (by rw [sc_go (P := (fun k => ¬ (brk (f k % 128) ∧ prt 3 f n k < i))) (by omega) (fun z => by have z2 := z.2; have := hpa t (by omega) (by omega); omega)]; exact hsc) (by omega)
        · refine J_aload_n (q := 28) X dX1_wholeTill_27 rfl rfl ?_
          refine J_get (q := 31) X dX1_wholeTill_28 fX1_18 hB (by omega) rfl rfl ?_
          refine J_iload_n (q := 32) X dX1_wholeTill_31 rfl rfl ?_
          refine J_iald (q := 33) X dX1_wholeTill_32 hP (by omega) (by omega) (by decide) rfl ?_
          refine J_iload_n (q := 34) X dX1_wholeTill_33 rfl rfl ?_
          refine J_icmp_ge (q := 37) (tgt := 39) X dX1_wholeTill_34 (by decide) rfl (by have := prt_bd (kd := 3) (f := f) (n := n) hn.1 t; have := hpa t (by omega) (by omega); omega) (by omega) (fun cq34 => ?_) (fun cq34 => ?_)
          · refine J_iinc (q := 42) X dX1_wholeTill_39 rfl (by decide) rfl rfl ?_
            refine J_goto (q := 2) X dX1_wholeTill_42 (by decide) ?_
            first
              | exact ih2 _ (by omega) (by rw [sc_go (P := (fun k => ¬ (brk (f k % 128) ∧ prt 3 f n k < i))) (by omega) (fun z => cq24 z.1)]; exact hsc) (by omega)
              | exact ih2 _ (by omega) (by rw [sc_go (P := (fun k => ¬ (brk (f k % 128) ∧ prt 3 f n k < i))) (by omega) (fun z => by have z2 := z.2; have := hpa t (by omega) (by omega); omega)]; exact hsc) (by omega)
          · refine J_iload_n (q := 38) X dX1_wholeTill_37 rfl rfl ?_
            refine J_iret X R dX1_wholeTill_38 ?_
            rw [sc_stop (P := (fun k => ¬ (brk (f k % 128) ∧ prt 3 f n k < i))) (fun z => z.2 ⟨cq24, by have := hpa t (by omega) (by omega); omega⟩)] at hsc
            exact ⟨by rw [hsc], rfl⟩
  exact lp2 100 _ (by omega) rfl (by omega)

set_option maxRecDepth 100000 in
set_option maxHeartbeats 4000000 in
theorem c_X1_longestFrom {l : Launch} {Γ : JG} {ad : Nat → Nat} {E : Nat → va_E} {n : Int} {f pa : Int → Int}  (hB : E 9 = .inr (1, [.ref (ad 10), .ref (ad 12), .ref (ad 13), .ref (ad 14), .ref (ad 15), .ref (ad 16), .ref (ad 17), .ref (ad 18)])) (hR : E 10 = .inr (3, [.ref (ad 11), .int (jI n)])) (hC : E 11 = aI Γ 60 f) (hP : E 12 = aI Γ 60 pa) (hv : VR f n) (hpa : ∀ j, 0 ≤ j → j < n → pa j = prt 3 f n j) : JM l Γ yX1_longestFrom cX1_longestFrom 5 (some .int) 3 62 0 0 ad 95 E [.ref (ad 9)] (pP (lgF f n n.toNat).1 E) := by
  refine JM_intro (own := RX1) [some (.ref (ad 9)), none, none, none, none] rfl rfl rfl (Nat.le_of_ble_eq_true rfl) ?_
  intro Ω X R hin
  obtain ⟨hn, hvr⟩ := id hv
  refine J_iconst (q := 1) X dX1_longestFrom_0 rfl ?_
  refine J_istore_n (q := 2) X dX1_longestFrom_1 (by decide) rfl rfl ?_
  refine J_iconst (q := 3) X dX1_longestFrom_2 rfl ?_
  refine J_istore_n (q := 4) X dX1_longestFrom_3 (by decide) rfl rfl ?_
  refine J_iconst (q := 5) X dX1_longestFrom_4 rfl ?_
  refine J_istore_n (q := 6) X dX1_longestFrom_5 (by decide) rfl rfl ?_
  have lp6 : ∀ (m : Nat) (t : Int) (ht : 0 ≤ t ∧ t ≤ n) (hm : n - t + 1 ≤ (m : Int)), J l Γ Ω 5 ad 95 0 0 E 6 [some (.ref (ad 9)), some (.int (jI ((lgF f n t.toNat).1))), some (.int (jI ((lgF f n t.toNat).2))), some (.int (jI t)), none] [] := by
    intro m
    induction m with
    | zero => intro t ht hm; exfalso; omega
    | succ m ih6 =>
      intro t ht hm
      have hlg := lg_bd (f := f) hn.1 t.toNat (by omega)
      have hwt := wt_bd (f := f) (n := n) (i := t) (by omega)
      have hnx := lgI_succ f n ht.1
      refine J_iload_n (q := 7) X dX1_longestFrom_6 rfl rfl ?_
      refine J_aload_n (q := 8) X dX1_longestFrom_7 rfl rfl ?_
      refine J_get (q := 11) X dX1_longestFrom_8 fX1_12 hB (by omega) rfl rfl ?_
      refine J_get (q := 14) X dX1_longestFrom_11 fX1_41 hR (by omega) rfl rfl ?_
      refine J_icmp_ge (q := 17) (tgt := 43) X dX1_longestFrom_14 (by decide) rfl (by omega) (by omega) (fun cq14 => ?_) (fun cq14 => ?_)
      · refine J_iload_n (q := 44) X dX1_longestFrom_43 rfl rfl ?_
        refine J_iret X R dX1_longestFrom_44 ?_
        exact ⟨by rw [show t = n by omega], rfl⟩
      · refine J_aload_n (q := 18) X dX1_longestFrom_17 rfl rfl ?_
        refine J_iload_n (q := 19) X dX1_longestFrom_18 rfl rfl ?_
        refine J_callP (q := 22) (jrV X mX1_106 dX1_longestFrom_19 (c_X1_wholeTill hB hR hC hP hv hpa (by omega)) hB (by omega) rfl rfl rfl rfl (Nat.le_of_ble_eq_true rfl) (by decide)) rfl ?_
        refine J_iload_n (q := 23) X dX1_longestFrom_22 rfl rfl ?_
        refine J_isub (q := 24) X dX1_longestFrom_23 rfl ?_
        refine J_istore (q := 26) X dX1_longestFrom_24 (by decide) rfl rfl ?_
        refine J_iload (q := 28) X dX1_longestFrom_26 rfl rfl ?_
        refine J_iload_n (q := 29) X dX1_longestFrom_28 rfl rfl ?_
        refine J_icmp_le (q := 32) (tgt := 37) X dX1_longestFrom_29 (by decide) rfl (by omega) (by omega) (fun cq29 => ?_) (fun cq29 => ?_)
        · refine J_iinc (q := 40) X dX1_longestFrom_37 rfl (by decide) rfl rfl ?_
          refine J_goto (q := 6) X dX1_longestFrom_40 (by decide) ?_
          refine J_kill 4 ?_
          have hx := ih6 (t + 1) (by omega) (by omega)
          rw [hnx] at hx
          first
            | (rw [if_neg (by omega)] at hx; exact hx)
            | (rw [if_pos (by omega)] at hx; exact hx)
        · refine J_iload_n (q := 33) X dX1_longestFrom_32 rfl rfl ?_
          refine J_istore_n (q := 34) X dX1_longestFrom_33 (by decide) rfl rfl ?_
          refine J_iload (q := 36) X dX1_longestFrom_34 rfl rfl ?_
          refine J_istore_n (q := 37) X dX1_longestFrom_36 (by decide) rfl rfl ?_
          refine J_iinc (q := 40) X dX1_longestFrom_37 rfl (by decide) rfl rfl ?_
          refine J_goto (q := 6) X dX1_longestFrom_40 (by decide) ?_
          refine J_kill 4 ?_
          have hx := ih6 (t + 1) (by omega) (by omega)
          rw [hnx] at hx
          first
            | (rw [if_neg (by omega)] at hx; exact hx)
            | (rw [if_pos (by omega)] at hx; exact hx)
  exact lp6 100 0 (by omega) (by omega)

set_option maxRecDepth 100000 in
set_option maxHeartbeats 4000000 in
theorem c_X1_nextBare {l : Launch} {Γ : JG} {ad : Nat → Nat} {E : Nat → va_E} {n : Int} {f pa : Int → Int} {i : Int}  (hB : E 9 = .inr (1, [.ref (ad 10), .ref (ad 12), .ref (ad 13), .ref (ad 14), .ref (ad 15), .ref (ad 16), .ref (ad 17), .ref (ad 18)])) (hR : E 10 = .inr (3, [.ref (ad 11), .int (jI n)])) (hC : E 11 = aI Γ 60 f) (hP : E 12 = aI Γ 60 pa) (hv : VR f n) (hpa : ∀ j, 0 ≤ j → j < n → pa j = prt 3 f n j) (hij : 0 ≤ i ∧ i ≤ n) : JM l Γ yX1_nextBare cX1_nextBare 3 (some .int) 3 61 0 0 ad 95 E [.ref (ad 9), .int (jI i)] (pP (nbF f n i) E) := by
  refine JM_intro (own := RX1) [some (.ref (ad 9)), some (.int (jI i)), none] rfl rfl rfl (Nat.le_of_ble_eq_true rfl) ?_
  intro Ω X R hin
  obtain ⟨hn, hvr⟩ := id hv
  refine J_iload_n (q := 1) X dX1_nextBare_0 rfl rfl ?_
  refine J_istore_n (q := 2) X dX1_nextBare_1 (by decide) rfl rfl ?_
  have lp2 : ∀ (m : Nat) (t : Int) (ht : i ≤ t ∧ t ≤ n) (hsc : sc (fun k => ¬ bre f n k) n t = sc (fun k => ¬ bre f n k) n i) (hm : n - t + 1 ≤ (m : Int)), J l Γ Ω 3 ad 95 0 0 E 2 [some (.ref (ad 9)), some (.int (jI i)), some (.int (jI t))] [] := by
    intro m
    induction m with
    | zero => intro t ht hsc hm; exfalso; omega
    | succ m ih2 =>
      intro t ht hsc hm
      refine J_iload_n (q := 3) X dX1_nextBare_2 rfl rfl ?_
      refine J_aload_n (q := 4) X dX1_nextBare_3 rfl rfl ?_
      refine J_get (q := 7) X dX1_nextBare_4 fX1_12 hB (by omega) rfl rfl ?_
      refine J_get (q := 10) X dX1_nextBare_7 fX1_41 hR (by omega) rfl rfl ?_
      refine J_icmp_ge (q := 13) (tgt := 29) X dX1_nextBare_10 (by decide) rfl (by omega) (by omega) (fun cq10 => ?_) (fun cq10 => ?_)
      · refine J_bipush (q := 31) X dX1_nextBare_29 rfl (by decide) ?_
        refine J_iret X R dX1_nextBare_31 ?_
        rw [sc_stop (P := (fun k => ¬ bre f n k)) (by omega)] at hsc
        exact ⟨by unfold nbF; rw [← hsc, if_neg (by omega)], rfl⟩
      · refine J_aload_n (q := 14) X dX1_nextBare_13 rfl rfl ?_
        refine J_iload_n (q := 15) X dX1_nextBare_14 rfl rfl ?_
        refine J_callP (q := 18) (jrV X mX1_91 dX1_nextBare_15 (c_X1_isBare hB hR hC hP hv hpa (by omega)) hB (by omega) rfl rfl rfl rfl (Nat.le_of_ble_eq_true rfl) (by decide)) rfl ?_
        refine J_if_eqB (q := 21) (tgt := 23) X dX1_nextBare_18 (by decide) rfl (fun cq18 => ?_) (fun cq18 => ?_)
        · refine J_iinc (q := 26) X dX1_nextBare_23 rfl (by decide) rfl rfl ?_
          refine J_goto (q := 2) X dX1_nextBare_26 (by decide) ?_
          exact ih2 _ (by omega) (by rw [sc_go (P := (fun k => ¬ bre f n k)) (by omega) cq18]; exact hsc) (by omega)
        · refine J_iload_n (q := 22) X dX1_nextBare_21 rfl rfl ?_
          refine J_iret X R dX1_nextBare_22 ?_
          rw [sc_stop (P := (fun k => ¬ bre f n k)) (fun z => z.2 cq18)] at hsc
          exact ⟨by unfold nbF; rw [← hsc, if_pos (by omega)], rfl⟩
  exact lp2 100 _ (by omega) rfl (by omega)

set_option maxRecDepth 100000 in
set_option maxHeartbeats 4000000 in
theorem c_X1_lastBare {l : Launch} {Γ : JG} {ad : Nat → Nat} {E : Nat → va_E} {n : Int} {f pa : Int → Int} {i : Int}  (hB : E 9 = .inr (1, [.ref (ad 10), .ref (ad 12), .ref (ad 13), .ref (ad 14), .ref (ad 15), .ref (ad 16), .ref (ad 17), .ref (ad 18)])) (hR : E 10 = .inr (3, [.ref (ad 11), .int (jI n)])) (hC : E 11 = aI Γ 60 f) (hP : E 12 = aI Γ 60 pa) (hv : VR f n) (hpa : ∀ j, 0 ≤ j → j < n → pa j = prt 3 f n j) (hij : 0 ≤ i ∧ i ≤ n) : JM l Γ yX1_lastBare cX1_lastBare 3 (some .int) 3 61 0 0 ad 95 E [.ref (ad 9), .int (jI i)] (pP (lbF f n i) E) := by
  refine JM_intro (own := RX1) [some (.ref (ad 9)), some (.int (jI i)), none] rfl rfl rfl (Nat.le_of_ble_eq_true rfl) ?_
  intro Ω X R hin
  obtain ⟨hn, hvr⟩ := id hv
  refine J_iload_n (q := 1) X dX1_lastBare_0 rfl rfl ?_
  refine J_iconst (q := 2) X dX1_lastBare_1 rfl ?_
  refine J_isub (q := 3) X dX1_lastBare_2 rfl ?_
  refine J_istore_n (q := 4) X dX1_lastBare_3 (by decide) rfl rfl ?_
  have lp4 : ∀ (m : Nat) (t : Int) (ht : -1 ≤ t ∧ t < i) (hd : dn (fun k => bre f n k) (t + 1).toNat = lbF f n i) (hm : t + 2 ≤ (m : Int)), J l Γ Ω 3 ad 95 0 0 E 4 [some (.ref (ad 9)), some (.int (jI i)), some (.int (jI t))] [] := by
    intro m
    induction m with
    | zero => intro t ht hd hm; exfalso; omega
    | succ m ih4 =>
      intro t ht hd hm
      refine J_iload_n (q := 5) X dX1_lastBare_4 rfl rfl ?_
      refine J_if_lt (q := 8) (tgt := 24) X dX1_lastBare_5 (by decide) rfl (by omega) (fun cq5 => ?_) (fun cq5 => ?_)
      · refine J_bipush (q := 26) X dX1_lastBare_24 rfl (by decide) ?_
        refine J_iret X R dX1_lastBare_26 ?_
        rw [show (t + 1).toNat = 0 by omega] at hd
        exact ⟨by rw [← hd]; rfl, rfl⟩
      · refine J_aload_n (q := 9) X dX1_lastBare_8 rfl rfl ?_
        refine J_iload_n (q := 10) X dX1_lastBare_9 rfl rfl ?_
        refine J_callP (q := 13) (jrV X mX1_91 dX1_lastBare_10 (c_X1_isBare hB hR hC hP hv hpa (by omega)) hB (by omega) rfl rfl rfl rfl (Nat.le_of_ble_eq_true rfl) (by decide)) rfl ?_
        refine J_if_eqB (q := 16) (tgt := 18) X dX1_lastBare_13 (by decide) rfl (fun cq13 => ?_) (fun cq13 => ?_)
        · refine J_iinc (q := 21) X dX1_lastBare_18 rfl (by decide) rfl rfl ?_
          refine J_goto (q := 4) X dX1_lastBare_21 (by decide) ?_
          rw [dnI_succ (fun k => bre f n k) (by omega : 0 ≤ t), if_neg cq13] at hd
          exact ih4 _ (by omega) (by rw [show t + -1 + 1 = t by omega]; exact hd) (by omega)
        · refine J_iload_n (q := 17) X dX1_lastBare_16 rfl rfl ?_
          refine J_iret X R dX1_lastBare_17 ?_
          rw [dnI_succ (fun k => bre f n k) (by omega : 0 ≤ t), if_pos cq13] at hd
          exact ⟨by rw [← hd], rfl⟩
  exact lp4 100 (i - 1) (by omega) (by rw [show i - 1 + 1 = i by omega]; rfl) (by omega)

set_option maxRecDepth 100000 in
set_option maxHeartbeats 4000000 in
theorem c_X1_seenAt {l : Launch} {Γ : JG} {ad : Nat → Nat} {E : Nat → va_E} {n : Int} {f hi : Int → Int} {k : Int}  (hB : E 9 = .inr (1, [.ref (ad 10), .ref (ad 12), .ref (ad 13), .ref (ad 14), .ref (ad 15), .ref (ad 16), .ref (ad 17), .ref (ad 18)])) (hR : E 10 = .inr (3, [.ref (ad 11), .int (jI n)])) (hC : E 11 = aI Γ 60 f) (hZ : E 18 = aZ Γ 60 hi) (hv : VR f n) (hhi : ∀ j, 0 ≤ j → j < n → hi j = bI (hid f n j)) (hk : -2147483648 ≤ k ∧ k < 2147483648) : JM l Γ yX1_seenAt cX1_seenAt 4 (some .int) 0 0 0 0 ad 95 E [.ref (ad 9), .int (jI k)] (pP (snF f n k) E) := by
  refine JM_intro (own := RX1) [some (.ref (ad 9)), some (.int (jI k)), none, none] rfl rfl rfl (Nat.le_of_ble_eq_true rfl) ?_
  intro Ω X R hin
  obtain ⟨hn, hvr⟩ := id hv
  refine J_iconst (q := 1) X dX1_seenAt_0 rfl ?_
  refine J_istore_n (q := 2) X dX1_seenAt_1 (by decide) rfl rfl ?_
  refine J_iconst (q := 3) X dX1_seenAt_2 rfl ?_
  refine J_istore_n (q := 4) X dX1_seenAt_3 (by decide) rfl rfl ?_
  have lp4 : ∀ (m : Nat) (t : Int) (ht : 0 ≤ t ∧ t ≤ n) (hsc : sc (fun i => ¬ snP f n k i) n t = sc (fun i => ¬ snP f n k i) n 0) (hm : n - t + 1 ≤ (m : Int)), J l Γ Ω 4 ad 95 0 0 E 4 [some (.ref (ad 9)), some (.int (jI k)), some (.int (jI (smI (fun j => bI (¬ hid f n j)) t))), some (.int (jI t))] [] := by
    intro m
    induction m with
    | zero => intro t ht hsc hm; exfalso; omega
    | succ m ih4 =>
      intro t ht hsc hm
      have hsb := smB_bd (g := (fun j => bI (¬ hid f n j))) (fun _ => bI_bd _) ht.1
      refine J_iload_n (q := 5) X dX1_seenAt_4 rfl rfl ?_
      refine J_aload_n (q := 6) X dX1_seenAt_5 rfl rfl ?_
      refine J_get (q := 9) X dX1_seenAt_6 fX1_12 hB (by omega) rfl rfl ?_
      refine J_get (q := 12) X dX1_seenAt_9 fX1_41 hR (by omega) rfl rfl ?_
      refine J_icmp_ge (q := 15) (tgt := 40) X dX1_seenAt_12 (by decide) rfl (by omega) (by omega) (fun cq12 => ?_) (fun cq12 => ?_)
      · refine J_bipush (q := 42) X dX1_seenAt_40 rfl (by decide) ?_
        refine J_iret X R dX1_seenAt_42 ?_
        rw [sc_stop (P := (fun i => ¬ snP f n k i)) (by omega)] at hsc
        exact ⟨by unfold snF; rw [← hsc, if_neg (by omega)], rfl⟩
      · refine J_aload_n (q := 16) X dX1_seenAt_15 rfl rfl ?_
        refine J_get (q := 19) X dX1_seenAt_16 fX1_37 hB (by omega) rfl rfl ?_
        refine J_iload_n (q := 20) X dX1_seenAt_19 rfl rfl ?_
        refine J_zald (q := 21) X dX1_seenAt_20 hZ (by omega) (by omega) (by decide) rfl ?_
        refine J_if_ne (q := 24) (tgt := 34) X dX1_seenAt_21 (by decide) rfl (by have := hhi t ht.1 (by omega); have := bI_bd (hid f n t); omega) (fun cq21 => ?_) (fun cq21 => ?_)
        · refine J_iinc (q := 37) X dX1_seenAt_34 rfl (by decide) rfl rfl ?_
          refine J_goto (q := 4) X dX1_seenAt_37 (by decide) ?_
          have hh := hhi t ht.1 (by omega)
          by_cases hq : hid f n t
          · rw [bI_t hq] at hh
            first
              | (exfalso; omega)
              | (have hx := ih4 (t + 1) (by omega) (by rw [sc_go (P := (fun i => ¬ snP f n k i)) (by omega) (fun z => z.1 hq)]; exact hsc) (by omega); rw [smI_succ _ ht.1, bI_f (fun z => z hq), Int.add_zero] at hx; exact hx)
          · rw [bI_f hq] at hh
            first
              | (exfalso; omega)
              | (have hx := ih4 (t + 1) (by omega) (by rw [sc_go (P := (fun i => ¬ snP f n k i)) (by omega) (fun z => cq26 z.2)]; exact hsc) (by omega); rw [smI_succ _ ht.1, bI_t hq] at hx; exact hx)
        · refine J_iload_n (q := 25) X dX1_seenAt_24 rfl rfl ?_
          refine J_iload_n (q := 26) X dX1_seenAt_25 rfl rfl ?_
          refine J_icmp_ne (q := 29) (tgt := 31) X dX1_seenAt_26 (by decide) rfl (by omega) (by omega) (fun cq26 => ?_) (fun cq26 => ?_)
          · refine J_iinc (q := 34) X dX1_seenAt_31 rfl (by decide) rfl rfl ?_
            refine J_iinc (q := 37) X dX1_seenAt_34 rfl (by decide) rfl rfl ?_
            refine J_goto (q := 4) X dX1_seenAt_37 (by decide) ?_
            have hh := hhi t ht.1 (by omega)
            by_cases hq : hid f n t
            · rw [bI_t hq] at hh
              first
                | (exfalso; omega)
                | (have hx := ih4 (t + 1) (by omega) (by rw [sc_go (P := (fun i => ¬ snP f n k i)) (by omega) (fun z => z.1 hq)]; exact hsc) (by omega); rw [smI_succ _ ht.1, bI_f (fun z => z hq), Int.add_zero] at hx; exact hx)
            · rw [bI_f hq] at hh
              first
                | (exfalso; omega)
                | (have hx := ih4 (t + 1) (by omega) (by rw [sc_go (P := (fun i => ¬ snP f n k i)) (by omega) (fun z => cq26 z.2)]; exact hsc) (by omega); rw [smI_succ _ ht.1, bI_t hq] at hx; exact hx)
          · refine J_iload_n (q := 30) X dX1_seenAt_29 rfl rfl ?_
            refine J_iret X R dX1_seenAt_30 ?_
            have hh := hhi t ht.1 (by omega)
            have hq : ¬ hid f n t := fun z => by rw [bI_t z] at hh; omega
            rw [sc_stop (P := (fun i => ¬ snP f n k i)) (fun z => z.2 ⟨hq, cq26⟩)] at hsc
            exact ⟨by unfold snF; rw [← hsc, if_pos (by omega)], rfl⟩
  exact lp4 100 0 (by omega) rfl (by omega)
