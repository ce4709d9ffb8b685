set_option maxRecDepth 100000 in
set_option maxHeartbeats 4000000 in
theorem c_X10_readLine {l : Launch} {Γ : JG} {ad : Nat → Nat} {E : Nat → va_E} {m0 m1 m3 m4 m5 m6 m7 m8 m9 m10 m11 m12 m13 m14 : Int} {tb g ma : Int → Int} {r : RS} {z0 mg ti : Int} (hM : E 78 = .inr (9, [.ref (ad 79), .ref (ad 80), .int (jI m0), .int (jI m1), .int (jI 0), .int (jI m3), .int (jI m4), .int (jI m5), .int (jI m6), .int (jI m7), .int (jI m8), .int (jI m9), .int (jI m10), .int (jI m11), .ref (ad 81), .ref (ad 82), .ref (ad 83), .ref (ad 84), .ref (ad 85), .ref (ad 86), .ref (ad 87), .ref (ad 88), .ref (ad 89), .int (jI m12), .int (jI m13), .ref (ad 90), .ref (ad 91), .ref (ad 92), .ref (ad 93), .ref (ad 94), .int (jI m14)])) (hS : E 79 = aI Γ 305 g) (hTp : E 80 = aI Γ 160 tb) (hEn : E 82 = aI Γ 4 enF) (hLe : E 83 = aI Γ 10 leF) (hMa : E 84 = aI Γ 60 ma) (htb : TB m0 tb) (htq : TQ r tb m0 z0 1 mg ti 0 m3 m4 m5 m6 m7 m8 m9 m10 g ma) (hk0 : m6 ≠ 0) (hma : MBm ma) : JM l Γ yX10_readLine cX10_readLine 3 none 6 130 0 0 ad 95 E [.ref (ad 78)] (pV (fun E' => ∃ (b ba t h k v y q ln tk mg' ti' : Int) (g' ma' : Int → Int), E' 78 = .inr (9, [.ref (ad 79), .ref (ad 80), .int (jI m0), .int (jI m1), .int (jI b), .int (jI ba), .int (jI t), .int (jI h), .int (jI k), .int (jI v), .int (jI ln), .int (jI tk), .int (jI y), .int (jI q), .ref (ad 81), .ref (ad 82), .ref (ad 83), .ref (ad 84), .ref (ad 85), .ref (ad 86), .ref (ad 87), .ref (ad 88), .ref (ad 89), .int (jI m12), .int (jI m13), .ref (ad 90), .ref (ad 91), .ref (ad 92), .ref (ad 93), .ref (ad 94), .int (jI m14)]) ∧ E' 79 = aI Γ 305 g' ∧ E' 84 = aI Γ 60 ma' ∧ (∀ j, j < 183 ∨ 244 ≤ j → g' j = g j) ∧ MBm ma' ∧ TQ r tb m0 (z0 + 1) 1 mg' ti' b ba t h k v ln tk y g' ma' ∧ ∀ j : Nat, j ≠ 78 ∧ j ≠ 79 ∧ j ≠ 84 → E' j = E j)) := by
  refine JM_intro (own := RX10) [some (.ref (ad 78)), none, none] rfl rfl rfl (Nat.le_of_ble_eq_true rfl) ?_
  intro Ω X R hin
  obtain ⟨E0, hE0⟩ : ∃ E0 : Nat → va_E, E0 = E := ⟨_, rfl⟩
  have hF : ∀ j : Nat, j ≠ 78 ∧ j ≠ 79 ∧ j ≠ 84 → E j = E0 j := fun _ _ => by rw [hE0]
  obtain ⟨htl, htv⟩ := id htb
  obtain ⟨hb1, hb2, hb3, hb4, hb5, hb6⟩ := TQ_b htq
  obtain ⟨⟨hvb, hthb, -⟩, -, -⟩ := id htq
  have hb2q := hb2 hk0
  have hnc := nmC_bd tb m5 m4 m6
  have hncb : nmC tb m5 m4 m6 = -4 ∨ (m6 = 1 ∧ 0 ≤ nmC tb m5 m4 m6 ∧ nmC tb m5 m4 m6 ≤ 2) := by
    rcases hnc with z | ⟨z0, z | z | z⟩
    · exact Or.inl z
    · exact Or.inr ⟨z0, by omega, by omega⟩
    · exact Or.inr ⟨z0, by omega, by omega⟩
    · exact Or.inr ⟨z0, by omega, by omega⟩
  refine J_aload_n (q := 1) X dX10_readLine_0 rfl rfl ?_
  refine J_callP (q := 4) (jrV X mX10_128 dX10_readLine_1 (c_X10_nameHere hM hTp hEn hLe htb (by omega) (by omega)) hM (by omega) rfl rfl rfl rfl (Nat.le_of_ble_eq_true rfl) (by decide)) rfl ?_
  refine J_istore_n (q := 5) X dX10_readLine_4 (by decide) rfl rfl ?_
  refine J_iload_n (q := 6) X dX10_readLine_5 rfl rfl ?_
  refine J_bipush (q := 8) X dX10_readLine_6 rfl (by decide) ?_
  refine J_icmp_ne (q := 11) (tgt := 17) X dX10_readLine_8 (by decide) rfl (by omega) (by omega) (fun cq8 => ?_) (fun cq8 => ?_)
  · have hnn : m6 = 1 ∧ 0 ≤ nmC tb m5 m4 m6 ∧ nmC tb m5 m4 m6 ≤ 2 := hncb.resolve_left cq8
    have hokn : okN tb m5 m4 := by
      rcases hnc with z | ⟨z0, z | z | z⟩
      · exact absurd z cq8
      · exact Or.inr (Or.inl z.2)
      · exact Or.inr (Or.inr z.2.1)
      · exact Or.inl z.2.1
    have hgo := TQ_go1 (ba' := m3) (h' := m5) (v' := m7) (y' := m10) htq hnn.1 (by omega) (by omega) (by unfold fT; rw [if_pos rfl, if_pos hokn])
    have e2 : mkT tb m5 m4 1 mg = bI (nmw tb m5 m4 0) := rfl
    have e3 : tiT m7 1 mg ti = 1 := rfl
    have e4 : maT m7 1 mg ma = ma := by unfold maT; rw [if_neg (fun z => by have z1 := z.1; omega)]
    have e5 : lnT 1 m8 = m8 := rfl
    have e6 : tkT 1 m9 = m9 + 1 := rfl
    rw [e2, e3, e4, e5, e6] at hgo
    have jn78 : ∀ (b ba t h k v y q tk mg1 ti1 : Int) (g1 ma1 : Int → Int) (E : Nat → va_E) (htq1 : TQ r tb m0 (z0 + 1) 3 mg1 ti1 b ba t h k v m8 tk y g1 ma1) (hma1 : MBm ma1) (hgf1 : (∀ j, j < 183 ∨ 244 ≤ j → g1 j = g j)) (hM : E 78 = .inr (9, [.ref (ad 79), .ref (ad 80), .int (jI m0), .int (jI m1), .int (jI b), .int (jI ba), .int (jI t), .int (jI h), .int (jI k), .int (jI v), .int (jI m8), .int (jI tk), .int (jI y), .int (jI q), .ref (ad 81), .ref (ad 82), .ref (ad 83), .ref (ad 84), .ref (ad 85), .ref (ad 86), .ref (ad 87), .ref (ad 88), .ref (ad 89), .int (jI m12), .int (jI m13), .ref (ad 90), .ref (ad 91), .ref (ad 92), .ref (ad 93), .ref (ad 94), .int (jI m14)])) (hTp : E 80 = aI Γ 160 tb) (hS : E 79 = aI Γ 305 g1) (hEn : E 82 = aI Γ 4 enF) (hLe : E 83 = aI Γ 10 leF) (hMa : E 84 = aI Γ 60 ma1) (hF : ∀ j : Nat, j ≠ 78 ∧ j ≠ 79 ∧ j ≠ 84 → E j = E0 j), J l Γ Ω 3 ad 95 0 0 E 78 [some (.ref (ad 78)), none, none] [] := by
      intro b ba t h k v y q tk mg1 ti1 g1 ma1 E htq1 hma1 hgf1 hM hTp hS hEn hLe hMa hF
      obtain ⟨⟨-, -, hbb1⟩, -, -⟩ := id htq1
      have hkb1 : b = 0 → 0 ≤ k ∧ k ≤ 4 := fun z => by subst z; exact (TQ_b htq1).2.2.2.1
      refine J_aload_n (q := 79) X dX10_readLine_78 rfl rfl ?_
      refine J_get (q := 82) X dX10_readLine_79 fX10_69 hM (by omega) rfl rfl ?_
      refine J_if_ne (q := 85) (tgt := 98) X dX10_readLine_82 (by decide) rfl (by omega) (fun cq82 => ?_) (fun cq82 => ?_)
      · refine J_aload_n (q := 99) X dX10_readLine_98 rfl rfl ?_
        refine J_get (q := 102) X dX10_readLine_99 fX10_69 hM (by omega) rfl rfl ?_
        refine J_if_ne (q := 105) (tgt := 120) X dX10_readLine_102 (by decide) rfl (by omega) (fun cq102 => ?_) (fun cq102 => ?_)
        · refine J_aload_n (q := 121) X dX10_readLine_120 rfl rfl ?_
          refine J_callV (q := 124) (jrV X mX10_122 dX10_readLine_121 (c_X10_readsOnT (r := r) (z0 := z0 + 1) (x := 1) (mg := mg1) (ti := ti1) (g := g1) (ma := ma1) hM hTp htb (by
    first
      | exact TQ_br (by omega) htq1
      | exact TQ_ne htq1 (by omega) (by omega)
      | (have hgo := TQ_go1 (ba' := ba) (h' := h) (v' := v) (y' := y) htq1 (by omega) (by omega) (by omega) rfl
         have e1 : xT tb h t 3 mg1 = 1 := rfl
         have e2 : mkT tb h t 3 mg1 = mg1 := rfl
         have e3 : tiT v 3 mg1 ti1 = ti1 := by unfold tiT; rw [if_neg (by decide), if_neg (fun z => by have z1 := z.1; omega)]
         have e4 : maT v 3 mg1 ma1 = ma1 := by unfold maT; rw [if_neg (fun z => by have z1 := z.1; omega)]
         have e5 : lnT 3 m8 = m8 + 1 := rfl
         have e6 : tkT 3 tk = 0 := rfl
         rw [e1, e2, e3, e4, e5, e6] at hgo
         exact PD_lo (by omega) hgo))) hM (by omega) rfl rfl rfl rfl (Nat.le_of_ble_eq_true rfl) (by decide)) rfl (fun Ew121 hpq121 => ?_)
          obtain ⟨bq121, baq121, sq121, hq121, kq121, vq121, yq121, qq121, kM, htq121, hbrq121, hsq121⟩ := hpq121
          replace hM := kM
          replace hS := (hsq121 79 (by omega)).trans hS
          replace hTp := (hsq121 80 (by omega)).trans hTp
          replace hEn := (hsq121 82 (by omega)).trans hEn
          replace hLe := (hsq121 83 (by omega)).trans hLe
          replace hMa := (hsq121 84 (by omega)).trans hMa
          replace hF : ∀ j : Nat, j ≠ 78 ∧ j ≠ 79 ∧ j ≠ 84 → Ew121 j = E0 j := fun j hj => (hsq121 j (by omega)).trans (hF j hj)
          refine J_vret X R dX10_readLine_124 ?_
          rw [hE0] at hF
          exact ⟨rfl, _, _, _, _, _, _, _, _, _, _, _, _, _, _, hM, hS, hMa, hgf1, hma1, htq121, hF⟩
        · exfalso; omega
      · refine J_aload_n (q := 86) X dX10_readLine_85 rfl rfl ?_
        refine J_get (q := 89) X dX10_readLine_86 fX10_86 hM (by omega) rfl rfl ?_
        refine J_iconst (q := 90) X dX10_readLine_89 rfl ?_
        refine J_icmp_eq (q := 93) (tgt := 98) X dX10_readLine_90 (by decide) rfl (by have := hkb1 (by omega); omega) (by omega) (fun cq90 => ?_) (fun cq90 => ?_)
        · refine J_aload_n (q := 99) X dX10_readLine_98 rfl rfl ?_
          refine J_get (q := 102) X dX10_readLine_99 fX10_69 hM (by omega) rfl rfl ?_
          refine J_if_ne (q := 105) (tgt := 120) X dX10_readLine_102 (by decide) rfl (by omega) (fun cq102 => ?_) (fun cq102 => ?_)
          · refine J_aload_n (q := 121) X dX10_readLine_120 rfl rfl ?_
            refine J_callV (q := 124) (jrV X mX10_122 dX10_readLine_121 (c_X10_readsOnT (r := r) (z0 := z0 + 1) (x := 1) (mg := mg1) (ti := ti1) (g := g1) (ma := ma1) hM hTp htb (by
    first
      | exact TQ_br (by omega) htq1
      | exact TQ_ne htq1 (by omega) (by omega)
      | (have hgo := TQ_go1 (ba' := ba) (h' := h) (v' := v) (y' := y) htq1 (by omega) (by omega) (by omega) rfl
         have e1 : xT tb h t 3 mg1 = 1 := rfl
         have e2 : mkT tb h t 3 mg1 = mg1 := rfl
         have e3 : tiT v 3 mg1 ti1 = ti1 := by unfold tiT; rw [if_neg (by decide), if_neg (fun z => by have z1 := z.1; omega)]
         have e4 : maT v 3 mg1 ma1 = ma1 := by unfold maT; rw [if_neg (fun z => by have z1 := z.1; omega)]
         have e5 : lnT 3 m8 = m8 + 1 := rfl
         have e6 : tkT 3 tk = 0 := rfl
         rw [e1, e2, e3, e4, e5, e6] at hgo
         exact PD_lo (by omega) hgo))) hM (by omega) rfl rfl rfl rfl (Nat.le_of_ble_eq_true rfl) (by decide)) rfl (fun Ew121 hpq121 => ?_)
            obtain ⟨bq121, baq121, sq121, hq121, kq121, vq121, yq121, qq121, kM, htq121, hbrq121, hsq121⟩ := hpq121
            replace hM := kM
            replace hS := (hsq121 79 (by omega)).trans hS
            replace hTp := (hsq121 80 (by omega)).trans hTp
            replace hEn := (hsq121 82 (by omega)).trans hEn
            replace hLe := (hsq121 83 (by omega)).trans hLe
            replace hMa := (hsq121 84 (by omega)).trans hMa
            replace hF : ∀ j : Nat, j ≠ 78 ∧ j ≠ 79 ∧ j ≠ 84 → Ew121 j = E0 j := fun j hj => (hsq121 j (by omega)).trans (hF j hj)
            refine J_vret X R dX10_readLine_124 ?_
            rw [hE0] at hF
            exact ⟨rfl, _, _, _, _, _, _, _, _, _, _, _, _, _, _, hM, hS, hMa, hgf1, hma1, htq121, hF⟩
          · obtain rfl : b = 0 := cq102
            refine J_aload_n (q := 106) X dX10_readLine_105 rfl rfl ?_
            refine J_dup (q := 107) X dX10_readLine_106 rfl rfl ?_
            refine J_get (q := 110) X dX10_readLine_107 fX10_139 hM (by omega) rfl rfl ?_
            refine J_iconst (q := 111) X dX10_readLine_110 rfl ?_
            refine J_iadd (q := 112) X dX10_readLine_111 rfl ?_
            refine J_put (q := 115) (ty := .int) X dX10_readLine_112 fX10_139 rfl (by decide +kernel) rfl rfl hM (by omega) (Nat.le_of_ble_eq_true rfl) rfl (fun Ew112 hkq112 hsq112 => ?_)
            replace hM : Ew112 78 = .inr (9, [.ref (ad 79), .ref (ad 80), .int (jI _), .int (jI _), .int (jI _), .int (jI _), .int (jI _), .int (jI _), .int (jI _), .int (jI _), .int (jI _), .int (jI _), .int (jI _), .int (jI _), .ref (ad 81), .ref (ad 82), .ref (ad 83), .ref (ad 84), .ref (ad 85), .ref (ad 86), .ref (ad 87), .ref (ad 88), .ref (ad 89), .int (jI _), .int (jI _), .ref (ad 90), .ref (ad 91), .ref (ad 92), .ref (ad 93), .ref (ad 94), .int (jI _)]) := hkq112
            replace hS := (hsq112 79 (by omega)).trans hS
            replace hTp := (hsq112 80 (by omega)).trans hTp
            replace hEn := (hsq112 82 (by omega)).trans hEn
            replace hLe := (hsq112 83 (by omega)).trans hLe
            replace hMa := (hsq112 84 (by omega)).trans hMa
            replace hF : ∀ j : Nat, j ≠ 78 ∧ j ≠ 79 ∧ j ≠ 84 → Ew112 j = E0 j := fun j hj => (hsq112 j (by omega)).trans (hF j hj)
            refine J_aload_n (q := 116) X dX10_readLine_115 rfl rfl ?_
            refine J_iconst (q := 117) X dX10_readLine_116 rfl ?_
            refine J_put (q := 120) (ty := .int) X dX10_readLine_117 fX10_119 rfl (by decide +kernel) rfl rfl hM (by omega) (Nat.le_of_ble_eq_true rfl) rfl (fun Ew117 hkq117 hsq117 => ?_)
            replace hM : Ew117 78 = .inr (9, [.ref (ad 79), .ref (ad 80), .int (jI _), .int (jI _), .int (jI _), .int (jI _), .int (jI _), .int (jI _), .int (jI _), .int (jI _), .int (jI _), .int (jI _), .int (jI _), .int (jI _), .ref (ad 81), .ref (ad 82), .ref (ad 83), .ref (ad 84), .ref (ad 85), .ref (ad 86), .ref (ad 87), .ref (ad 88), .ref (ad 89), .int (jI _), .int (jI _), .ref (ad 90), .ref (ad 91), .ref (ad 92), .ref (ad 93), .ref (ad 94), .int (jI _)]) := hkq117
            replace hS := (hsq117 79 (by omega)).trans hS
            replace hTp := (hsq117 80 (by omega)).trans hTp
            replace hEn := (hsq117 82 (by omega)).trans hEn
            replace hLe := (hsq117 83 (by omega)).trans hLe
            replace hMa := (hsq117 84 (by omega)).trans hMa
            replace hF : ∀ j : Nat, j ≠ 78 ∧ j ≠ 79 ∧ j ≠ 84 → Ew117 j = E0 j := fun j hj => (hsq117 j (by omega)).trans (hF j hj)
            refine J_aload_n (q := 121) X dX10_readLine_120 rfl rfl ?_
            refine J_callV (q := 124) (jrV X mX10_122 dX10_readLine_121 (c_X10_readsOnT (r := r) (z0 := z0 + 1) (x := 1) (mg := mg1) (ti := ti1) (g := g1) (ma := ma1) hM hTp htb (by
    first
      | exact TQ_br (by omega) htq1
      | exact TQ_ne htq1 (by omega) (by omega)
      | (have hgo := TQ_go1 (ba' := ba) (h' := h) (v' := v) (y' := y) htq1 (by omega) (by omega) (by omega) rfl
         have e1 : xT tb h t 3 mg1 = 1 := rfl
         have e2 : mkT tb h t 3 mg1 = mg1 := rfl
         have e3 : tiT v 3 mg1 ti1 = ti1 := by unfold tiT; rw [if_neg (by decide), if_neg (fun z => by have z1 := z.1; omega)]
         have e4 : maT v 3 mg1 ma1 = ma1 := by unfold maT; rw [if_neg (fun z => by have z1 := z.1; omega)]
         have e5 : lnT 3 m8 = m8 + 1 := rfl
         have e6 : tkT 3 tk = 0 := rfl
         rw [e1, e2, e3, e4, e5, e6] at hgo
         exact PD_lo (by omega) hgo))) hM (by omega) rfl rfl rfl rfl (Nat.le_of_ble_eq_true rfl) (by decide)) rfl (fun Ew121 hpq121 => ?_)
            obtain ⟨bq121, baq121, sq121, hq121, kq121, vq121, yq121, qq121, kM, htq121, hbrq121, hsq121⟩ := hpq121
            replace hM := kM
            replace hS := (hsq121 79 (by omega)).trans hS
            replace hTp := (hsq121 80 (by omega)).trans hTp
            replace hEn := (hsq121 82 (by omega)).trans hEn
            replace hLe := (hsq121 83 (by omega)).trans hLe
            replace hMa := (hsq121 84 (by omega)).trans hMa
            replace hF : ∀ j : Nat, j ≠ 78 ∧ j ≠ 79 ∧ j ≠ 84 → Ew121 j = E0 j := fun j hj => (hsq121 j (by omega)).trans (hF j hj)
            refine J_vret X R dX10_readLine_124 ?_
            rw [hE0] at hF
            exact ⟨rfl, _, _, _, _, _, _, _, _, _, _, _, _, _, _, hM, hS, hMa, hgf1, hma1, htq121, hF⟩
        · refine J_aload_n (q := 94) X dX10_readLine_93 rfl rfl ?_
          refine J_iconst (q := 95) X dX10_readLine_94 rfl ?_
          refine J_callV (q := 98) (jrV X mX10_105 dX10_readLine_95 (c_X10_fails hM (by omega)) hM (by omega) rfl rfl rfl rfl (Nat.le_of_ble_eq_true rfl) (by decide)) rfl (fun Ew95 hpq95 => ?_)
          obtain ⟨kM, hsq95⟩ := hpq95
          replace hM := kM
          have hnb : b = 0 := cq82
          subst hnb
          rw [if_pos rfl, if_pos rfl] at hM
          replace hS := (hsq95 79 (by omega)).trans hS
          replace hTp := (hsq95 80 (by omega)).trans hTp
          replace hEn := (hsq95 82 (by omega)).trans hEn
          replace hLe := (hsq95 83 (by omega)).trans hLe
          replace hMa := (hsq95 84 (by omega)).trans hMa
          replace hF : ∀ j : Nat, j ≠ 78 ∧ j ≠ 79 ∧ j ≠ 84 → Ew95 j = E0 j := fun j hj => (hsq95 j (by omega)).trans (hF j hj)
          refine J_aload_n (q := 99) X dX10_readLine_98 rfl rfl ?_
          refine J_get (q := 102) X dX10_readLine_99 fX10_69 hM (by omega) rfl rfl ?_
          refine J_if_ne (q := 105) (tgt := 120) X dX10_readLine_102 (by decide) rfl (by omega) (fun cq102 => ?_) (fun cq102 => ?_)
          · refine J_aload_n (q := 121) X dX10_readLine_120 rfl rfl ?_
            refine J_callV (q := 124) (jrV X mX10_122 dX10_readLine_121 (c_X10_readsOnT (r := r) (z0 := z0 + 1) (x := 1) (mg := mg1) (ti := ti1) (g := g1) (ma := ma1) hM hTp htb (by
    first
      | exact TQ_br (by omega) htq1
      | exact TQ_ne htq1 (by omega) (by omega)
      | (have hgo := TQ_go1 (ba' := ba) (h' := h) (v' := v) (y' := y) htq1 (by omega) (by omega) (by omega) rfl
         have e1 : xT tb h t 3 mg1 = 1 := rfl
         have e2 : mkT tb h t 3 mg1 = mg1 := rfl
         have e3 : tiT v 3 mg1 ti1 = ti1 := by unfold tiT; rw [if_neg (by decide), if_neg (fun z => by have z1 := z.1; omega)]
         have e4 : maT v 3 mg1 ma1 = ma1 := by unfold maT; rw [if_neg (fun z => by have z1 := z.1; omega)]
         have e5 : lnT 3 m8 = m8 + 1 := rfl
         have e6 : tkT 3 tk = 0 := rfl
         rw [e1, e2, e3, e4, e5, e6] at hgo
         exact PD_lo (by omega) hgo))) hM (by omega) rfl rfl rfl rfl (Nat.le_of_ble_eq_true rfl) (by decide)) rfl (fun Ew121 hpq121 => ?_)
            obtain ⟨bq121, baq121, sq121, hq121, kq121, vq121, yq121, qq121, kM, htq121, hbrq121, hsq121⟩ := hpq121
            replace hM := kM
            replace hS := (hsq121 79 (by omega)).trans hS
            replace hTp := (hsq121 80 (by omega)).trans hTp
            replace hEn := (hsq121 82 (by omega)).trans hEn
            replace hLe := (hsq121 83 (by omega)).trans hLe
            replace hMa := (hsq121 84 (by omega)).trans hMa
            replace hF : ∀ j : Nat, j ≠ 78 ∧ j ≠ 79 ∧ j ≠ 84 → Ew121 j = E0 j := fun j hj => (hsq121 j (by omega)).trans (hF j hj)
            refine J_vret X R dX10_readLine_124 ?_
            rw [hE0] at hF
            exact ⟨rfl, _, _, _, _, _, _, _, _, _, _, _, _, _, _, hM, hS, hMa, hgf1, hma1, htq121, hF⟩
          · exfalso; omega
    refine J_aload_n (q := 18) X dX10_readLine_17 rfl rfl ?_
    refine J_callV (q := 21) (jrV X mX10_125 dX10_readLine_18 (c_X10_takes hM hTp htb (by rw [if_pos (show (0 : Int) = 0 from rfl)]; exact hgo)) hM (by omega) rfl rfl rfl rfl (Nat.le_of_ble_eq_true rfl) (by decide)) rfl (fun Ew18 hpq18 => ?_)
    obtain ⟨bq18, baq18, sq18, hq18, kq18, vq18, yq18, qq18, kM, htq18, hbrq18, hsq18⟩ := hpq18
    replace hM := kM
    rw [if_pos (show (0 : Int) = 0 from rfl)] at hM htq18
    replace hS := (hsq18 79 (by omega)).trans hS
    replace hTp := (hsq18 80 (by omega)).trans hTp
    replace hEn := (hsq18 82 (by omega)).trans hEn
    replace hLe := (hsq18 83 (by omega)).trans hLe
    replace hMa := (hsq18 84 (by omega)).trans hMa
    replace hF : ∀ j : Nat, j ≠ 78 ∧ j ≠ 79 ∧ j ≠ 84 → Ew18 j = E0 j := fun j hj => (hsq18 j (by omega)).trans (hF j hj)
    refine J_iload_n (q := 22) X dX10_readLine_21 rfl rfl ?_
    refine J_if_ne (q := 25) (tgt := 33) X dX10_readLine_22 (by decide) rfl (by omega) (fun cq22 => ?_) (fun cq22 => ?_)
    · refine J_iload_n (q := 34) X dX10_readLine_33 rfl rfl ?_
      refine J_iconst (q := 35) X dX10_readLine_34 rfl ?_
      refine J_icmp_ne (q := 38) (tgt := 52) X dX10_readLine_35 (by decide) rfl (by omega) (by omega) (fun cq35 => ?_) (fun cq35 => ?_)
      · have hn2 : nmw tb m5 m4 0 ∧ ¬ nmw tb m5 m4 1 := by rcases hnc with z | ⟨z0, z | z | z⟩; (exfalso; omega); (exfalso; omega); (exfalso; omega); exact z.2
        have hx : xT tb m5 m4 1 mg = 2 := by unfold xT; rw [if_pos rfl, if_neg hn2.2]
        rw [hx, bI_t hn2.1] at htq18
        refine J_aload_n (q := 53) X dX10_readLine_52 rfl rfl ?_
        refine J_iconst (q := 54) X dX10_readLine_53 rfl ?_
        refine J_bipush (q := 56) X dX10_readLine_54 rfl (by decide) ?_
        refine J_callI (q := 59) (jrV X mX10_135 dX10_readLine_56 (c_X10_numberRead hM hTp htb htq18 (Or.inl ⟨rfl, rfl, rfl⟩)) hM (by omega) rfl rfl rfl rfl (Nat.le_of_ble_eq_true rfl) (by decide)) rfl (fun zq56 Ew56 hpq56 => ?_)
        obtain ⟨bq56, baq56, sq56, hq56, kq56, vq56, yq56, qq56, tq56, kM, hzb56, htq56, hsq56⟩ := hpq56
        replace hM := kM
        rw [if_pos (show (1 : Int) = 1 from rfl), if_pos (show (1 : Int) = 1 from rfl), if_pos (show (1 : Int) = 1 from rfl)] at htq56
        obtain ⟨⟨-, -, hbb56⟩, -, -⟩ := id htq56
        replace hS := (hsq56 79 (by omega)).trans hS
        replace hTp := (hsq56 80 (by omega)).trans hTp
        replace hEn := (hsq56 82 (by omega)).trans hEn
        replace hLe := (hsq56 83 (by omega)).trans hLe
        replace hMa := (hsq56 84 (by omega)).trans hMa
        replace hF : ∀ j : Nat, j ≠ 78 ∧ j ≠ 79 ∧ j ≠ 84 → Ew56 j = E0 j := fun j hj => (hsq56 j (by omega)).trans (hF j hj)
        refine J_istore_n (q := 60) X dX10_readLine_59 (by decide) rfl rfl ?_
        refine J_aload_n (q := 61) X dX10_readLine_60 rfl rfl ?_
        refine J_get (q := 64) X dX10_readLine_61 fX10_25 hM (by omega) rfl rfl ?_
        refine J_iload_n (q := 65) X dX10_readLine_64 rfl rfl ?_
        refine J_aload_n (q := 66) X dX10_readLine_65 rfl rfl ?_
        refine J_get (q := 69) X dX10_readLine_66 fX10_69 hM (by omega) rfl rfl ?_
        refine J_if_ne (q := 72) (tgt := 76) X dX10_readLine_69 (by decide) rfl (by omega) (fun cq69 => ?_) (fun cq69 => ?_)
        · refine J_iconst (q := 77) X dX10_readLine_76 rfl ?_
          refine J_iast (q := 78) X dX10_readLine_77 hMa (by omega) (by omega) (by decide) rfl (fun Ew77 hkq77 hsq77 => ?_)
          replace hMa := hkq77
          replace hM := (hsq77 78 (by omega)).trans hM
          replace hS := (hsq77 79 (by omega)).trans hS
          replace hTp := (hsq77 80 (by omega)).trans hTp
          replace hEn := (hsq77 82 (by omega)).trans hEn
          replace hLe := (hsq77 83 (by omega)).trans hLe
          replace hF : ∀ j : Nat, j ≠ 78 ∧ j ≠ 79 ∧ j ≠ 84 → Ew77 j = E0 j := fun j hj => (hsq77 j (by omega)).trans (hF j hj)
          refine J_kill 1 ?_
          refine J_kill 2 ?_
          first
            | exact jn78 _ _ _ _ _ _ _ _ _ _ _ _ _ _ htq27 hma hfrq27 hM hTp hS hEn hLe hMa hF
            | exact jn78 _ _ _ _ _ _ _ _ _ _ _ _ _ _ htq46 hma hfrq46 hM hTp hS hEn hLe hMa hF
            | exact jn78 _ _ _ _ _ _ _ _ _ _ _ _ _ _ htq56 (MB_iu hma (by omega)) (fun _ _ => rfl) hM hTp hS hEn hLe hMa hF
            | exact jn78 _ _ _ _ _ _ _ _ _ _ _ _ _ _ (TQ_sw (mg' := 1) (ti' := 1) cq69 htq56) (MB_iu hma (by omega)) (fun _ _ => rfl) hM hTp hS hEn hLe hMa hF
        · refine J_iconst (q := 73) X dX10_readLine_72 rfl ?_
          refine J_goto (q := 77) X dX10_readLine_73 (by decide) ?_
          refine J_iast (q := 78) X dX10_readLine_77 hMa (by omega) (by omega) (by decide) rfl (fun Ew77 hkq77 hsq77 => ?_)
          replace hMa := hkq77
          replace hM := (hsq77 78 (by omega)).trans hM
          replace hS := (hsq77 79 (by omega)).trans hS
          replace hTp := (hsq77 80 (by omega)).trans hTp
          replace hEn := (hsq77 82 (by omega)).trans hEn
          replace hLe := (hsq77 83 (by omega)).trans hLe
          replace hF : ∀ j : Nat, j ≠ 78 ∧ j ≠ 79 ∧ j ≠ 84 → Ew77 j = E0 j := fun j hj => (hsq77 j (by omega)).trans (hF j hj)
          refine J_kill 1 ?_
          refine J_kill 2 ?_
          first
            | exact jn78 _ _ _ _ _ _ _ _ _ _ _ _ _ _ htq27 hma hfrq27 hM hTp hS hEn hLe hMa hF
            | exact jn78 _ _ _ _ _ _ _ _ _ _ _ _ _ _ htq46 hma hfrq46 hM hTp hS hEn hLe hMa hF
            | exact jn78 _ _ _ _ _ _ _ _ _ _ _ _ _ _ htq56 (MB_iu hma (by omega)) (fun _ _ => rfl) hM hTp hS hEn hLe hMa hF
            | exact jn78 _ _ _ _ _ _ _ _ _ _ _ _ _ _ (TQ_sw (mg' := 1) (ti' := 1) cq69 htq56) (MB_iu hma (by omega)) (fun _ _ => rfl) hM hTp hS hEn hLe hMa hF
      · have hn2 : nmw tb m5 m4 2 ∧ ¬ nmw tb m5 m4 1 := by rcases hnc with z | ⟨z0, z | z | z⟩; (exfalso; omega); (exfalso; omega); exact z.2; (exfalso; omega)
        have hx : xT tb m5 m4 1 mg = 2 := by unfold xT; rw [if_pos rfl, if_neg hn2.2]
        rw [hx, bI_f (nmw_20 hn2.1)] at htq18
        refine J_aload_n (q := 39) X dX10_readLine_38 rfl rfl ?_
        refine J_aload_n (q := 40) X dX10_readLine_39 rfl rfl ?_
        refine J_iconst (q := 41) X dX10_readLine_40 rfl ?_
        refine J_bipush (q := 43) X dX10_readLine_41 rfl (by decide) ?_
        refine J_callI (q := 46) (jrV X mX10_135 dX10_readLine_43 (c_X10_numberRead hM hTp htb htq18 (Or.inr ⟨rfl, rfl, rfl⟩)) hM (by omega) rfl rfl rfl rfl (Nat.le_of_ble_eq_true rfl) (by decide)) rfl (fun zq43 Ew43 hpq43 => ?_)
        obtain ⟨bq43, baq43, sq43, hq43, kq43, vq43, yq43, qq43, tq43, kM, hzb43, htq43, hsq43⟩ := hpq43
        replace hM := kM
        rw [if_neg (show ¬ (0 : Int) = 1 by decide), if_neg (show ¬ (0 : Int) = 1 by decide), if_neg (show ¬ (0 : Int) = 1 by decide)] at htq43
        replace hS := (hsq43 79 (by omega)).trans hS
        replace hTp := (hsq43 80 (by omega)).trans hTp
        replace hEn := (hsq43 82 (by omega)).trans hEn
        replace hLe := (hsq43 83 (by omega)).trans hLe
        replace hMa := (hsq43 84 (by omega)).trans hMa
        replace hF : ∀ j : Nat, j ≠ 78 ∧ j ≠ 79 ∧ j ≠ 84 → Ew43 j = E0 j := fun j hj => (hsq43 j (by omega)).trans (hF j hj)
        refine J_callV (q := 49) (jrV X mX10_132 dX10_readLine_46 (c_X10_signsRead hM hS hTp htb htq43 hzb43) hM (by omega) rfl rfl rfl rfl (Nat.le_of_ble_eq_true rfl) (by decide)) rfl (fun Ew46 hpq46 => ?_)
        obtain ⟨bq46, baq46, sq46, hq46, kq46, vq46, yq46, qq46, tq46, gq46, kM, kS, hfrq46, htq46, hsq46⟩ := hpq46
        replace hM := kM
        replace hS := kS
        replace hTp := (hsq46 80 (by omega)).trans hTp
        replace hEn := (hsq46 82 (by omega)).trans hEn
        replace hLe := (hsq46 83 (by omega)).trans hLe
        replace hMa := (hsq46 84 (by omega)).trans hMa
        replace hF : ∀ j : Nat, j ≠ 78 ∧ j ≠ 79 ∧ j ≠ 84 → Ew46 j = E0 j := fun j hj => (hsq46 j (by omega)).trans (hF j hj)
        refine J_goto (q := 78) X dX10_readLine_49 (by decide) ?_
        refine J_kill 1 ?_
        first
          | exact jn78 _ _ _ _ _ _ _ _ _ _ _ _ _ _ htq27 hma hfrq27 hM hTp hS hEn hLe hMa hF
          | exact jn78 _ _ _ _ _ _ _ _ _ _ _ _ _ _ htq46 hma hfrq46 hM hTp hS hEn hLe hMa hF
          | exact jn78 _ _ _ _ _ _ _ _ _ _ _ _ _ _ htq56 (MB_iu hma (by omega)) (fun _ _ => rfl) hM hTp hS hEn hLe hMa hF
          | exact jn78 _ _ _ _ _ _ _ _ _ _ _ _ _ _ (TQ_sw (mg' := 1) (ti' := 1) cq69 htq56) (MB_iu hma (by omega)) (fun _ _ => rfl) hM hTp hS hEn hLe hMa hF
    · have hx : xT tb m5 m4 1 mg = 4 := by
        unfold xT
        rw [if_pos rfl, if_pos (by rcases hnc with z | ⟨z0, z | z | z⟩; (exfalso; omega); exact z.2; (exfalso; omega); (exfalso; omega))]
      rw [hx] at htq18
      refine J_aload_n (q := 26) X dX10_readLine_25 rfl rfl ?_
      refine J_iconst (q := 27) X dX10_readLine_26 rfl ?_
      refine J_callV (q := 30) (jrV X mX10_132 dX10_readLine_27 (c_X10_signsRead hM hS hTp htb htq18 (by omega)) hM (by omega) rfl rfl rfl rfl (Nat.le_of_ble_eq_true rfl) (by decide)) rfl (fun Ew27 hpq27 => ?_)
      obtain ⟨bq27, baq27, sq27, hq27, kq27, vq27, yq27, qq27, tq27, gq27, kM, kS, hfrq27, htq27, hsq27⟩ := hpq27
      replace hM := kM
      replace hS := kS
      replace hTp := (hsq27 80 (by omega)).trans hTp
      replace hEn := (hsq27 82 (by omega)).trans hEn
      replace hLe := (hsq27 83 (by omega)).trans hLe
      replace hMa := (hsq27 84 (by omega)).trans hMa
      replace hF : ∀ j : Nat, j ≠ 78 ∧ j ≠ 79 ∧ j ≠ 84 → Ew27 j = E0 j := fun j hj => (hsq27 j (by omega)).trans (hF j hj)
      refine J_goto (q := 78) X dX10_readLine_30 (by decide) ?_
      refine J_kill 1 ?_
      first
        | exact jn78 _ _ _ _ _ _ _ _ _ _ _ _ _ _ htq27 hma hfrq27 hM hTp hS hEn hLe hMa hF
        | exact jn78 _ _ _ _ _ _ _ _ _ _ _ _ _ _ htq46 hma hfrq46 hM hTp hS hEn hLe hMa hF
        | exact jn78 _ _ _ _ _ _ _ _ _ _ _ _ _ _ htq56 (MB_iu hma (by omega)) (fun _ _ => rfl) hM hTp hS hEn hLe hMa hF
        | exact jn78 _ _ _ _ _ _ _ _ _ _ _ _ _ _ (TQ_sw (mg' := 1) (ti' := 1) cq69 htq56) (MB_iu hma (by omega)) (fun _ _ => rfl) hM hTp hS hEn hLe hMa hF
  · refine J_aload_n (q := 12) X dX10_readLine_11 rfl rfl ?_
    refine J_iconst (q := 13) X dX10_readLine_12 rfl ?_
    refine J_callV (q := 16) (jrV X mX10_105 dX10_readLine_13 (c_X10_fails hM (by omega)) hM (by omega) rfl rfl rfl rfl (Nat.le_of_ble_eq_true rfl) (by decide)) rfl (fun Ew13 hpq13 => ?_)
    obtain ⟨kM, hsq13⟩ := hpq13
    replace hM := kM
    rw [if_pos rfl, if_pos rfl] at hM
    replace hS := (hsq13 79 (by omega)).trans hS
    replace hTp := (hsq13 80 (by omega)).trans hTp
    replace hEn := (hsq13 82 (by omega)).trans hEn
    replace hLe := (hsq13 83 (by omega)).trans hLe
    replace hMa := (hsq13 84 (by omega)).trans hMa
    replace hF : ∀ j : Nat, j ≠ 78 ∧ j ≠ 79 ∧ j ≠ 84 → Ew13 j = E0 j := fun j hj => (hsq13 j (by omega)).trans (hF j hj)
    refine J_vret X R dX10_readLine_16 ?_
    rw [hE0] at hF
    have hno : nmC tb m5 m4 m6 = -4 := cq8
    have hpd : PD r tb m0 z0 1 mg ti 2 m5 m4 m5 m7 m8 m9 m10 g ma := by
      by_cases e : m6 = 1
      · exact TQ_bad htq e (by omega) (by unfold fT; rw [if_pos rfl, if_neg (nmC_no e hno)]) (by omega)
      · exact TQ_ne htq e (by omega)
    exact ⟨rfl, 2, m5, m4, m5, m6, m7, m10, m11, m8, m9, mg, ti, g, ma, hM, hS, hMa, fun _ _ => rfl, hma, PD_TQ (by decide) hpd, hF⟩

set_option maxRecDepth 100000 in
set_option maxHeartbeats 4000000 in
theorem c_X10_isWhole {l : Launch} {Γ : JG} {ad : Nat → Nat} {E : Nat → va_E} {m0 m1 m2 m3 m4 m5 m6 m7 m8 m9 m10 m11 m12 m13 m14 : Int} {g ma : Int → Int} {n : Int} {f : Int → Int} (hM : E 78 = .inr (9, [.ref (ad 79), .ref (ad 80), .int (jI m0), .int (jI m1), .int (jI m2), .int (jI m3), .int (jI m4), .int (jI m5), .int (jI m6), .int (jI m7), .int (jI m8), .int (jI m9), .int (jI m10), .int (jI m11), .ref (ad 81), .ref (ad 82), .ref (ad 83), .ref (ad 84), .ref (ad 85), .ref (ad 86), .ref (ad 87), .ref (ad 88), .ref (ad 89), .int (jI m12), .int (jI m13), .ref (ad 90), .ref (ad 91), .ref (ad 92), .ref (ad 93), .ref (ad 94), .int (jI m14)])) (hS : E 79 = aI Γ 305 g) (hMa : E 84 = aI Γ 60 ma) (hrg : RG g n f) (hma : MBm ma) : JM l Γ yX10_isWhole cX10_isWhole 4 (some .boolean) 1 20 0 0 ad 95 E [.ref (ad 78)] (pI (fun z E' => z = bI (okM ma f n) ∧ ∃ g' : Int → Int, E' 79 = aI Γ 305 g' ∧ (∀ j, j < 183 ∨ 243 ≤ j → g' j = g j) ∧ (∀ j, 0 ≤ j → j < 60 → g' (183 + j) = g (183 + j) + (if ma j = 1 then 128 else 0)) ∧ ∀ j : Nat, j ≠ 79 → E' j = E j)) := by
  refine JM_intro (own := RX10) [some (.ref (ad 78)), none, none, none] rfl rfl rfl (Nat.le_of_ble_eq_true rfl) ?_
  intro Ω X R hin
  obtain ⟨E0, hE0⟩ : ∃ E0 : Nat → va_E, E0 = E := ⟨_, rfl⟩
  have hF : ∀ j : Nat, j ≠ 79 → E j = E0 j := fun _ _ => by rw [hE0]
  obtain ⟨hn0, hn2, hgf⟩ := id hrg
  refine J_iconst (q := 1) X dX10_isWhole_0 rfl ?_
  refine J_istore_n (q := 2) X dX10_isWhole_1 (by decide) rfl rfl ?_
  refine J_iconst (q := 3) X dX10_isWhole_2 rfl ?_
  refine J_istore_n (q := 4) X dX10_isWhole_3 (by decide) rfl rfl ?_
  have lp4 : ∀ (mm : Nat) (is i : Int) (gg : Int → Int) (E : Nat → va_E) (hi : 0 ≤ i ∧ i ≤ 60) (his : is = 0 ∨ is = 1) (hall : is = 1 ↔ ∀ j, 0 ≤ j → j < i → okP ma f n j) (hgg : ∀ j : Int, gg j = if 183 ≤ j ∧ j < 183 + i then g j + (if ma (j - 183) = 1 then 128 else 0) else g j) (hM : E 78 = .inr (9, [.ref (ad 79), .ref (ad 80), .int (jI m0), .int (jI m1), .int (jI m2), .int (jI m3), .int (jI m4), .int (jI m5), .int (jI m6), .int (jI m7), .int (jI m8), .int (jI m9), .int (jI m10), .int (jI m11), .ref (ad 81), .ref (ad 82), .ref (ad 83), .ref (ad 84), .ref (ad 85), .ref (ad 86), .ref (ad 87), .ref (ad 88), .ref (ad 89), .int (jI m12), .int (jI m13), .ref (ad 90), .ref (ad 91), .ref (ad 92), .ref (ad 93), .ref (ad 94), .int (jI m14)])) (hS : E 79 = aI Γ 305 gg) (hMa : E 84 = aI Γ 60 ma) (hF : ∀ j : Nat, j ≠ 79 → E j = E0 j) (hmm : 60 - i + 1 ≤ (mm : Int)), J l Γ Ω 4 ad 95 0 0 E 4 [some (.ref (ad 78)), some (.int (jI is)), some (.int (jI i)), none] [] := by
    intro mm
    induction mm with
    | zero => intro is i gg E hi his hall hgg hM hS hMa hF hmm; exfalso; omega
    | succ mm ih4 =>
      intro is i gg E hi his hall hgg hM hS hMa hF hmm
      have h243 : gg 243 = n := by rw [hgg, if_neg (by omega)]; exact hn2
      have hgi0 : gg (183 + i) = g (183 + i) := by rw [hgg, if_neg (by omega)]
      refine J_iload_n (q := 5) X dX10_isWhole_4 rfl rfl ?_
      refine J_bipush (q := 7) X dX10_isWhole_5 rfl (by decide) ?_
      refine J_icmp_ge (q := 10) (tgt := 103) X dX10_isWhole_7 (by decide) rfl (by omega) (by omega) (fun cq7 => ?_) (fun cq7 => ?_)
      · refine J_iload_n (q := 104) X dX10_isWhole_103 rfl rfl ?_
        refine J_zret X R dX10_isWhole_104 (nrw_z (by first | omega | exact bI_bd _)) ?_
        rw [hE0] at hF
        have ei : i = 60 := by omega
        subst ei
        refine ⟨_, rfl, ?_, gg, hS, fun j hj => by rw [hgg, if_neg (by omega)], fun j a b => by rw [hgg, if_pos (by omega), show 183 + j - 183 = j by omega], hF⟩
        rcases his with z | z
        · rw [z, bI_f (fun y => by have y2 := hall.2 (okM_all.1 y); omega)]
        · rw [z, bI_t (okM_all.2 (hall.1 z))]
      · have hmi := hma i (by omega) (by omega)
        have jn43 : ∀ (gd : Int) (hgb : gd = 0 ∨ gd = 1) (hgd : gd = 1 ↔ (i < n ∧ opn (f i % 128))), J l Γ Ω 4 ad 95 0 0 E 43 [some (.ref (ad 78)), some (.int (jI is)), some (.int (jI i)), none] [.int (jI gd)] := by
          intro gd hgb hgd
          refine J_istore_n (q := 44) X dX10_isWhole_43 (by decide) rfl rfl ?_
          have jn66 : ∀ (is2 : Int) (his2 : is2 = 0 ∨ is2 = 1) (hal2 : is2 = 1 ↔ (is = 1 ∧ okP ma f n i)), J l Γ Ω 4 ad 95 0 0 E 66 [some (.ref (ad 78)), some (.int (jI is)), some (.int (jI i)), some (.int (jI gd))] [.int (jI is2)] := by
            intro is2 his2 hal2
            refine J_istore_n (q := 67) X dX10_isWhole_66 (by decide) rfl rfl ?_
            refine J_aload_n (q := 68) X dX10_isWhole_67 rfl rfl ?_
            refine J_get (q := 71) X dX10_isWhole_68 fX10_7 hM (by omega) rfl rfl ?_
            refine J_sipush (q := 74) X dX10_isWhole_71 rfl (by decide) ?_
            refine J_iload_n (q := 75) X dX10_isWhole_74 rfl rfl ?_
            refine J_iadd (q := 76) X dX10_isWhole_75 rfl ?_
            refine J_dup2 (q := 77) X dX10_isWhole_76 rfl rfl rfl ?_
            refine J_iald (q := 78) X dX10_isWhole_77 hS (by omega) (by omega) (by decide) rfl ?_
            refine J_aload_n (q := 79) X dX10_isWhole_78 rfl rfl ?_
            refine J_get (q := 82) X dX10_isWhole_79 fX10_25 hM (by omega) rfl rfl ?_
            refine J_iload_n (q := 83) X dX10_isWhole_82 rfl rfl ?_
            refine J_iald (q := 84) X dX10_isWhole_83 hMa (by omega) (by omega) (by decide) rfl ?_
            refine J_iconst (q := 85) X dX10_isWhole_84 rfl ?_
            refine J_icmp_ne (q := 88) (tgt := 94) X dX10_isWhole_85 (by decide) rfl (by omega) (by omega) (fun cq85 => ?_) (fun cq85 => ?_)
            · refine J_iconst (q := 95) X dX10_isWhole_94 rfl ?_
              refine J_iadd (q := 96) X dX10_isWhole_95 rfl ?_
              refine J_iast (q := 97) X dX10_isWhole_96 hS (by omega) (by omega) (by decide) rfl (fun Ew96 hkq96 hsq96 => ?_)
              replace hS := hkq96
              replace hM := (hsq96 78 (by omega)).trans hM
              replace hMa := (hsq96 84 (by omega)).trans hMa
              replace hF : ∀ j : Nat, j ≠ 79 → Ew96 j = E0 j := fun j hj => (hsq96 j (by omega)).trans (hF j hj)
              refine J_iinc (q := 100) X dX10_isWhole_97 rfl (by decide) rfl rfl ?_
              refine J_goto (q := 4) X dX10_isWhole_100 (by decide) ?_
              refine J_kill 3 ?_
              refine ih4 _ _ _ _ (by omega) his2 ⟨fun z j a b => ?_, fun z => hal2.2 ⟨hall.2 (fun j a b => z j a (by omega)), z i (by omega) (by omega)⟩⟩ (fun j => ?_) hM hS hMa hF (by omega)
              · by_cases e : j = i
                · rw [e]; exact (hal2.1 z).2
                · exact hall.1 (hal2.1 z).1 j a (by omega)
              · simp only [iu, hgi0, hgg]
                by_cases e : j = 183 + i
                · rw [if_pos e, if_pos (by omega), e, show 183 + i - 183 = i by omega]
                  first
                    | (rw [if_pos (by assumption)]; done)
                    | (rw [if_neg (by assumption)]; done)
                · rw [if_neg e]
                  by_cases e2 : 183 ≤ j ∧ j < 183 + i
                  · rw [if_pos e2, if_pos (show 183 ≤ j ∧ j < 183 + (i + 1) by omega)]
                  · rw [if_neg e2, if_neg (show ¬ (183 ≤ j ∧ j < 183 + (i + 1)) by omega)]
            · refine J_sipush (q := 91) X dX10_isWhole_88 rfl (by decide) ?_
              refine J_goto (q := 95) X dX10_isWhole_91 (by decide) ?_
              refine J_iadd (q := 96) X dX10_isWhole_95 rfl ?_
              refine J_iast (q := 97) X dX10_isWhole_96 hS (by omega) (by omega) (by decide) rfl (fun Ew96 hkq96 hsq96 => ?_)
              replace hS := hkq96
              replace hM := (hsq96 78 (by omega)).trans hM
              replace hMa := (hsq96 84 (by omega)).trans hMa
              replace hF : ∀ j : Nat, j ≠ 79 → Ew96 j = E0 j := fun j hj => (hsq96 j (by omega)).trans (hF j hj)
              refine J_iinc (q := 100) X dX10_isWhole_97 rfl (by decide) rfl rfl ?_
              refine J_goto (q := 4) X dX10_isWhole_100 (by decide) ?_
              refine J_kill 3 ?_
              refine ih4 _ _ _ _ (by omega) his2 ⟨fun z j a b => ?_, fun z => hal2.2 ⟨hall.2 (fun j a b => z j a (by omega)), z i (by omega) (by omega)⟩⟩ (fun j => ?_) hM hS hMa hF (by omega)
              · by_cases e : j = i
                · rw [e]; exact (hal2.1 z).2
                · exact hall.1 (hal2.1 z).1 j a (by omega)
              · simp only [iu, hgi0, hgg]
                by_cases e : j = 183 + i
                · rw [if_pos e, if_pos (by omega), e, show 183 + i - 183 = i by omega]
                  first
                    | (rw [if_pos (by assumption)]; done)
                    | (rw [if_neg (by assumption)]; done)
                · rw [if_neg e]
                  by_cases e2 : 183 ≤ j ∧ j < 183 + i
                  · rw [if_pos e2, if_pos (show 183 ≤ j ∧ j < 183 + (i + 1) by omega)]
                  · rw [if_neg e2, if_neg (show ¬ (183 ≤ j ∧ j < 183 + (i + 1)) by omega)]
          refine J_iload_n (q := 45) X dX10_isWhole_44 rfl rfl ?_
          refine J_if_eq (q := 48) (tgt := 65) X dX10_isWhole_45 (by decide) rfl (by omega) (fun cq45 => ?_) (fun cq45 => ?_)
          · refine J_iconst (q := 66) X dX10_isWhole_65 rfl ?_
            first
              | exact jn66 _ (Or.inl rfl) ⟨fun z => by omega, fun z => by have z1 := z.1; omega⟩
              | exact jn66 _ (Or.inr rfl) ⟨fun _ => ⟨by omega, Or.inl (by assumption)⟩, fun _ => rfl⟩
              | exact jn66 _ (Or.inr rfl) ⟨fun _ => ⟨by omega, Or.inr (hgd.1 (by omega))⟩, fun _ => rfl⟩
              | exact jn66 _ (Or.inl rfl) ⟨fun z => by omega, fun z => by
                  rcases z.2 with z2 | z2
                  · exact absurd z2 (by assumption)
                  · have z3 := hgd.2 z2; omega⟩
          · refine J_aload_n (q := 49) X dX10_isWhole_48 rfl rfl ?_
            refine J_get (q := 52) X dX10_isWhole_49 fX10_25 hM (by omega) rfl rfl ?_
            refine J_iload_n (q := 53) X dX10_isWhole_52 rfl rfl ?_
            refine J_iald (q := 54) X dX10_isWhole_53 hMa (by omega) (by omega) (by decide) rfl ?_
            refine J_if_eq (q := 57) (tgt := 61) X dX10_isWhole_54 (by decide) rfl (by omega) (fun cq54 => ?_) (fun cq54 => ?_)
            · refine J_iconst (q := 62) X dX10_isWhole_61 rfl ?_
              refine J_goto (q := 66) X dX10_isWhole_62 (by decide) ?_
              first
                | exact jn66 _ (Or.inl rfl) ⟨fun z => by omega, fun z => by have z1 := z.1; omega⟩
                | exact jn66 _ (Or.inr rfl) ⟨fun _ => ⟨by omega, Or.inl (by assumption)⟩, fun _ => rfl⟩
                | exact jn66 _ (Or.inr rfl) ⟨fun _ => ⟨by omega, Or.inr (hgd.1 (by omega))⟩, fun _ => rfl⟩
                | exact jn66 _ (Or.inl rfl) ⟨fun z => by omega, fun z => by
                    rcases z.2 with z2 | z2
                    · exact absurd z2 (by assumption)
                    · have z3 := hgd.2 z2; omega⟩
            · refine J_iload_n (q := 58) X dX10_isWhole_57 rfl rfl ?_
              refine J_if_eq (q := 61) (tgt := 65) X dX10_isWhole_58 (by decide) rfl (by omega) (fun cq58 => ?_) (fun cq58 => ?_)
              · refine J_iconst (q := 66) X dX10_isWhole_65 rfl ?_
                first
                  | exact jn66 _ (Or.inl rfl) ⟨fun z => by omega, fun z => by have z1 := z.1; omega⟩
                  | exact jn66 _ (Or.inr rfl) ⟨fun _ => ⟨by omega, Or.inl (by assumption)⟩, fun _ => rfl⟩
                  | exact jn66 _ (Or.inr rfl) ⟨fun _ => ⟨by omega, Or.inr (hgd.1 (by omega))⟩, fun _ => rfl⟩
                  | exact jn66 _ (Or.inl rfl) ⟨fun z => by omega, fun z => by
                      rcases z.2 with z2 | z2
                      · exact absurd z2 (by assumption)
                      · have z3 := hgd.2 z2; omega⟩
              · refine J_iconst (q := 62) X dX10_isWhole_61 rfl ?_
                refine J_goto (q := 66) X dX10_isWhole_62 (by decide) ?_
                first
                  | exact jn66 _ (Or.inl rfl) ⟨fun z => by omega, fun z => by have z1 := z.1; omega⟩
                  | exact jn66 _ (Or.inr rfl) ⟨fun _ => ⟨by omega, Or.inl (by assumption)⟩, fun _ => rfl⟩
                  | exact jn66 _ (Or.inr rfl) ⟨fun _ => ⟨by omega, Or.inr (hgd.1 (by omega))⟩, fun _ => rfl⟩
                  | exact jn66 _ (Or.inl rfl) ⟨fun z => by omega, fun z => by
                      rcases z.2 with z2 | z2
                      · exact absurd z2 (by assumption)
                      · have z3 := hgd.2 z2; omega⟩
        refine J_iload_n (q := 11) X dX10_isWhole_10 rfl rfl ?_
        refine J_aload_n (q := 12) X dX10_isWhole_11 rfl rfl ?_
        refine J_get (q := 15) X dX10_isWhole_12 fX10_7 hM (by omega) rfl rfl ?_
        refine J_sipush (q := 18) X dX10_isWhole_15 rfl (by decide) ?_
        refine J_iald (q := 19) X dX10_isWhole_18 hS (by omega) (by omega) (by decide) rfl ?_
        refine J_icmp_ge (q := 22) (tgt := 42) X dX10_isWhole_19 (by decide) rfl (by omega) (by omega) (fun cq19 => ?_) (fun cq19 => ?_)
        · refine J_iconst (q := 43) X dX10_isWhole_42 rfl ?_
          first
            | exact jn43 _ (Or.inr rfl) ⟨fun _ => ⟨by omega, by rw [show f i % 128 = f i by omega]; exact hgi ▸ cq35⟩, fun _ => rfl⟩
            | exact jn43 _ (Or.inl rfl) ⟨fun z => by omega, fun z => absurd (show opn (gg (183 + i)) by rw [hgi, ← show f i % 128 = f i by omega]; exact z.2) cq35⟩
            | exact jn43 _ (Or.inl rfl) ⟨fun z => by omega, fun z => by have z1 := z.1; omega⟩
        · have hgi : gg (183 + i) = f i := by rw [hgi0]; exact (hgf i (by omega) (by omega)).1
          have hsg : sgn (f i) := (hgf i (by omega) (by omega)).2
          have hfb : 0 ≤ f i ∧ f i ≤ 127 := by omega
          refine J_aload_n (q := 23) X dX10_isWhole_22 rfl rfl ?_
          refine J_get (q := 26) X dX10_isWhole_23 fX10_7 hM (by omega) rfl rfl ?_
          refine J_sipush (q := 29) X dX10_isWhole_26 rfl (by decide) ?_
          refine J_iload_n (q := 30) X dX10_isWhole_29 rfl rfl ?_
          refine J_iadd (q := 31) X dX10_isWhole_30 rfl ?_
          refine J_iald (q := 32) X dX10_isWhole_31 hS (by omega) (by omega) (by decide) rfl ?_
          refine J_callP (q := 35) (jrS X mX10_142 dX10_isWhole_32 (c_X10_isOpen (by omega)) rfl rfl (Nat.le_of_ble_eq_true rfl) (by decide)) rfl ?_
          refine J_if_eqB (q := 38) (tgt := 42) X dX10_isWhole_35 (by decide) rfl (fun cq35 => ?_) (fun cq35 => ?_)
          · refine J_iconst (q := 43) X dX10_isWhole_42 rfl ?_
            first
              | exact jn43 _ (Or.inr rfl) ⟨fun _ => ⟨by omega, by rw [show f i % 128 = f i by omega]; exact hgi ▸ cq35⟩, fun _ => rfl⟩
              | exact jn43 _ (Or.inl rfl) ⟨fun z => by omega, fun z => absurd (show opn (gg (183 + i)) by rw [hgi, ← show f i % 128 = f i by omega]; exact z.2) cq35⟩
              | exact jn43 _ (Or.inl rfl) ⟨fun z => by omega, fun z => by have z1 := z.1; omega⟩
          · refine J_iconst (q := 39) X dX10_isWhole_38 rfl ?_
            refine J_goto (q := 43) X dX10_isWhole_39 (by decide) ?_
            first
              | exact jn43 _ (Or.inr rfl) ⟨fun _ => ⟨by omega, by rw [show f i % 128 = f i by omega]; exact hgi ▸ cq35⟩, fun _ => rfl⟩
              | exact jn43 _ (Or.inl rfl) ⟨fun z => by omega, fun z => absurd (show opn (gg (183 + i)) by rw [hgi, ← show f i % 128 = f i by omega]; exact z.2) cq35⟩
              | exact jn43 _ (Or.inl rfl) ⟨fun z => by omega, fun z => by have z1 := z.1; omega⟩
  exact lp4 1000 _ _ _ _ (by omega) (Or.inr rfl) ⟨fun _ j a b => by omega, fun _ => rfl⟩ (fun j => by rw [if_neg (by omega)]) hM hS hMa hF (by omega)
